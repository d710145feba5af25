section
-- ===== PART A: goes FIRST, ahead of the names: the tables' words, and 'selects' of the private methods out of them =====
/-- a private method of a class that the tables say can be made, by its rows of tables_1 -/
def lw_okq (q : MethodName × Nat) : Prop := (q.1.cls ≠ "java/lang/invoke/MethodHandle" ∧ q.1.cls ≠ "java/lang/invoke/VarHandle") ∧ Cond.instantiable q.1.cls q.2 ∈ tables_1 ∧ Cond.privateMethod q.1 ∈ tables_1 ∧ Cond.instanceMethod q.1 ∈ tables_1
theorem lw_p0 : lw_okq (⟨"SaltFarm", "refuse", "(I)I"⟩, 16) := ⟨⟨by decide +kernel, by decide +kernel⟩, List.mem_of_getElem? (i := 26) (by decide +kernel), List.mem_of_getElem? (i := 282) (by decide +kernel), List.mem_of_getElem? (i := 283) (by decide +kernel)⟩
theorem lw_p1 : lw_okq (⟨"SaltFarm", "grant", "(I)I"⟩, 16) := ⟨⟨by decide +kernel, by decide +kernel⟩, List.mem_of_getElem? (i := 26) (by decide +kernel), List.mem_of_getElem? (i := 320) (by decide +kernel), List.mem_of_getElem? (i := 321) (by decide +kernel)⟩
theorem lw_p2 : lw_okq (⟨"SaltFarm", "provinceAt", "(I)LSaltFarm$Province;"⟩, 16) := ⟨⟨by decide +kernel, by decide +kernel⟩, List.mem_of_getElem? (i := 26) (by decide +kernel), List.mem_of_getElem? (i := 328) (by decide +kernel), List.mem_of_getElem? (i := 329) (by decide +kernel)⟩
theorem lw_p3 : lw_okq (⟨"SaltFarm", "deny", "(I)Z"⟩, 16) := ⟨⟨by decide +kernel, by decide +kernel⟩, List.mem_of_getElem? (i := 26) (by decide +kernel), List.mem_of_getElem? (i := 332) (by decide +kernel), List.mem_of_getElem? (i := 333) (by decide +kernel)⟩
theorem lw_p4 : lw_okq (⟨"SaltFarm", "allow", "()Z"⟩, 16) := ⟨⟨by decide +kernel, by decide +kernel⟩, List.mem_of_getElem? (i := 26) (by decide +kernel), List.mem_of_getElem? (i := 343) (by decide +kernel), List.mem_of_getElem? (i := 344) (by decide +kernel)⟩
theorem lw_p5 : lw_okq (⟨"SaltFarm", "borderAt", "(I)LSaltFarm$Border;"⟩, 16) := ⟨⟨by decide +kernel, by decide +kernel⟩, List.mem_of_getElem? (i := 26) (by decide +kernel), List.mem_of_getElem? (i := 377) (by decide +kernel), List.mem_of_getElem? (i := 378) (by decide +kernel)⟩
theorem lw_p6 : lw_okq (⟨"SaltFarm$Tokens", "add", "(II)V"⟩, 3) := ⟨⟨by decide +kernel, by decide +kernel⟩, List.mem_of_getElem? (i := 62) (by decide +kernel), List.mem_of_getElem? (i := 493) (by decide +kernel), List.mem_of_getElem? (i := 494) (by decide +kernel)⟩
theorem lw_p7 : lw_okq (⟨"SaltFarm$Parser", "readsLine", "(I)Z"⟩, 7) := ⟨⟨by decide +kernel, by decide +kernel⟩, List.mem_of_getElem? (i := 56) (by decide +kernel), List.mem_of_getElem? (i := 497) (by decide +kernel), List.mem_of_getElem? (i := 498) (by decide +kernel)⟩
theorem lw_p8 : lw_okq (⟨"SaltFarm$Parser", "token", "()I"⟩, 7) := ⟨⟨by decide +kernel, by decide +kernel⟩, List.mem_of_getElem? (i := 56) (by decide +kernel), List.mem_of_getElem? (i := 501) (by decide +kernel), List.mem_of_getElem? (i := 502) (by decide +kernel)⟩
theorem lw_p9 : lw_okq (⟨"SaltFarm$Parser", "fail", "(I)Z"⟩, 7) := ⟨⟨by decide +kernel, by decide +kernel⟩, List.mem_of_getElem? (i := 56) (by decide +kernel), List.mem_of_getElem? (i := 505) (by decide +kernel), List.mem_of_getElem? (i := 506) (by decide +kernel)⟩
theorem lw_p10 : lw_okq (⟨"SaltFarm$Parser", "write", "(I)V"⟩, 7) := ⟨⟨by decide +kernel, by decide +kernel⟩, List.mem_of_getElem? (i := 56) (by decide +kernel), List.mem_of_getElem? (i := 509) (by decide +kernel), List.mem_of_getElem? (i := 510) (by decide +kernel)⟩
theorem lw_p11 : lw_okq (⟨"SaltFarm$Parser", "readsTests", "()Z"⟩, 7) := ⟨⟨by decide +kernel, by decide +kernel⟩, List.mem_of_getElem? (i := 56) (by decide +kernel), List.mem_of_getElem? (i := 513) (by decide +kernel), List.mem_of_getElem? (i := 514) (by decide +kernel)⟩
theorem lw_p12 : lw_okq (⟨"SaltFarm$Parser", "readsSum", "(I)Z"⟩, 7) := ⟨⟨by decide +kernel, by decide +kernel⟩, List.mem_of_getElem? (i := 56) (by decide +kernel), List.mem_of_getElem? (i := 520) (by decide +kernel), List.mem_of_getElem? (i := 521) (by decide +kernel)⟩
theorem lw_p13 : lw_okq (⟨"SaltFarm$Parser", "readsTerm", "(I)Z"⟩, 7) := ⟨⟨by decide +kernel, by decide +kernel⟩, List.mem_of_getElem? (i := 56) (by decide +kernel), List.mem_of_getElem? (i := 524) (by decide +kernel), List.mem_of_getElem? (i := 525) (by decide +kernel)⟩
theorem lw_p14 : lw_okq (⟨"SaltFarm$Parser", "readsOne", "(I)Z"⟩, 7) := ⟨⟨by decide +kernel, by decide +kernel⟩, List.mem_of_getElem? (i := 56) (by decide +kernel), List.mem_of_getElem? (i := 528) (by decide +kernel), List.mem_of_getElem? (i := 529) (by decide +kernel)⟩
theorem lw_p15 : lw_okq (⟨"SaltFarm$Parser", "passesSign", "()Z"⟩, 7) := ⟨⟨by decide +kernel, by decide +kernel⟩, List.mem_of_getElem? (i := 56) (by decide +kernel), List.mem_of_getElem? (i := 532) (by decide +kernel), List.mem_of_getElem? (i := 533) (by decide +kernel)⟩
def lw_privs_1 : List (MethodName × Nat) := [(⟨"SaltFarm", "refuse", "(I)I"⟩, 16), (⟨"SaltFarm", "grant", "(I)I"⟩, 16), (⟨"SaltFarm", "provinceAt", "(I)LSaltFarm$Province;"⟩, 16), (⟨"SaltFarm", "deny", "(I)Z"⟩, 16), (⟨"SaltFarm", "allow", "()Z"⟩, 16), (⟨"SaltFarm", "borderAt", "(I)LSaltFarm$Border;"⟩, 16), (⟨"SaltFarm$Tokens", "add", "(II)V"⟩, 3), (⟨"SaltFarm$Parser", "readsLine", "(I)Z"⟩, 7), (⟨"SaltFarm$Parser", "token", "()I"⟩, 7), (⟨"SaltFarm$Parser", "fail", "(I)Z"⟩, 7), (⟨"SaltFarm$Parser", "write", "(I)V"⟩, 7), (⟨"SaltFarm$Parser", "readsTests", "()Z"⟩, 7), (⟨"SaltFarm$Parser", "readsSum", "(I)Z"⟩, 7), (⟨"SaltFarm$Parser", "readsTerm", "(I)Z"⟩, 7), (⟨"SaltFarm$Parser", "readsOne", "(I)Z"⟩, 7), (⟨"SaltFarm$Parser", "passesSign", "()Z"⟩, 7)]
theorem lw_r1 : ∀ q ∈ lw_privs_1, lw_okq q := List.forall_mem_cons.mpr ⟨lw_p0, List.forall_mem_cons.mpr ⟨lw_p1, List.forall_mem_cons.mpr ⟨lw_p2, List.forall_mem_cons.mpr ⟨lw_p3, List.forall_mem_cons.mpr ⟨lw_p4, List.forall_mem_cons.mpr ⟨lw_p5, List.forall_mem_cons.mpr ⟨lw_p6, List.forall_mem_cons.mpr ⟨lw_p7, List.forall_mem_cons.mpr ⟨lw_p8, List.forall_mem_cons.mpr ⟨lw_p9, List.forall_mem_cons.mpr ⟨lw_p10, List.forall_mem_cons.mpr ⟨lw_p11, List.forall_mem_cons.mpr ⟨lw_p12, List.forall_mem_cons.mpr ⟨lw_p13, List.forall_mem_cons.mpr ⟨lw_p14, List.forall_mem_cons.mpr ⟨lw_p15, fun _ h => absurd h List.not_mem_nil⟩⟩⟩⟩⟩⟩⟩⟩⟩⟩⟩⟩⟩⟩⟩⟩
theorem lw_p16 : lw_okq (⟨"SaltFarm$Law", "learnYear", "(LSaltFarm$Province;II)V"⟩, 3) := ⟨⟨by decide +kernel, by decide +kernel⟩, List.mem_of_getElem? (i := 106) (by decide +kernel), List.mem_of_getElem? (i := 595) (by decide +kernel), List.mem_of_getElem? (i := 596) (by decide +kernel)⟩
theorem lw_p17 : lw_okq (⟨"SaltFarm$Reckoner", "pop", "()I"⟩, 6) := ⟨⟨by decide +kernel, by decide +kernel⟩, List.mem_of_getElem? (i := 114) (by decide +kernel), List.mem_of_getElem? (i := 604) (by decide +kernel), List.mem_of_getElem? (i := 605) (by decide +kernel)⟩
theorem lw_p18 : lw_okq (⟨"SaltFarm$Reckoner", "step", "(I)Z"⟩, 6) := ⟨⟨by decide +kernel, by decide +kernel⟩, List.mem_of_getElem? (i := 114) (by decide +kernel), List.mem_of_getElem? (i := 608) (by decide +kernel), List.mem_of_getElem? (i := 609) (by decide +kernel)⟩
theorem lw_p19 : lw_okq (⟨"SaltFarm$Reckoner", "push", "(I)V"⟩, 6) := ⟨⟨by decide +kernel, by decide +kernel⟩, List.mem_of_getElem? (i := 114) (by decide +kernel), List.mem_of_getElem? (i := 612) (by decide +kernel), List.mem_of_getElem? (i := 613) (by decide +kernel)⟩
theorem lw_p20 : lw_okq (⟨"SaltFarm$Reckoner", "named", "(I)I"⟩, 6) := ⟨⟨by decide +kernel, by decide +kernel⟩, List.mem_of_getElem? (i := 114) (by decide +kernel), List.mem_of_getElem? (i := 616) (by decide +kernel), List.mem_of_getElem? (i := 617) (by decide +kernel)⟩
theorem lw_p21 : lw_okq (⟨"SaltFarm", "survey", "()V"⟩, 16) := ⟨⟨by decide +kernel, by decide +kernel⟩, List.mem_of_getElem? (i := 26) (by decide +kernel), List.mem_of_getElem? (i := 642) (by decide +kernel), List.mem_of_getElem? (i := 643) (by decide +kernel)⟩
theorem lw_p22 : lw_okq (⟨"SaltFarm$Market", "spread", "([II)V"⟩, 12) := ⟨⟨by decide +kernel, by decide +kernel⟩, List.mem_of_getElem? (i := 154) (by decide +kernel), List.mem_of_getElem? (i := 658) (by decide +kernel), List.mem_of_getElem? (i := 659) (by decide +kernel)⟩
theorem lw_p23 : lw_okq (⟨"SaltFarm$Market", "measureTo", "(I)V"⟩, 12) := ⟨⟨by decide +kernel, by decide +kernel⟩, List.mem_of_getElem? (i := 154) (by decide +kernel), List.mem_of_getElem? (i := 666) (by decide +kernel), List.mem_of_getElem? (i := 667) (by decide +kernel)⟩
theorem lw_p24 : lw_okq (⟨"SaltFarm$Market", "firstOnward", "(I)I"⟩, 12) := ⟨⟨by decide +kernel, by decide +kernel⟩, List.mem_of_getElem? (i := 154) (by decide +kernel), List.mem_of_getElem? (i := 726) (by decide +kernel), List.mem_of_getElem? (i := 727) (by decide +kernel)⟩
theorem lw_p25 : lw_okq (⟨"SaltFarm$Watch", "charge", "(LSaltFarm$Market;I)V"⟩, 4) := ⟨⟨by decide +kernel, by decide +kernel⟩, List.mem_of_getElem? (i := 203) (by decide +kernel), List.mem_of_getElem? (i := 752) (by decide +kernel), List.mem_of_getElem? (i := 753) (by decide +kernel)⟩
theorem lw_p26 : lw_okq (⟨"SaltFarm$Watch", "keep", "()V"⟩, 4) := ⟨⟨by decide +kernel, by decide +kernel⟩, List.mem_of_getElem? (i := 203) (by decide +kernel), List.mem_of_getElem? (i := 758) (by decide +kernel), List.mem_of_getElem? (i := 759) (by decide +kernel)⟩
theorem lw_p27 : lw_okq (⟨"SaltFarm$Watch", "shift", "()Z"⟩, 4) := ⟨⟨by decide +kernel, by decide +kernel⟩, List.mem_of_getElem? (i := 203) (by decide +kernel), List.mem_of_getElem? (i := 762) (by decide +kernel), List.mem_of_getElem? (i := 763) (by decide +kernel)⟩
theorem lw_p28 : lw_okq (⟨"SaltFarm", "storeAt", "(I)LSaltFarm$Store;"⟩, 16) := ⟨⟨by decide +kernel, by decide +kernel⟩, List.mem_of_getElem? (i := 26) (by decide +kernel), List.mem_of_getElem? (i := 824) (by decide +kernel), List.mem_of_getElem? (i := 825) (by decide +kernel)⟩
theorem lw_p29 : lw_okq (⟨"SaltFarm", "guardsInAll", "()I"⟩, 16) := ⟨⟨by decide +kernel, by decide +kernel⟩, List.mem_of_getElem? (i := 26) (by decide +kernel), List.mem_of_getElem? (i := 846) (by decide +kernel), List.mem_of_getElem? (i := 847) (by decide +kernel)⟩
theorem lw_p30 : lw_okq (⟨"java/lang/Throwable", "fillInStackTrace", "(I)Ljava/lang/Throwable;"⟩, 6) := ⟨⟨by decide +kernel, by decide +kernel⟩, List.mem_of_getElem? (i := 942) (by decide +kernel), List.mem_of_getElem? (i := 940) (by decide +kernel), List.mem_of_getElem? (i := 941) (by decide +kernel)⟩
theorem lw_p31 : lw_okq (⟨"SaltFarmModel", "refused", "(I)I"⟩, 47) := ⟨⟨by decide +kernel, by decide +kernel⟩, List.mem_of_getElem? (i := 854) (by decide +kernel), List.mem_of_getElem? (i := 1126) (by decide +kernel), List.mem_of_getElem? (i := 1127) (by decide +kernel)⟩
def lw_privs_2 : List (MethodName × Nat) := [(⟨"SaltFarm$Law", "learnYear", "(LSaltFarm$Province;II)V"⟩, 3), (⟨"SaltFarm$Reckoner", "pop", "()I"⟩, 6), (⟨"SaltFarm$Reckoner", "step", "(I)Z"⟩, 6), (⟨"SaltFarm$Reckoner", "push", "(I)V"⟩, 6), (⟨"SaltFarm$Reckoner", "named", "(I)I"⟩, 6), (⟨"SaltFarm", "survey", "()V"⟩, 16), (⟨"SaltFarm$Market", "spread", "([II)V"⟩, 12), (⟨"SaltFarm$Market", "measureTo", "(I)V"⟩, 12), (⟨"SaltFarm$Market", "firstOnward", "(I)I"⟩, 12), (⟨"SaltFarm$Watch", "charge", "(LSaltFarm$Market;I)V"⟩, 4), (⟨"SaltFarm$Watch", "keep", "()V"⟩, 4), (⟨"SaltFarm$Watch", "shift", "()Z"⟩, 4), (⟨"SaltFarm", "storeAt", "(I)LSaltFarm$Store;"⟩, 16), (⟨"SaltFarm", "guardsInAll", "()I"⟩, 16), (⟨"java/lang/Throwable", "fillInStackTrace", "(I)Ljava/lang/Throwable;"⟩, 6), (⟨"SaltFarmModel", "refused", "(I)I"⟩, 47)]
theorem lw_r2 : ∀ q ∈ lw_privs_2, lw_okq q := List.forall_mem_cons.mpr ⟨lw_p16, List.forall_mem_cons.mpr ⟨lw_p17, List.forall_mem_cons.mpr ⟨lw_p18, List.forall_mem_cons.mpr ⟨lw_p19, List.forall_mem_cons.mpr ⟨lw_p20, List.forall_mem_cons.mpr ⟨lw_p21, List.forall_mem_cons.mpr ⟨lw_p22, List.forall_mem_cons.mpr ⟨lw_p23, List.forall_mem_cons.mpr ⟨lw_p24, List.forall_mem_cons.mpr ⟨lw_p25, List.forall_mem_cons.mpr ⟨lw_p26, List.forall_mem_cons.mpr ⟨lw_p27, List.forall_mem_cons.mpr ⟨lw_p28, List.forall_mem_cons.mpr ⟨lw_p29, List.forall_mem_cons.mpr ⟨lw_p30, List.forall_mem_cons.mpr ⟨lw_p31, fun _ h => absurd h List.not_mem_nil⟩⟩⟩⟩⟩⟩⟩⟩⟩⟩⟩⟩⟩⟩⟩⟩
theorem lw_p32 : lw_okq (⟨"SaltFarmModel", "done", "(I)I"⟩, 47) := ⟨⟨by decide +kernel, by decide +kernel⟩, List.mem_of_getElem? (i := 854) (by decide +kernel), List.mem_of_getElem? (i := 1130) (by decide +kernel), List.mem_of_getElem? (i := 1131) (by decide +kernel)⟩
theorem lw_p33 : lw_okq (⟨"SaltFarmModel", "isProvince", "(I)Z"⟩, 47) := ⟨⟨by decide +kernel, by decide +kernel⟩, List.mem_of_getElem? (i := 854) (by decide +kernel), List.mem_of_getElem? (i := 1138) (by decide +kernel), List.mem_of_getElem? (i := 1139) (by decide +kernel)⟩
theorem lw_p34 : lw_okq (⟨"SaltFarmModel", "denied", "(I)Z"⟩, 47) := ⟨⟨by decide +kernel, by decide +kernel⟩, List.mem_of_getElem? (i := 854) (by decide +kernel), List.mem_of_getElem? (i := 1142) (by decide +kernel), List.mem_of_getElem? (i := 1143) (by decide +kernel)⟩
theorem lw_p35 : lw_okq (⟨"SaltFarmModel", "granted", "()Z"⟩, 47) := ⟨⟨by decide +kernel, by decide +kernel⟩, List.mem_of_getElem? (i := 854) (by decide +kernel), List.mem_of_getElem? (i := 1146) (by decide +kernel), List.mem_of_getElem? (i := 1147) (by decide +kernel)⟩
theorem lw_p36 : lw_okq (⟨"SaltFarmModel", "isBorder", "(I)Z"⟩, 47) := ⟨⟨by decide +kernel, by decide +kernel⟩, List.mem_of_getElem? (i := 854) (by decide +kernel), List.mem_of_getElem? (i := 1158) (by decide +kernel), List.mem_of_getElem? (i := 1159) (by decide +kernel)⟩
theorem lw_p37 : lw_okq (⟨"SaltFarmModel", "reads", "()V"⟩, 47) := ⟨⟨by decide +kernel, by decide +kernel⟩, List.mem_of_getElem? (i := 854) (by decide +kernel), List.mem_of_getElem? (i := 1174) (by decide +kernel), List.mem_of_getElem? (i := 1175) (by decide +kernel)⟩
theorem lw_p38 : lw_okq (⟨"SaltFarmModel", "next", "()V"⟩, 47) := ⟨⟨by decide +kernel, by decide +kernel⟩, List.mem_of_getElem? (i := 854) (by decide +kernel), List.mem_of_getElem? (i := 1178) (by decide +kernel), List.mem_of_getElem? (i := 1179) (by decide +kernel)⟩
theorem lw_p39 : lw_okq (⟨"SaltFarmModel", "byteAt", "(I)I"⟩, 47) := ⟨⟨by decide +kernel, by decide +kernel⟩, List.mem_of_getElem? (i := 854) (by decide +kernel), List.mem_of_getElem? (i := 1182) (by decide +kernel), List.mem_of_getElem? (i := 1183) (by decide +kernel)⟩
theorem lw_p40 : lw_okq (⟨"SaltFarmModel", "isWord", "(Ljava/lang/String;)Z"⟩, 47) := ⟨⟨by decide +kernel, by decide +kernel⟩, List.mem_of_getElem? (i := 854) (by decide +kernel), List.mem_of_getElem? (i := 1194) (by decide +kernel), List.mem_of_getElem? (i := 1195) (by decide +kernel)⟩
theorem lw_p41 : lw_okq (⟨"SaltFarmModel", "stop", "(I)LSaltFarmModel$Stop;"⟩, 47) := ⟨⟨by decide +kernel, by decide +kernel⟩, List.mem_of_getElem? (i := 854) (by decide +kernel), List.mem_of_getElem? (i := 1204) (by decide +kernel), List.mem_of_getElem? (i := 1205) (by decide +kernel)⟩
theorem lw_p42 : lw_okq (⟨"SaltFarmModel", "readTest", "(I)V"⟩, 47) := ⟨⟨by decide +kernel, by decide +kernel⟩, List.mem_of_getElem? (i := 854) (by decide +kernel), List.mem_of_getElem? (i := 1209) (by decide +kernel), List.mem_of_getElem? (i := 1210) (by decide +kernel)⟩
theorem lw_p43 : lw_okq (⟨"SaltFarmModel", "is", "(I)Z"⟩, 47) := ⟨⟨by decide +kernel, by decide +kernel⟩, List.mem_of_getElem? (i := 854) (by decide +kernel), List.mem_of_getElem? (i := 1213) (by decide +kernel), List.mem_of_getElem? (i := 1214) (by decide +kernel)⟩
theorem lw_p44 : lw_okq (⟨"SaltFarmModel", "nameHere", "()I"⟩, 47) := ⟨⟨by decide +kernel, by decide +kernel⟩, List.mem_of_getElem? (i := 854) (by decide +kernel), List.mem_of_getElem? (i := 1217) (by decide +kernel), List.mem_of_getElem? (i := 1218) (by decide +kernel)⟩
theorem lw_p45 : lw_okq (⟨"SaltFarmModel", "readSum", "()V"⟩, 47) := ⟨⟨by decide +kernel, by decide +kernel⟩, List.mem_of_getElem? (i := 854) (by decide +kernel), List.mem_of_getElem? (i := 1227) (by decide +kernel), List.mem_of_getElem? (i := 1228) (by decide +kernel)⟩
theorem lw_p46 : lw_okq (⟨"SaltFarmModel", "readTerm", "()V"⟩, 47) := ⟨⟨by decide +kernel, by decide +kernel⟩, List.mem_of_getElem? (i := 854) (by decide +kernel), List.mem_of_getElem? (i := 1231) (by decide +kernel), List.mem_of_getElem? (i := 1232) (by decide +kernel)⟩
theorem lw_p47 : lw_okq (⟨"SaltFarmModel", "readOne", "()V"⟩, 47) := ⟨⟨by decide +kernel, by decide +kernel⟩, List.mem_of_getElem? (i := 854) (by decide +kernel), List.mem_of_getElem? (i := 1235) (by decide +kernel), List.mem_of_getElem? (i := 1236) (by decide +kernel)⟩
def lw_privs_3 : List (MethodName × Nat) := [(⟨"SaltFarmModel", "done", "(I)I"⟩, 47), (⟨"SaltFarmModel", "isProvince", "(I)Z"⟩, 47), (⟨"SaltFarmModel", "denied", "(I)Z"⟩, 47), (⟨"SaltFarmModel", "granted", "()Z"⟩, 47), (⟨"SaltFarmModel", "isBorder", "(I)Z"⟩, 47), (⟨"SaltFarmModel", "reads", "()V"⟩, 47), (⟨"SaltFarmModel", "next", "()V"⟩, 47), (⟨"SaltFarmModel", "byteAt", "(I)I"⟩, 47), (⟨"SaltFarmModel", "isWord", "(Ljava/lang/String;)Z"⟩, 47), (⟨"SaltFarmModel", "stop", "(I)LSaltFarmModel$Stop;"⟩, 47), (⟨"SaltFarmModel", "readTest", "(I)V"⟩, 47), (⟨"SaltFarmModel", "is", "(I)Z"⟩, 47), (⟨"SaltFarmModel", "nameHere", "()I"⟩, 47), (⟨"SaltFarmModel", "readSum", "()V"⟩, 47), (⟨"SaltFarmModel", "readTerm", "()V"⟩, 47), (⟨"SaltFarmModel", "readOne", "()V"⟩, 47)]
theorem lw_r3 : ∀ q ∈ lw_privs_3, lw_okq q := List.forall_mem_cons.mpr ⟨lw_p32, List.forall_mem_cons.mpr ⟨lw_p33, List.forall_mem_cons.mpr ⟨lw_p34, List.forall_mem_cons.mpr ⟨lw_p35, List.forall_mem_cons.mpr ⟨lw_p36, List.forall_mem_cons.mpr ⟨lw_p37, List.forall_mem_cons.mpr ⟨lw_p38, List.forall_mem_cons.mpr ⟨lw_p39, List.forall_mem_cons.mpr ⟨lw_p40, List.forall_mem_cons.mpr ⟨lw_p41, List.forall_mem_cons.mpr ⟨lw_p42, List.forall_mem_cons.mpr ⟨lw_p43, List.forall_mem_cons.mpr ⟨lw_p44, List.forall_mem_cons.mpr ⟨lw_p45, List.forall_mem_cons.mpr ⟨lw_p46, List.forall_mem_cons.mpr ⟨lw_p47, fun _ h => absurd h List.not_mem_nil⟩⟩⟩⟩⟩⟩⟩⟩⟩⟩⟩⟩⟩⟩⟩⟩
theorem lw_p48 : lw_okq (⟨"SaltFarmModel", "sign", "()V"⟩, 47) := ⟨⟨by decide +kernel, by decide +kernel⟩, List.mem_of_getElem? (i := 854) (by decide +kernel), List.mem_of_getElem? (i := 1243) (by decide +kernel), List.mem_of_getElem? (i := 1244) (by decide +kernel)⟩
theorem lw_p49 : lw_okq (⟨"SaltFarmModel", "forceOf", "(II)I"⟩, 47) := ⟨⟨by decide +kernel, by decide +kernel⟩, List.mem_of_getElem? (i := 854) (by decide +kernel), List.mem_of_getElem? (i := 1259) (by decide +kernel), List.mem_of_getElem? (i := 1260) (by decide +kernel)⟩
theorem lw_p50 : lw_okq (⟨"SaltFarmModel", "priceOf", "(IIZ)I"⟩, 47) := ⟨⟨by decide +kernel, by decide +kernel⟩, List.mem_of_getElem? (i := 854) (by decide +kernel), List.mem_of_getElem? (i := 1267) (by decide +kernel), List.mem_of_getElem? (i := 1268) (by decide +kernel)⟩
theorem lw_p51 : lw_okq (⟨"SaltFarmModel", "tells", "(LSaltFarmModel$Edict;IIII)I"⟩, 47) := ⟨⟨by decide +kernel, by decide +kernel⟩, List.mem_of_getElem? (i := 854) (by decide +kernel), List.mem_of_getElem? (i := 1271) (by decide +kernel), List.mem_of_getElem? (i := 1272) (by decide +kernel)⟩
theorem lw_p52 : lw_okq (⟨"SaltFarmModel", "now", "()V"⟩, 47) := ⟨⟨by decide +kernel, by decide +kernel⟩, List.mem_of_getElem? (i := 854) (by decide +kernel), List.mem_of_getElem? (i := 1295) (by decide +kernel), List.mem_of_getElem? (i := 1296) (by decide +kernel)⟩
theorem lw_p53 : lw_okq (⟨"SaltFarmModel", "prices", "()V"⟩, 47) := ⟨⟨by decide +kernel, by decide +kernel⟩, List.mem_of_getElem? (i := 854) (by decide +kernel), List.mem_of_getElem? (i := 1299) (by decide +kernel), List.mem_of_getElem? (i := 1300) (by decide +kernel)⟩
theorem lw_p54 : lw_okq (⟨"SaltFarmModel", "ways", "([I)V"⟩, 47) := ⟨⟨by decide +kernel, by decide +kernel⟩, List.mem_of_getElem? (i := 854) (by decide +kernel), List.mem_of_getElem? (i := 1303) (by decide +kernel), List.mem_of_getElem? (i := 1304) (by decide +kernel)⟩
theorem lw_p55 : lw_okq (⟨"SaltFarmModel", "costOf", "(II)I"⟩, 47) := ⟨⟨by decide +kernel, by decide +kernel⟩, List.mem_of_getElem? (i := 854) (by decide +kernel), List.mem_of_getElem? (i := 1308) (by decide +kernel), List.mem_of_getElem? (i := 1309) (by decide +kernel)⟩
theorem lw_p56 : lw_okq (⟨"SaltFarmModel", "takenOf", "(I)J"⟩, 47) := ⟨⟨by decide +kernel, by decide +kernel⟩, List.mem_of_getElem? (i := 854) (by decide +kernel), List.mem_of_getElem? (i := 1325) (by decide +kernel), List.mem_of_getElem? (i := 1326) (by decide +kernel)⟩
theorem lw_p57 : lw_okq (⟨"SaltFarmModel", "restOf", "(I)J"⟩, 47) := ⟨⟨by decide +kernel, by decide +kernel⟩, List.mem_of_getElem? (i := 854) (by decide +kernel), List.mem_of_getElem? (i := 1329) (by decide +kernel), List.mem_of_getElem? (i := 1330) (by decide +kernel)⟩
theorem lw_p58 : lw_okq (⟨"SaltFarmModel", "crownOf", "()J"⟩, 47) := ⟨⟨by decide +kernel, by decide +kernel⟩, List.mem_of_getElem? (i := 854) (by decide +kernel), List.mem_of_getElem? (i := 1337) (by decide +kernel), List.mem_of_getElem? (i := 1338) (by decide +kernel)⟩
theorem lw_p59 : lw_okq (⟨"SaltFarmModel", "walks", "(I)V"⟩, 47) := ⟨⟨by decide +kernel, by decide +kernel⟩, List.mem_of_getElem? (i := 854) (by decide +kernel), List.mem_of_getElem? (i := 1349) (by decide +kernel), List.mem_of_getElem? (i := 1350) (by decide +kernel)⟩
theorem lw_p60 : lw_okq (⟨"SaltFarmModel", "tries", "(II)V"⟩, 47) := ⟨⟨by decide +kernel, by decide +kernel⟩, List.mem_of_getElem? (i := 854) (by decide +kernel), List.mem_of_getElem? (i := 1365) (by decide +kernel), List.mem_of_getElem? (i := 1366) (by decide +kernel)⟩
theorem lw_p61 : lw_okq (⟨"SaltFarmModel", "missingNow", "(I)I"⟩, 47) := ⟨⟨by decide +kernel, by decide +kernel⟩, List.mem_of_getElem? (i := 854) (by decide +kernel), List.mem_of_getElem? (i := 1377) (by decide +kernel), List.mem_of_getElem? (i := 1378) (by decide +kernel)⟩
theorem lw_p62 : lw_okq (⟨"SaltFarmModel", "isStore", "(I)Z"⟩, 47) := ⟨⟨by decide +kernel, by decide +kernel⟩, List.mem_of_getElem? (i := 854) (by decide +kernel), List.mem_of_getElem? (i := 1390) (by decide +kernel), List.mem_of_getElem? (i := 1391) (by decide +kernel)⟩
def lw_privs_4 : List (MethodName × Nat) := [(⟨"SaltFarmModel", "sign", "()V"⟩, 47), (⟨"SaltFarmModel", "forceOf", "(II)I"⟩, 47), (⟨"SaltFarmModel", "priceOf", "(IIZ)I"⟩, 47), (⟨"SaltFarmModel", "tells", "(LSaltFarmModel$Edict;IIII)I"⟩, 47), (⟨"SaltFarmModel", "now", "()V"⟩, 47), (⟨"SaltFarmModel", "prices", "()V"⟩, 47), (⟨"SaltFarmModel", "ways", "([I)V"⟩, 47), (⟨"SaltFarmModel", "costOf", "(II)I"⟩, 47), (⟨"SaltFarmModel", "takenOf", "(I)J"⟩, 47), (⟨"SaltFarmModel", "restOf", "(I)J"⟩, 47), (⟨"SaltFarmModel", "crownOf", "()J"⟩, 47), (⟨"SaltFarmModel", "walks", "(I)V"⟩, 47), (⟨"SaltFarmModel", "tries", "(II)V"⟩, 47), (⟨"SaltFarmModel", "missingNow", "(I)I"⟩, 47), (⟨"SaltFarmModel", "isStore", "(I)Z"⟩, 47)]
theorem lw_r4 : ∀ q ∈ lw_privs_4, lw_okq q := List.forall_mem_cons.mpr ⟨lw_p48, List.forall_mem_cons.mpr ⟨lw_p49, List.forall_mem_cons.mpr ⟨lw_p50, List.forall_mem_cons.mpr ⟨lw_p51, List.forall_mem_cons.mpr ⟨lw_p52, List.forall_mem_cons.mpr ⟨lw_p53, List.forall_mem_cons.mpr ⟨lw_p54, List.forall_mem_cons.mpr ⟨lw_p55, List.forall_mem_cons.mpr ⟨lw_p56, List.forall_mem_cons.mpr ⟨lw_p57, List.forall_mem_cons.mpr ⟨lw_p58, List.forall_mem_cons.mpr ⟨lw_p59, List.forall_mem_cons.mpr ⟨lw_p60, List.forall_mem_cons.mpr ⟨lw_p61, List.forall_mem_cons.mpr ⟨lw_p62, fun _ h => absurd h List.not_mem_nil⟩⟩⟩⟩⟩⟩⟩⟩⟩⟩⟩⟩⟩⟩⟩
def lw_privs : List (MethodName × Nat) := lw_privs_1 ++ (lw_privs_2 ++ (lw_privs_3 ++ (lw_privs_4)))
def lw_tbl : List Cond := k2_sels lw_privs ++ tables_1
theorem lw_privs_ok : ∀ q ∈ lw_privs, lw_okq q := by
  show ∀ q ∈ lw_privs_1 ++ (lw_privs_2 ++ (lw_privs_3 ++ (lw_privs_4))), lw_okq q
  exact List.forall_mem_append.mpr ⟨lw_r1, List.forall_mem_append.mpr ⟨lw_r2, List.forall_mem_append.mpr ⟨lw_r3, lw_r4⟩⟩⟩
-- ===== end of PART A; then your names; then what follows =====
end
section
-- names of classes, fields, methods: printed text of the claim; words of the tables by their places
def RX0 : String := "SaltFarm$Border"
def TX0 : u_T := fun k => match k with
  | 0 => ("SaltFarm$Border", "one", "I", true)
  | 1 => ("SaltFarm$Border", "other", "I", true)
  | 2 => ("SaltFarm$Border", "risk", "I", true)
  | _ => ("SaltFarm$Border", "guards", "I", false)
def tyX0 : Nat → FieldType := fun k => match k with
  | 0 => .int
  | 1 => .int
  | 2 => .int
  | _ => .int
abbrev wsX00 : List Cond := u_ws RX0 TX0 4
theorem nmX0 : ∀ a, a < 4 → ∀ b, b < 4 → a ≠ b → (TX0 a).2.1 ≠ (TX0 b).2.1 := by decide +kernel
theorem tyX0_ok : ∀ k, k < 4 → parseFieldDescriptor (TX0 k).2.2.1 = some (tyX0 k) := by decide +kernel
abbrev cX0_init : ByteArray := prog_2_method_1_code
def yX0_init : MethodName := ⟨RX0, "<init>", "(III)V"⟩
def RX1 : String := "SaltFarm$Edict"
def TX1 : u_T := fun k => match k with
  | 0 => ("SaltFarm$Edict", "province", "I", true)
  | 1 => ("SaltFarm$Edict", "year", "I", true)
  | _ => ("SaltFarm$Edict", "code", "[I", true)
def tyX1 : Nat → FieldType := fun k => match k with
  | 0 => .int
  | 1 => .int
  | _ => .array .int
abbrev wsX10 : List Cond := u_ws RX1 TX1 3
theorem nmX1 : ∀ a, a < 3 → ∀ b, b < 3 → a ≠ b → (TX1 a).2.1 ≠ (TX1 b).2.1 := by decide +kernel
theorem tyX1_ok : ∀ k, k < 3 → parseFieldDescriptor (TX1 k).2.2.1 = some (tyX1 k) := by decide +kernel
abbrev cX1_init : ByteArray := prog_3_method_1_code
def yX1_init : MethodName := ⟨RX1, "<init>", "(II[I)V"⟩
def RX2 : String := "SaltFarm$Law"
def TX2 : u_T := fun k => match k with
  | 0 => ("SaltFarm$Law", "edicts", "[LSaltFarm$Edict;", true)
  | 1 => ("SaltFarm$Law", "reckoner", "LSaltFarm$Reckoner;", true)
  | _ => ("SaltFarm$Law", "size", "I", false)
def tyX2 : Nat → FieldType := fun k => match k with
  | 0 => .array (.object "SaltFarm$Edict")
  | 1 => .object "SaltFarm$Reckoner"
  | _ => .int
abbrev wsX20 : List Cond := u_ws RX2 TX2 3
theorem nmX2 : ∀ a, a < 3 → ∀ b, b < 3 → a ≠ b → (TX2 a).2.1 ≠ (TX2 b).2.1 := by decide +kernel
theorem tyX2_ok : ∀ k, k < 3 → parseFieldDescriptor (TX2 k).2.2.1 = some (tyX2 k) := by decide +kernel
abbrev cX2_init : ByteArray := prog_4_method_1_code
def yX2_init : MethodName := ⟨RX2, "<init>", "()V"⟩
abbrev cX2_isFull : ByteArray := prog_4_method_2_code
def yX2_isFull : MethodName := ⟨RX2, "isFull", "()Z"⟩
abbrev cX2_add : ByteArray := prog_4_method_3_code
def yX2_add : MethodName := ⟨RX2, "add", "(LSaltFarm$Edict;)I"⟩
abbrev cX2_numberInForce : ByteArray := prog_4_method_4_code
def yX2_numberInForce : MethodName := ⟨RX2, "numberInForce", "(II)I"⟩
abbrev cX2_learn : ByteArray := prog_4_method_5_code
def yX2_learn : MethodName := ⟨RX2, "learn", "(LSaltFarm$Province;II)V"⟩
abbrev cX2_learnYear : ByteArray := prog_4_method_6_code
def yX2_learnYear : MethodName := ⟨RX2, "learnYear", "(LSaltFarm$Province;II)V"⟩
def RX3 : String := "SaltFarm$Market"
def TX3 : u_T := fun k => match k with
  | 0 => ("SaltFarm$Market", "prices", "[I", true)
  | 1 => ("SaltFarm$Market", "duePounds", "[J", true)
  | 2 => ("SaltFarm$Market", "restPounds", "[J", true)
  | 3 => ("SaltFarm$Market", "offers", "[I", true)
  | 4 => ("SaltFarm$Market", "tollsTo", "[I", true)
  | 5 => ("SaltFarm$Market", "way", "[I", true)
  | 6 => ("SaltFarm$Market", "ones", "[I", true)
  | 7 => ("SaltFarm$Market", "others", "[I", true)
  | 8 => ("SaltFarm$Market", "tolls", "[I", true)
  | 9 => ("SaltFarm$Market", "provinceCount", "I", false)
  | 10 => ("SaltFarm$Market", "borderCount", "I", false)
  | _ => ("SaltFarm$Market", "wayLength", "I", false)
def tyX3 : Nat → FieldType := fun k => match k with
  | 0 => .array .int
  | 1 => .array .long
  | 2 => .array .long
  | 3 => .array .int
  | 4 => .array .int
  | 5 => .array .int
  | 6 => .array .int
  | 7 => .array .int
  | 8 => .array .int
  | 9 => .int
  | 10 => .int
  | _ => .int
abbrev wsX30 : List Cond := u_ws RX3 TX3 12
theorem nmX3 : ∀ a, a < 12 → ∀ b, b < 12 → a ≠ b → (TX3 a).2.1 ≠ (TX3 b).2.1 := by decide +kernel
theorem tyX3_ok : ∀ k, k < 12 → parseFieldDescriptor (TX3 k).2.2.1 = some (tyX3 k) := by decide +kernel
abbrev cX3_init : ByteArray := prog_5_method_1_code
def yX3_init : MethodName := ⟨RX3, "<init>", "()V"⟩
abbrev cX3_seat : ByteArray := prog_5_method_2_code
def yX3_seat : MethodName := ⟨RX3, "seat", "(ILSaltFarm$Province;I)V"⟩
abbrev cX3_join : ByteArray := prog_5_method_3_code
def yX3_join : MethodName := ⟨RX3, "join", "(IIII)V"⟩
abbrev cX3_settle : ByteArray := prog_5_method_4_code
def yX3_settle : MethodName := ⟨RX3, "settle", "()V"⟩
abbrev cX3_leastCost : ByteArray := prog_5_method_5_code
def yX3_leastCost : MethodName := ⟨RX3, "leastCost", "(I)I"⟩
abbrev cX3_sourceOf : ByteArray := prog_5_method_6_code
def yX3_sourceOf : MethodName := ⟨RX3, "sourceOf", "(I)I"⟩
abbrev cX3_costBetween : ByteArray := prog_5_method_7_code
def yX3_costBetween : MethodName := ⟨RX3, "costBetween", "(II)I"⟩
abbrev cX3_takenOf : ByteArray := prog_5_method_8_code
def yX3_takenOf : MethodName := ⟨RX3, "takenOf", "(I)J"⟩
abbrev cX3_takenInAll : ByteArray := prog_5_method_9_code
def yX3_takenInAll : MethodName := ⟨RX3, "takenInAll", "()J"⟩
abbrev cX3_lostInAll : ByteArray := prog_5_method_10_code
def yX3_lostInAll : MethodName := ⟨RX3, "lostInAll", "()J"⟩
abbrev cX3_carriedOver : ByteArray := prog_5_method_11_code
def yX3_carriedOver : MethodName := ⟨RX3, "carriedOver", "(I)J"⟩
abbrev cX3_trace : ByteArray := prog_5_method_12_code
def yX3_trace : MethodName := ⟨RX3, "trace", "(I)V"⟩
abbrev cX3_borderOfWay : ByteArray := prog_5_method_13_code
def yX3_borderOfWay : MethodName := ⟨RX3, "borderOfWay", "(I)I"⟩
abbrev cX3_firstOnward : ByteArray := prog_5_method_14_code
def yX3_firstOnward : MethodName := ⟨RX3, "firstOnward", "(I)I"⟩
abbrev cX3_measureTo : ByteArray := prog_5_method_15_code
def yX3_measureTo : MethodName := ⟨RX3, "measureTo", "(I)V"⟩
abbrev cX3_spread : ByteArray := prog_5_method_16_code
def yX3_spread : MethodName := ⟨RX3, "spread", "([II)V"⟩
def RX4 : String := "SaltFarm$Parser"
def TX4 : u_T := fun k => match k with
  | 0 => ("SaltFarm$Parser", "list", "LSaltFarm$Tokens;", true)
  | 1 => ("SaltFarm$Parser", "code", "[I", true)
  | 2 => ("SaltFarm$Parser", "size", "I", false)
  | 3 => ("SaltFarm$Parser", "at", "I", false)
  | 4 => ("SaltFarm$Parser", "signs", "I", false)
  | 5 => ("SaltFarm$Parser", "fault", "I", false)
  | _ => ("SaltFarm$Parser", "place", "I", false)
def tyX4 : Nat → FieldType := fun k => match k with
  | 0 => .object "SaltFarm$Tokens"
  | 1 => .array .int
  | 2 => .int
  | 3 => .int
  | 4 => .int
  | 5 => .int
  | _ => .int
abbrev wsX40 : List Cond := u_ws RX4 TX4 7
theorem nmX4 : ∀ a, a < 7 → ∀ b, b < 7 → a ≠ b → (TX4 a).2.1 ≠ (TX4 b).2.1 := by decide +kernel
theorem tyX4_ok : ∀ k, k < 7 → parseFieldDescriptor (TX4 k).2.2.1 = some (tyX4 k) := by decide +kernel
abbrev cX4_init : ByteArray := prog_6_method_1_code
def yX4_init : MethodName := ⟨RX4, "<init>", "()V"⟩
abbrev cX4_reads : ByteArray := prog_6_method_2_code
def yX4_reads : MethodName := ⟨RX4, "reads", "([BI)Z"⟩
abbrev cX4_copyOfCode : ByteArray := prog_6_method_3_code
def yX4_copyOfCode : MethodName := ⟨RX4, "copyOfCode", "()[I"⟩
abbrev cX4_readsLine : ByteArray := prog_6_method_4_code
def yX4_readsLine : MethodName := ⟨RX4, "readsLine", "(I)Z"⟩
abbrev cX4_readsTests : ByteArray := prog_6_method_5_code
def yX4_readsTests : MethodName := ⟨RX4, "readsTests", "()Z"⟩
abbrev cX4_readsSum : ByteArray := prog_6_method_6_code
def yX4_readsSum : MethodName := ⟨RX4, "readsSum", "(I)Z"⟩
abbrev cX4_readsTerm : ByteArray := prog_6_method_7_code
def yX4_readsTerm : MethodName := ⟨RX4, "readsTerm", "(I)Z"⟩
abbrev cX4_readsOne : ByteArray := prog_6_method_8_code
def yX4_readsOne : MethodName := ⟨RX4, "readsOne", "(I)Z"⟩
abbrev cX4_passesSign : ByteArray := prog_6_method_9_code
def yX4_passesSign : MethodName := ⟨RX4, "passesSign", "()Z"⟩
abbrev cX4_faultAsOne : ByteArray := prog_6_method_10_code
def yX4_faultAsOne : MethodName := ⟨RX4, "faultAsOne", "(I)I"⟩
abbrev cX4_token : ByteArray := prog_6_method_11_code
def yX4_token : MethodName := ⟨RX4, "token", "()I"⟩
abbrev cX4_fail : ByteArray := prog_6_method_12_code
def yX4_fail : MethodName := ⟨RX4, "fail", "(I)Z"⟩
abbrev cX4_write : ByteArray := prog_6_method_13_code
def yX4_write : MethodName := ⟨RX4, "write", "(I)V"⟩
def RX5 : String := "SaltFarm$Province"
def TX5 : u_T := fun k => match k with
  | 0 => ("SaltFarm$Province", "mouths", "I", false)
  | 1 => ("SaltFarm$Province", "need", "I", false)
  | 2 => ("SaltFarm$Province", "prices", "[I", true)
  | 3 => ("SaltFarm$Province", "duties", "[I", true)
  | _ => ("SaltFarm$Province", "yearsKnown", "I", false)
def tyX5 : Nat → FieldType := fun k => match k with
  | 0 => .int
  | 1 => .int
  | 2 => .array .int
  | 3 => .array .int
  | _ => .int
abbrev wsX50 : List Cond := u_ws RX5 TX5 5
theorem nmX5 : ∀ a, a < 5 → ∀ b, b < 5 → a ≠ b → (TX5 a).2.1 ≠ (TX5 b).2.1 := by decide +kernel
theorem tyX5_ok : ∀ k, k < 5 → parseFieldDescriptor (TX5 k).2.2.1 = some (tyX5 k) := by decide +kernel
abbrev cX5_init : ByteArray := prog_7_method_1_code
def yX5_init : MethodName := ⟨RX5, "<init>", "(II)V"⟩
abbrev cX5_forgetFrom : ByteArray := prog_7_method_2_code
def yX5_forgetFrom : MethodName := ⟨RX5, "forgetFrom", "(I)V"⟩
def RX6 : String := "SaltFarm$Reckoner"
def TX6 : u_T := fun k => match k with
  | 0 => ("SaltFarm$Reckoner", "waiting", "[I", true)
  | 1 => ("SaltFarm$Reckoner", "size", "I", false)
  | 2 => ("SaltFarm$Reckoner", "year", "I", false)
  | 3 => ("SaltFarm$Reckoner", "mouths", "I", false)
  | 4 => ("SaltFarm$Reckoner", "need", "I", false)
  | _ => ("SaltFarm$Reckoner", "old", "I", false)
def tyX6 : Nat → FieldType := fun k => match k with
  | 0 => .array .int
  | 1 => .int
  | 2 => .int
  | 3 => .int
  | 4 => .int
  | _ => .int
abbrev wsX60 : List Cond := u_ws RX6 TX6 6
theorem nmX6 : ∀ a, a < 6 → ∀ b, b < 6 → a ≠ b → (TX6 a).2.1 ≠ (TX6 b).2.1 := by decide +kernel
theorem tyX6_ok : ∀ k, k < 6 → parseFieldDescriptor (TX6 k).2.2.1 = some (tyX6 k) := by decide +kernel
abbrev cX6_init : ByteArray := prog_8_method_1_code
def yX6_init : MethodName := ⟨RX6, "<init>", "()V"⟩
abbrev cX6_tell : ByteArray := prog_8_method_2_code
def yX6_tell : MethodName := ⟨RX6, "tell", "([II)I"⟩
abbrev cX6_step : ByteArray := prog_8_method_3_code
def yX6_step : MethodName := ⟨RX6, "step", "(I)Z"⟩
abbrev cX6_named : ByteArray := prog_8_method_4_code
def yX6_named : MethodName := ⟨RX6, "named", "(I)I"⟩
abbrev cX6_compares : ByteArray := prog_8_method_5_code
def yX6_compares : MethodName := ⟨RX6, "compares", "(III)Z"⟩
abbrev cX6_joined : ByteArray := prog_8_method_6_code
def yX6_joined : MethodName := ⟨RX6, "joined", "(IJJ)J"⟩
abbrev cX6_push : ByteArray := prog_8_method_7_code
def yX6_push : MethodName := ⟨RX6, "push", "(I)V"⟩
abbrev cX6_pop : ByteArray := prog_8_method_8_code
def yX6_pop : MethodName := ⟨RX6, "pop", "()I"⟩
def RX7 : String := "SaltFarm$Store"
def TX7 : u_T := fun k => match k with
  | 0 => ("SaltFarm$Store", "had", "I", false)
  | 1 => ("SaltFarm$Store", "brought", "I", false)
  | 2 => ("SaltFarm$Store", "sold", "I", false)
  | 3 => ("SaltFarm$Store", "counted", "I", false)
  | 4 => ("SaltFarm$Store", "isCounted", "Z", false)
  | _ => ("SaltFarm$Store", "missingBefore", "J", false)
def tyX7 : Nat → FieldType := fun k => match k with
  | 0 => .int
  | 1 => .int
  | 2 => .int
  | 3 => .int
  | 4 => .boolean
  | _ => .long
abbrev wsX70 : List Cond := u_ws RX7 TX7 6
theorem nmX7 : ∀ a, a < 6 → ∀ b, b < 6 → a ≠ b → (TX7 a).2.1 ≠ (TX7 b).2.1 := by decide +kernel
theorem tyX7_ok : ∀ k, k < 6 → parseFieldDescriptor (TX7 k).2.2.1 = some (tyX7 k) := by decide +kernel
abbrev cX7_init : ByteArray := prog_9_method_1_code
def yX7_init : MethodName := ⟨RX7, "<init>", "(I)V"⟩
abbrev cX7_missingThisYear : ByteArray := prog_9_method_2_code
def yX7_missingThisYear : MethodName := ⟨RX7, "missingThisYear", "()I"⟩
abbrev cX7_closeYear : ByteArray := prog_9_method_3_code
def yX7_closeYear : MethodName := ⟨RX7, "closeYear", "()V"⟩
def RX8 : String := "SaltFarm$Tape"
def TX8 : u_T := fun k => match k with
  | 0 => ("SaltFarm$Tape", "bytes", "[B", true)
  | _ => ("SaltFarm$Tape", "length", "I", false)
def tyX8 : Nat → FieldType := fun k => match k with
  | 0 => .array .byte
  | _ => .int
abbrev wsX80 : List Cond := u_ws RX8 TX8 2
theorem nmX8 : ∀ a, a < 2 → ∀ b, b < 2 → a ≠ b → (TX8 a).2.1 ≠ (TX8 b).2.1 := by decide +kernel
theorem tyX8_ok : ∀ k, k < 2 → parseFieldDescriptor (TX8 k).2.2.1 = some (tyX8 k) := by decide +kernel
abbrev cX8_init : ByteArray := prog_10_method_1_code
def yX8_init : MethodName := ⟨RX8, "<init>", "()V"⟩
abbrev cX8_hasRoom : ByteArray := prog_10_method_2_code
def yX8_hasRoom : MethodName := ⟨RX8, "hasRoom", "()Z"⟩
abbrev cX8_append : ByteArray := prog_10_method_3_code
def yX8_append : MethodName := ⟨RX8, "append", "(I)V"⟩
def RX9 : String := "SaltFarm$Tokens"
def TX9 : u_T := fun k => match k with
  | 0 => ("SaltFarm$Tokens", "tokens", "[I", true)
  | 1 => ("SaltFarm$Tokens", "places", "[I", true)
  | _ => ("SaltFarm$Tokens", "size", "I", false)
def tyX9 : Nat → FieldType := fun k => match k with
  | 0 => .array .int
  | 1 => .array .int
  | _ => .int
abbrev wsX90 : List Cond := u_ws RX9 TX9 3
theorem nmX9 : ∀ a, a < 3 → ∀ b, b < 3 → a ≠ b → (TX9 a).2.1 ≠ (TX9 b).2.1 := by decide +kernel
theorem tyX9_ok : ∀ k, k < 3 → parseFieldDescriptor (TX9 k).2.2.1 = some (tyX9 k) := by decide +kernel
abbrev cX9_init : ByteArray := prog_11_method_1_code
def yX9_init : MethodName := ⟨RX9, "<init>", "()V"⟩
abbrev cX9_scan : ByteArray := prog_11_method_2_code
def yX9_scan : MethodName := ⟨RX9, "scan", "([BI)V"⟩
abbrev cX9_add : ByteArray := prog_11_method_3_code
def yX9_add : MethodName := ⟨RX9, "add", "(II)V"⟩
abbrev cX9_endOfRun : ByteArray := prog_11_method_4_code
def yX9_endOfRun : MethodName := ⟨RX9, "endOfRun", "([BII)I"⟩
abbrev cX9_tokenOf : ByteArray := prog_11_method_5_code
def yX9_tokenOf : MethodName := ⟨RX9, "tokenOf", "([BII)I"⟩
abbrev cX9_numberOf : ByteArray := prog_11_method_6_code
def yX9_numberOf : MethodName := ⟨RX9, "numberOf", "([BII)I"⟩
abbrev cX9_wordOf : ByteArray := prog_11_method_7_code
def yX9_wordOf : MethodName := ⟨RX9, "wordOf", "([BII)I"⟩
abbrev cX9_nameOf : ByteArray := prog_11_method_8_code
def yX9_nameOf : MethodName := ⟨RX9, "nameOf", "([BII)I"⟩
abbrev cX9_spells : ByteArray := prog_11_method_9_code
def yX9_spells : MethodName := ⟨RX9, "spells", "([BIILjava/lang/String;)Z"⟩
abbrev cX9_signOf : ByteArray := prog_11_method_10_code
def yX9_signOf : MethodName := ⟨RX9, "signOf", "(B)I"⟩
abbrev cX9_isLetter : ByteArray := prog_11_method_11_code
def yX9_isLetter : MethodName := ⟨RX9, "isLetter", "(B)Z"⟩
abbrev cX9_isDigit : ByteArray := prog_11_method_12_code
def yX9_isDigit : MethodName := ⟨RX9, "isDigit", "(B)Z"⟩
def RX10 : String := "SaltFarm$Watch"
def TX10 : u_T := fun k => match k with
  | 0 => ("SaltFarm$Watch", "posts", "[I", true)
  | 1 => ("SaltFarm$Watch", "standing", "[I", true)
  | 2 => ("SaltFarm$Watch", "borderCount", "I", false)
  | _ => ("SaltFarm$Watch", "guards", "I", false)
def tyX10 : Nat → FieldType := fun k => match k with
  | 0 => .array .int
  | 1 => .array .int
  | 2 => .int
  | _ => .int
abbrev wsX100 : List Cond := u_ws RX10 TX10 4
theorem nmX10 : ∀ a, a < 4 → ∀ b, b < 4 → a ≠ b → (TX10 a).2.1 ≠ (TX10 b).2.1 := by decide +kernel
theorem tyX10_ok : ∀ k, k < 4 → parseFieldDescriptor (TX10 k).2.2.1 = some (tyX10 k) := by decide +kernel
abbrev cX10_init : ByteArray := prog_12_method_1_code
def yX10_init : MethodName := ⟨RX10, "<init>", "()V"⟩
abbrev cX10_lay : ByteArray := prog_12_method_2_code
def yX10_lay : MethodName := ⟨RX10, "lay", "(LSaltFarm$Market;II)J"⟩
abbrev cX10_standingOn : ByteArray := prog_12_method_3_code
def yX10_standingOn : MethodName := ⟨RX10, "standingOn", "(I)I"⟩
abbrev cX10_charge : ByteArray := prog_12_method_4_code
def yX10_charge : MethodName := ⟨RX10, "charge", "(LSaltFarm$Market;I)V"⟩
abbrev cX10_keep : ByteArray := prog_12_method_5_code
def yX10_keep : MethodName := ⟨RX10, "keep", "()V"⟩
abbrev cX10_shift : ByteArray := prog_12_method_6_code
def yX10_shift : MethodName := ⟨RX10, "shift", "()Z"⟩
def RX11 : String := "SaltFarm"
def TX11 : u_T := fun k => match k with
  | 0 => ("SaltFarm", "provinces", "[LSaltFarm$Province;", true)
  | 1 => ("SaltFarm", "borders", "[LSaltFarm$Border;", true)
  | 2 => ("SaltFarm", "stores", "[LSaltFarm$Store;", true)
  | 3 => ("SaltFarm", "tape", "LSaltFarm$Tape;", true)
  | 4 => ("SaltFarm", "parser", "LSaltFarm$Parser;", true)
  | 5 => ("SaltFarm", "law", "LSaltFarm$Law;", true)
  | 6 => ("SaltFarm", "market", "LSaltFarm$Market;", true)
  | 7 => ("SaltFarm", "watch", "LSaltFarm$Watch;", true)
  | 8 => ("SaltFarm", "provinceCount", "I", false)
  | 9 => ("SaltFarm", "borderCount", "I", false)
  | 10 => ("SaltFarm", "storeCount", "I", false)
  | 11 => ("SaltFarm", "thisYear", "I", false)
  | 12 => ("SaltFarm", "guardWeight", "I", false)
  | 13 => ("SaltFarm", "latestTrouble", "I", false)
  | 14 => ("SaltFarm", "latestFault", "I", false)
  | _ => ("SaltFarm", "faultPlace", "I", false)
def tyX11 : Nat → FieldType := fun k => match k with
  | 0 => .array (.object "SaltFarm$Province")
  | 1 => .array (.object "SaltFarm$Border")
  | 2 => .array (.object "SaltFarm$Store")
  | 3 => .object "SaltFarm$Tape"
  | 4 => .object "SaltFarm$Parser"
  | 5 => .object "SaltFarm$Law"
  | 6 => .object "SaltFarm$Market"
  | 7 => .object "SaltFarm$Watch"
  | 8 => .int
  | 9 => .int
  | 10 => .int
  | 11 => .int
  | 12 => .int
  | 13 => .int
  | 14 => .int
  | _ => .int
abbrev wsX110 : List Cond := u_ws RX11 TX11 16
theorem nmX11 : ∀ a, a < 16 → ∀ b, b < 16 → a ≠ b → (TX11 a).2.1 ≠ (TX11 b).2.1 := by decide +kernel
theorem tyX11_ok : ∀ k, k < 16 → parseFieldDescriptor (TX11 k).2.2.1 = some (tyX11 k) := by decide +kernel
abbrev cX11_init : ByteArray := prog_1_method_1_code
def yX11_init : MethodName := ⟨RX11, "<init>", "()V"⟩
abbrev cX11_province : ByteArray := prog_1_method_2_code
def yX11_province : MethodName := ⟨RX11, "province", "(II)I"⟩
abbrev cX11_people : ByteArray := prog_1_method_3_code
def yX11_people : MethodName := ⟨RX11, "people", "(III)Z"⟩
abbrev cX11_border : ByteArray := prog_1_method_4_code
def yX11_border : MethodName := ⟨RX11, "border", "(III)I"⟩
abbrev cX11_guard : ByteArray := prog_1_method_5_code
def yX11_guard : MethodName := ⟨RX11, "guard", "(II)Z"⟩
abbrev cX11_weight : ByteArray := prog_1_method_6_code
def yX11_weight : MethodName := ⟨RX11, "weight", "(I)Z"⟩
abbrev cX11_feed : ByteArray := prog_1_method_7_code
def yX11_feed : MethodName := ⟨RX11, "feed", "(IIIII)I"⟩
abbrev cX11_edict : ByteArray := prog_1_method_8_code
def yX11_edict : MethodName := ⟨RX11, "edict", "(III)I"⟩
abbrev cX11_fault : ByteArray := prog_1_method_9_code
def yX11_fault : MethodName := ⟨RX11, "fault", "()I"⟩
abbrev cX11_where : ByteArray := prog_1_method_10_code
def yX11_where : MethodName := ⟨RX11, "where", "()I"⟩
abbrev cX11_force : ByteArray := prog_1_method_11_code
def yX11_force : MethodName := ⟨RX11, "force", "(II)I"⟩
abbrev cX11_price : ByteArray := prog_1_method_12_code
def yX11_price : MethodName := ⟨RX11, "price", "(IIZ)I"⟩
abbrev cX11_brought : ByteArray := prog_1_method_13_code
def yX11_brought : MethodName := ⟨RX11, "brought", "(II)I"⟩
abbrev cX11_cheap : ByteArray := prog_1_method_14_code
def yX11_cheap : MethodName := ⟨RX11, "cheap", "(I)I"⟩
abbrev cX11_source : ByteArray := prog_1_method_15_code
def yX11_source : MethodName := ⟨RX11, "source", "(I)I"⟩
abbrev cX11_taken : ByteArray := prog_1_method_16_code
def yX11_taken : MethodName := ⟨RX11, "taken", "(I)J"⟩
abbrev cX11_crown : ByteArray := prog_1_method_17_code
def yX11_crown : MethodName := ⟨RX11, "crown", "()J"⟩
abbrev cX11_lost : ByteArray := prog_1_method_18_code
def yX11_lost : MethodName := ⟨RX11, "lost", "()J"⟩
abbrev cX11_carried : ByteArray := prog_1_method_19_code
def yX11_carried : MethodName := ⟨RX11, "carried", "(I)J"⟩
abbrev cX11_way : ByteArray := prog_1_method_20_code
def yX11_way : MethodName := ⟨RX11, "way", "(I)I"⟩
abbrev cX11_wayAt : ByteArray := prog_1_method_21_code
def yX11_wayAt : MethodName := ⟨RX11, "wayAt", "(II)I"⟩
abbrev cX11_best : ByteArray := prog_1_method_22_code
def yX11_best : MethodName := ⟨RX11, "best", "(I)J"⟩
abbrev cX11_stand : ByteArray := prog_1_method_23_code
def yX11_stand : MethodName := ⟨RX11, "stand", "(I)I"⟩
abbrev cX11_pass : ByteArray := prog_1_method_24_code
def yX11_pass : MethodName := ⟨RX11, "pass", "()I"⟩
abbrev cX11_store : ByteArray := prog_1_method_25_code
def yX11_store : MethodName := ⟨RX11, "store", "(II)I"⟩
abbrev cX11_moves : ByteArray := prog_1_method_26_code
def yX11_moves : MethodName := ⟨RX11, "moves", "(IIZ)I"⟩
abbrev cX11_counted : ByteArray := prog_1_method_27_code
def yX11_counted : MethodName := ⟨RX11, "counted", "(II)I"⟩
abbrev cX11_missing : ByteArray := prog_1_method_28_code
def yX11_missing : MethodName := ⟨RX11, "missing", "(I)J"⟩
abbrev cX11_worst : ByteArray := prog_1_method_29_code
def yX11_worst : MethodName := ⟨RX11, "worst", "()I"⟩
abbrev cX11_count : ByteArray := prog_1_method_30_code
def yX11_count : MethodName := ⟨RX11, "count", "(I)I"⟩
abbrev cX11_trouble : ByteArray := prog_1_method_31_code
def yX11_trouble : MethodName := ⟨RX11, "trouble", "()I"⟩
abbrev cX11_refuse : ByteArray := prog_1_method_32_code
def yX11_refuse : MethodName := ⟨RX11, "refuse", "(I)I"⟩
abbrev cX11_grant : ByteArray := prog_1_method_33_code
def yX11_grant : MethodName := ⟨RX11, "grant", "(I)I"⟩
abbrev cX11_deny : ByteArray := prog_1_method_34_code
def yX11_deny : MethodName := ⟨RX11, "deny", "(I)Z"⟩
abbrev cX11_allow : ByteArray := prog_1_method_35_code
def yX11_allow : MethodName := ⟨RX11, "allow", "()Z"⟩
abbrev cX11_provinceAt : ByteArray := prog_1_method_36_code
def yX11_provinceAt : MethodName := ⟨RX11, "provinceAt", "(I)LSaltFarm$Province;"⟩
abbrev cX11_borderAt : ByteArray := prog_1_method_37_code
def yX11_borderAt : MethodName := ⟨RX11, "borderAt", "(I)LSaltFarm$Border;"⟩
abbrev cX11_storeAt : ByteArray := prog_1_method_38_code
def yX11_storeAt : MethodName := ⟨RX11, "storeAt", "(I)LSaltFarm$Store;"⟩
abbrev cX11_guardsInAll : ByteArray := prog_1_method_39_code
def yX11_guardsInAll : MethodName := ⟨RX11, "guardsInAll", "()I"⟩
abbrev cX11_survey : ByteArray := prog_1_method_40_code
def yX11_survey : MethodName := ⟨RX11, "survey", "()V"⟩
abbrev cX11_fitsPeople : ByteArray := prog_1_method_41_code
def yX11_fitsPeople : MethodName := ⟨RX11, "fitsPeople", "(II)Z"⟩
abbrev cX11_within : ByteArray := prog_1_method_42_code
def yX11_within : MethodName := ⟨RX11, "within", "(III)Z"⟩
abbrev cX11_bound : ByteArray := prog_1_method_43_code
def yX11_bound : MethodName := ⟨RX11, "bound", "(JII)I"⟩
def RX12 : String := "SaltFarmModel$Edict"
def TX12 : u_T := fun k => match k with
  | 0 => ("SaltFarmModel$Edict", "province", "I", false)
  | 1 => ("SaltFarmModel$Edict", "year", "I", false)
  | 2 => ("SaltFarmModel$Edict", "lines", "I", false)
  | 3 => ("SaltFarmModel$Edict", "items", "I", false)
  | 4 => ("SaltFarmModel$Edict", "isDuty", "[Z", true)
  | 5 => ("SaltFarmModel$Edict", "tests", "[I", true)
  | 6 => ("SaltFarmModel$Edict", "from", "[I", true)
  | 7 => ("SaltFarmModel$Edict", "to", "[I", true)
  | 8 => ("SaltFarmModel$Edict", "sign", "[I", true)
  | _ => ("SaltFarmModel$Edict", "value", "[I", true)
def tyX12 : Nat → FieldType := fun k => match k with
  | 0 => .int
  | 1 => .int
  | 2 => .int
  | 3 => .int
  | 4 => .array .boolean
  | 5 => .array .int
  | 6 => .array .int
  | 7 => .array .int
  | 8 => .array .int
  | _ => .array .int
abbrev wsX120 : List Cond := u_ws RX12 TX12 10
theorem nmX12 : ∀ a, a < 10 → ∀ b, b < 10 → a ≠ b → (TX12 a).2.1 ≠ (TX12 b).2.1 := by decide +kernel
theorem tyX12_ok : ∀ k, k < 10 → parseFieldDescriptor (TX12 k).2.2.1 = some (tyX12 k) := by decide +kernel
abbrev cX12_init : ByteArray := prog_15_method_1_code
def yX12_init : MethodName := ⟨RX12, "<init>", "()V"⟩
abbrev cX12_put : ByteArray := prog_15_method_2_code
def yX12_put : MethodName := ⟨RX12, "put", "(II)V"⟩
def RX13 : String := "SaltFarmModel$Stop"
def TX13 : u_T := fun k => match k with
  | 0 => ("java/lang/Throwable", "cause", "Ljava/lang/Throwable;", false)
  | 1 => ("java/lang/Throwable", "stackTrace", "[Ljava/lang/StackTraceElement;", false)
  | 2 => ("java/lang/Throwable", "suppressedExceptions", "Ljava/util/List;", false)
  | 3 => ("java/lang/Throwable", "detailMessage", "Ljava/lang/String;", false)
  | 4 => ("java/lang/Throwable", "backtrace", "Ljava/lang/Object;", false)
  | 5 => ("java/lang/Throwable", "depth", "I", false)
  | 6 => ("SaltFarmModel$Stop", "kind", "I", false)
  | _ => ("SaltFarmModel$Stop", "place", "I", false)
def tyX13 : Nat → FieldType := fun k => match k with
  | 0 => .object "java/lang/Throwable"
  | 1 => .array (.object "java/lang/StackTraceElement")
  | 2 => .object "java/util/List"
  | 3 => .object "java/lang/String"
  | 4 => .object "java/lang/Object"
  | 5 => .int
  | 6 => .int
  | _ => .int
abbrev wsX130 : List Cond := u_ws RX13 TX13 8
theorem nmX13 : ∀ a, a < 8 → ∀ b, b < 8 → a ≠ b → (TX13 a).2.1 ≠ (TX13 b).2.1 := by decide +kernel
theorem tyX13_ok : ∀ k, k < 8 → parseFieldDescriptor (TX13 k).2.2.1 = some (tyX13 k) := by decide +kernel
abbrev cX13_init : ByteArray := prog_16_method_1_code
def yX13_init : MethodName := ⟨RX13, "<init>", "()V"⟩
def RX14 : String := "SaltFarmModel"
def TX14 : u_T := fun k => match k with
  | 0 => ("SaltFarmModel", "thrown", "I", false)
  | 1 => ("SaltFarmModel", "trouble", "I", false)
  | 2 => ("SaltFarmModel", "where", "I", false)
  | 3 => ("SaltFarmModel", "fault", "I", false)
  | 4 => ("SaltFarmModel", "provinces", "I", false)
  | 5 => ("SaltFarmModel", "borders", "I", false)
  | 6 => ("SaltFarmModel", "year", "I", false)
  | 7 => ("SaltFarmModel", "weight", "I", false)
  | 8 => ("SaltFarmModel", "mouths", "[I", true)
  | 9 => ("SaltFarmModel", "need", "[I", true)
  | 10 => ("SaltFarmModel", "one", "[I", true)
  | 11 => ("SaltFarmModel", "other", "[I", true)
  | 12 => ("SaltFarmModel", "risk", "[I", true)
  | 13 => ("SaltFarmModel", "guards", "[I", true)
  | 14 => ("SaltFarmModel", "edicts", "I", false)
  | 15 => ("SaltFarmModel", "edict", "[LSaltFarmModel$Edict;", true)
  | 16 => ("SaltFarmModel", "spare", "LSaltFarmModel$Edict;", false)
  | 17 => ("SaltFarmModel", "stop", "LSaltFarmModel$Stop;", true)
  | 18 => ("SaltFarmModel", "tape", "[B", true)
  | 19 => ("SaltFarmModel", "taped", "I", false)
  | 20 => ("SaltFarmModel", "size", "I", false)
  | 21 => ("SaltFarmModel", "at", "I", false)
  | 22 => ("SaltFarmModel", "sort", "I", false)
  | 23 => ("SaltFarmModel", "place", "I", false)
  | 24 => ("SaltFarmModel", "mark", "I", false)
  | 25 => ("SaltFarmModel", "number", "I", false)
  | 26 => ("SaltFarmModel", "deep", "I", false)
  | 27 => ("SaltFarmModel", "signs", "I", false)
  | 28 => ("SaltFarmModel", "word", "J", false)
  | 29 => ("SaltFarmModel", "pile", "[I", true)
  | 30 => ("SaltFarmModel", "price", "[I", true)
  | 31 => ("SaltFarmModel", "duty", "[I", true)
  | 32 => ("SaltFarmModel", "far", "[I", true)
  | 33 => ("SaltFarmModel", "source", "[I", true)
  | 34 => ("SaltFarmModel", "way", "[I", true)
  | 35 => ("SaltFarmModel", "wayMany", "I", false)
  | 36 => ("SaltFarmModel", "tried", "[I", true)
  | 37 => ("SaltFarmModel", "best", "[I", true)
  | 38 => ("SaltFarmModel", "bestSum", "J", false)
  | 39 => ("SaltFarmModel", "stands", "I", false)
  | 40 => ("SaltFarmModel", "stores", "I", false)
  | 41 => ("SaltFarmModel", "had", "[I", true)
  | 42 => ("SaltFarmModel", "came", "[I", true)
  | 43 => ("SaltFarmModel", "sold", "[I", true)
  | 44 => ("SaltFarmModel", "counted", "[I", true)
  | 45 => ("SaltFarmModel", "storeIn", "[I", true)
  | _ => ("SaltFarmModel", "missing", "[J", true)
def tyX14 : Nat → FieldType := fun k => match k with
  | 0 => .int
  | 1 => .int
  | 2 => .int
  | 3 => .int
  | 4 => .int
  | 5 => .int
  | 6 => .int
  | 7 => .int
  | 8 => .array .int
  | 9 => .array .int
  | 10 => .array .int
  | 11 => .array .int
  | 12 => .array .int
  | 13 => .array .int
  | 14 => .int
  | 15 => .array (.object "SaltFarmModel$Edict")
  | 16 => .object "SaltFarmModel$Edict"
  | 17 => .object "SaltFarmModel$Stop"
  | 18 => .array .byte
  | 19 => .int
  | 20 => .int
  | 21 => .int
  | 22 => .int
  | 23 => .int
  | 24 => .int
  | 25 => .int
  | 26 => .int
  | 27 => .int
  | 28 => .long
  | 29 => .array .int
  | 30 => .array .int
  | 31 => .array .int
  | 32 => .array .int
  | 33 => .array .int
  | 34 => .array .int
  | 35 => .int
  | 36 => .array .int
  | 37 => .array .int
  | 38 => .long
  | 39 => .int
  | 40 => .int
  | 41 => .array .int
  | 42 => .array .int
  | 43 => .array .int
  | 44 => .array .int
  | 45 => .array .int
  | _ => .array .long
abbrev wsX140 : List Cond := u_ws RX14 TX14 47
theorem nmX14 : ∀ a, a < 47 → ∀ b, b < 47 → a ≠ b → (TX14 a).2.1 ≠ (TX14 b).2.1 := by decide +kernel
theorem tyX14_ok : ∀ k, k < 47 → parseFieldDescriptor (TX14 k).2.2.1 = some (tyX14 k) := by decide +kernel
abbrev cX14_init : ByteArray := prog_14_method_1_code
def yX14_init : MethodName := ⟨RX14, "<init>", "()V"⟩
abbrev cX14_refused : ByteArray := prog_14_method_3_code
def yX14_refused : MethodName := ⟨RX14, "refused", "(I)I"⟩
abbrev cX14_denied : ByteArray := prog_14_method_4_code
def yX14_denied : MethodName := ⟨RX14, "denied", "(I)Z"⟩
abbrev cX14_done : ByteArray := prog_14_method_5_code
def yX14_done : MethodName := ⟨RX14, "done", "(I)I"⟩
abbrev cX14_granted : ByteArray := prog_14_method_6_code
def yX14_granted : MethodName := ⟨RX14, "granted", "()Z"⟩
abbrev cX14_in : ByteArray := prog_14_method_7_code
def yX14_in : MethodName := ⟨RX14, "in", "(III)Z"⟩
abbrev cX14_isProvince : ByteArray := prog_14_method_8_code
def yX14_isProvince : MethodName := ⟨RX14, "isProvince", "(I)Z"⟩
abbrev cX14_isBorder : ByteArray := prog_14_method_9_code
def yX14_isBorder : MethodName := ⟨RX14, "isBorder", "(I)Z"⟩
abbrev cX14_province : ByteArray := prog_14_method_10_code
def yX14_province : MethodName := ⟨RX14, "province", "(II)I"⟩
abbrev cX14_people : ByteArray := prog_14_method_11_code
def yX14_people : MethodName := ⟨RX14, "people", "(III)Z"⟩
abbrev cX14_border : ByteArray := prog_14_method_12_code
def yX14_border : MethodName := ⟨RX14, "border", "(III)I"⟩
abbrev cX14_guard : ByteArray := prog_14_method_13_code
def yX14_guard : MethodName := ⟨RX14, "guard", "(II)Z"⟩
abbrev cX14_weight : ByteArray := prog_14_method_14_code
def yX14_weight : MethodName := ⟨RX14, "weight", "(I)Z"⟩
abbrev cX14_stop : ByteArray := prog_14_method_15_code
def yX14_stop : MethodName := ⟨RX14, "stop", "(I)LSaltFarmModel$Stop;"⟩
abbrev cX14_byteAt : ByteArray := prog_14_method_16_code
def yX14_byteAt : MethodName := ⟨RX14, "byteAt", "(I)I"⟩
abbrev cX14_isLetter : ByteArray := prog_14_method_17_code
def yX14_isLetter : MethodName := ⟨RX14, "isLetter", "(I)Z"⟩
abbrev cX14_isDigit : ByteArray := prog_14_method_18_code
def yX14_isDigit : MethodName := ⟨RX14, "isDigit", "(I)Z"⟩
abbrev cX14_wordOf : ByteArray := prog_14_method_19_code
def yX14_wordOf : MethodName := ⟨RX14, "wordOf", "(Ljava/lang/String;)J"⟩
abbrev cX14_next : ByteArray := prog_14_method_20_code
def yX14_next : MethodName := ⟨RX14, "next", "()V"⟩
abbrev cX14_isWord : ByteArray := prog_14_method_21_code
def yX14_isWord : MethodName := ⟨RX14, "isWord", "(Ljava/lang/String;)Z"⟩
abbrev cX14_is : ByteArray := prog_14_method_22_code
def yX14_is : MethodName := ⟨RX14, "is", "(I)Z"⟩
abbrev cX14_nameHere : ByteArray := prog_14_method_23_code
def yX14_nameHere : MethodName := ⟨RX14, "nameHere", "()I"⟩
abbrev cX14_reads : ByteArray := prog_14_method_24_code
def yX14_reads : MethodName := ⟨RX14, "reads", "()V"⟩
abbrev cX14_readTest : ByteArray := prog_14_method_25_code
def yX14_readTest : MethodName := ⟨RX14, "readTest", "(I)V"⟩
abbrev cX14_sign : ByteArray := prog_14_method_26_code
def yX14_sign : MethodName := ⟨RX14, "sign", "()V"⟩
abbrev cX14_readSum : ByteArray := prog_14_method_27_code
def yX14_readSum : MethodName := ⟨RX14, "readSum", "()V"⟩
abbrev cX14_readTerm : ByteArray := prog_14_method_28_code
def yX14_readTerm : MethodName := ⟨RX14, "readTerm", "()V"⟩
abbrev cX14_readOne : ByteArray := prog_14_method_29_code
def yX14_readOne : MethodName := ⟨RX14, "readOne", "()V"⟩
abbrev cX14_feed : ByteArray := prog_14_method_30_code
def yX14_feed : MethodName := ⟨RX14, "feed", "(IIIII)I"⟩
abbrev cX14_edict : ByteArray := prog_14_method_31_code
def yX14_edict : MethodName := ⟨RX14, "edict", "(III)I"⟩
abbrev cX14_fault : ByteArray := prog_14_method_32_code
def yX14_fault : MethodName := ⟨RX14, "fault", "()I"⟩
abbrev cX14_where : ByteArray := prog_14_method_33_code
def yX14_where : MethodName := ⟨RX14, "where", "()I"⟩
abbrev cX14_forceOf : ByteArray := prog_14_method_34_code
def yX14_forceOf : MethodName := ⟨RX14, "forceOf", "(II)I"⟩
abbrev cX14_force : ByteArray := prog_14_method_35_code
def yX14_force : MethodName := ⟨RX14, "force", "(II)I"⟩
abbrev cX14_bound : ByteArray := prog_14_method_36_code
def yX14_bound : MethodName := ⟨RX14, "bound", "(J)I"⟩
abbrev cX14_both : ByteArray := prog_14_method_37_code
def yX14_both : MethodName := ⟨RX14, "both", "(IJJ)I"⟩
abbrev cX14_tells : ByteArray := prog_14_method_38_code
def yX14_tells : MethodName := ⟨RX14, "tells", "(LSaltFarmModel$Edict;IIII)I"⟩
abbrev cX14_priceOf : ByteArray := prog_14_method_39_code
def yX14_priceOf : MethodName := ⟨RX14, "priceOf", "(IIZ)I"⟩
abbrev cX14_price : ByteArray := prog_14_method_40_code
def yX14_price : MethodName := ⟨RX14, "price", "(IIZ)I"⟩
abbrev cX14_prices : ByteArray := prog_14_method_41_code
def yX14_prices : MethodName := ⟨RX14, "prices", "()V"⟩
abbrev cX14_costOf : ByteArray := prog_14_method_42_code
def yX14_costOf : MethodName := ⟨RX14, "costOf", "(II)I"⟩
abbrev cX14_ways : ByteArray := prog_14_method_43_code
def yX14_ways : MethodName := ⟨RX14, "ways", "([I)V"⟩
abbrev cX14_now : ByteArray := prog_14_method_44_code
def yX14_now : MethodName := ⟨RX14, "now", "()V"⟩
abbrev cX14_brought : ByteArray := prog_14_method_45_code
def yX14_brought : MethodName := ⟨RX14, "brought", "(II)I"⟩
abbrev cX14_cheap : ByteArray := prog_14_method_46_code
def yX14_cheap : MethodName := ⟨RX14, "cheap", "(I)I"⟩
abbrev cX14_source : ByteArray := prog_14_method_47_code
def yX14_source : MethodName := ⟨RX14, "source", "(I)I"⟩
abbrev cX14_restOf : ByteArray := prog_14_method_48_code
def yX14_restOf : MethodName := ⟨RX14, "restOf", "(I)J"⟩
abbrev cX14_takenOf : ByteArray := prog_14_method_49_code
def yX14_takenOf : MethodName := ⟨RX14, "takenOf", "(I)J"⟩
abbrev cX14_crownOf : ByteArray := prog_14_method_50_code
def yX14_crownOf : MethodName := ⟨RX14, "crownOf", "()J"⟩
abbrev cX14_taken : ByteArray := prog_14_method_51_code
def yX14_taken : MethodName := ⟨RX14, "taken", "(I)J"⟩
abbrev cX14_crown : ByteArray := prog_14_method_52_code
def yX14_crown : MethodName := ⟨RX14, "crown", "()J"⟩
abbrev cX14_lost : ByteArray := prog_14_method_53_code
def yX14_lost : MethodName := ⟨RX14, "lost", "()J"⟩
abbrev cX14_walks : ByteArray := prog_14_method_54_code
def yX14_walks : MethodName := ⟨RX14, "walks", "(I)V"⟩
abbrev cX14_carried : ByteArray := prog_14_method_55_code
def yX14_carried : MethodName := ⟨RX14, "carried", "(I)J"⟩
abbrev cX14_way : ByteArray := prog_14_method_56_code
def yX14_way : MethodName := ⟨RX14, "way", "(I)I"⟩
abbrev cX14_wayAt : ByteArray := prog_14_method_57_code
def yX14_wayAt : MethodName := ⟨RX14, "wayAt", "(II)I"⟩
abbrev cX14_tries : ByteArray := prog_14_method_58_code
def yX14_tries : MethodName := ⟨RX14, "tries", "(II)V"⟩
abbrev cX14_best : ByteArray := prog_14_method_59_code
def yX14_best : MethodName := ⟨RX14, "best", "(I)J"⟩
abbrev cX14_stand : ByteArray := prog_14_method_60_code
def yX14_stand : MethodName := ⟨RX14, "stand", "(I)I"⟩
abbrev cX14_isStore : ByteArray := prog_14_method_61_code
def yX14_isStore : MethodName := ⟨RX14, "isStore", "(I)Z"⟩
abbrev cX14_missingNow : ByteArray := prog_14_method_62_code
def yX14_missingNow : MethodName := ⟨RX14, "missingNow", "(I)I"⟩
abbrev cX14_pass : ByteArray := prog_14_method_63_code
def yX14_pass : MethodName := ⟨RX14, "pass", "()I"⟩
abbrev cX14_store : ByteArray := prog_14_method_64_code
def yX14_store : MethodName := ⟨RX14, "store", "(II)I"⟩
abbrev cX14_moves : ByteArray := prog_14_method_65_code
def yX14_moves : MethodName := ⟨RX14, "moves", "(IIZ)I"⟩
abbrev cX14_counted : ByteArray := prog_14_method_66_code
def yX14_counted : MethodName := ⟨RX14, "counted", "(II)I"⟩
abbrev cX14_missing : ByteArray := prog_14_method_67_code
def yX14_missing : MethodName := ⟨RX14, "missing", "(I)J"⟩
abbrev cX14_worst : ByteArray := prog_14_method_68_code
def yX14_worst : MethodName := ⟨RX14, "worst", "()I"⟩
abbrev cX14_count : ByteArray := prog_14_method_69_code
def yX14_count : MethodName := ⟨RX14, "count", "(I)I"⟩
abbrev cX14_trouble : ByteArray := prog_14_method_70_code
def yX14_trouble : MethodName := ⟨RX14, "trouble", "()I"⟩
def RJ9 : String := "java/lang/Math"
def TJ9 : u_T := fun k => match k with
  | _ => ("", "", "", false)
def tyJ9 : Nat → FieldType := fun k => match k with
  | _ => .int
abbrev wsJ90 : List Cond := u_ws RJ9 TJ9 0
theorem nmJ9 : ∀ a, a < 0 → ∀ b, b < 0 → a ≠ b → (TJ9 a).2.1 ≠ (TJ9 b).2.1 := by decide +kernel
theorem tyJ9_ok : ∀ k, k < 0 → parseFieldDescriptor (TJ9 k).2.2.1 = some (tyJ9 k) := by decide +kernel
abbrev cJ9_max_7cf53 : ByteArray := prog_18_method_65_code
def yJ9_max_7cf53 : MethodName := ⟨RJ9, "max", "(II)I"⟩
abbrev cJ9_max_f86c9 : ByteArray := prog_18_method_66_code
def yJ9_max_f86c9 : MethodName := ⟨RJ9, "max", "(JJ)J"⟩
abbrev cJ9_min_7cf53 : ByteArray := prog_18_method_69_code
def yJ9_min_7cf53 : MethodName := ⟨RJ9, "min", "(II)I"⟩
abbrev cJ9_min_f86c9 : ByteArray := prog_18_method_70_code
def yJ9_min_f86c9 : MethodName := ⟨RJ9, "min", "(JJ)J"⟩
def RJ0 : String := "java/lang/String"
def TJ0 : u_T := fun k => match k with
  | _ => ("", "", "", false)
def tyJ0 : Nat → FieldType := fun k => match k with
  | _ => .int
abbrev wsJ00 : List Cond := u_ws RJ0 TJ0 0
theorem nmJ0 : ∀ a, a < 0 → ∀ b, b < 0 → a ≠ b → (TJ0 a).2.1 ≠ (TJ0 b).2.1 := by decide +kernel
theorem tyJ0_ok : ∀ k, k < 0 → parseFieldDescriptor (TJ0 k).2.2.1 = some (tyJ0 k) := by decide +kernel
abbrev cJ0_length_8abf5 : ByteArray := prog_20_method_54_code
def yJ0_length_8abf5 : MethodName := ⟨RJ0, "length", "()I"⟩
abbrev cJ0_charAt_5068e : ByteArray := prog_20_method_56_code
def yJ0_charAt_5068e : MethodName := ⟨RJ0, "charAt", "(I)C"⟩
abbrev cJ0_coder_7d493 : ByteArray := prog_20_method_152_code
def yJ0_coder_7d493 : MethodName := ⟨RJ0, "coder", "()B"⟩
abbrev cJ0_isLatin1_aae02 : ByteArray := prog_20_method_154_code
def yJ0_isLatin1_aae02 : MethodName := ⟨RJ0, "isLatin1", "()Z"⟩
abbrev cJ0_checkIndex_df160 : ByteArray := prog_20_method_155_code
def yJ0_checkIndex_df160 : MethodName := ⟨RJ0, "checkIndex", "(II)V"⟩
def RJ1 : String := "java/lang/StringLatin1"
def TJ1 : u_T := fun k => match k with
  | _ => ("", "", "", false)
def tyJ1 : Nat → FieldType := fun k => match k with
  | _ => .int
abbrev wsJ10 : List Cond := u_ws RJ1 TJ1 0
theorem nmJ1 : ∀ a, a < 0 → ∀ b, b < 0 → a ≠ b → (TJ1 a).2.1 ≠ (TJ1 b).2.1 := by decide +kernel
theorem tyJ1_ok : ∀ k, k < 0 → parseFieldDescriptor (TJ1 k).2.2.1 = some (tyJ1 k) := by decide +kernel
abbrev cJ1_charAt_3b067 : ByteArray := prog_21_method_2_code
def yJ1_charAt_3b067 : MethodName := ⟨RJ1, "charAt", "([BI)C"⟩
def RJ2 : String := "java/lang/StringUTF16"
def TJ2 : u_T := fun k => match k with
  | _ => ("", "", "", false)
def tyJ2 : Nat → FieldType := fun k => match k with
  | _ => .int
abbrev wsJ20 : List Cond := u_ws RJ2 TJ2 0
theorem nmJ2 : ∀ a, a < 0 → ∀ b, b < 0 → a ≠ b → (TJ2 a).2.1 ≠ (TJ2 b).2.1 := by decide +kernel
theorem tyJ2_ok : ∀ k, k < 0 → parseFieldDescriptor (TJ2 k).2.2.1 = some (tyJ2 k) := by decide +kernel
abbrev cJ2_getChar_3b067 : ByteArray := prog_22_method_5_code
def yJ2_getChar_3b067 : MethodName := ⟨RJ2, "getChar", "([BI)C"⟩
abbrev cJ2_length_9d52b : ByteArray := prog_22_method_6_code
def yJ2_length_9d52b : MethodName := ⟨RJ2, "length", "([B)I"⟩
abbrev cJ2_charAt_3b067 : ByteArray := prog_22_method_83_code
def yJ2_charAt_3b067 : MethodName := ⟨RJ2, "charAt", "([BI)C"⟩
abbrev cJ2_checkIndex_2214a : ByteArray := prog_22_method_91_code
def yJ2_checkIndex_2214a : MethodName := ⟨RJ2, "checkIndex", "(I[B)V"⟩
def RJ10 : String := "java/lang/System"
def TJ10 : u_T := fun k => match k with
  | _ => ("", "", "", false)
def tyJ10 : Nat → FieldType := fun k => match k with
  | _ => .int
abbrev wsJ100 : List Cond := u_ws RJ10 TJ10 0
theorem nmJ10 : ∀ a, a < 0 → ∀ b, b < 0 → a ≠ b → (TJ10 a).2.1 ≠ (TJ10 b).2.1 := by decide +kernel
theorem tyJ10_ok : ∀ k, k < 0 → parseFieldDescriptor (TJ10 k).2.2.1 = some (tyJ10 k) := by decide +kernel
def RJ3 : String := "jdk/internal/util/Preconditions"
def TJ3 : u_T := fun k => match k with
  | _ => ("", "", "", false)
def tyJ3 : Nat → FieldType := fun k => match k with
  | _ => .int
abbrev wsJ30 : List Cond := u_ws RJ3 TJ3 0
theorem nmJ3 : ∀ a, a < 0 → ∀ b, b < 0 → a ≠ b → (TJ3 a).2.1 ≠ (TJ3 b).2.1 := by decide +kernel
theorem tyJ3_ok : ∀ k, k < 0 → parseFieldDescriptor (TJ3 k).2.2.1 = some (tyJ3 k) := by decide +kernel
abbrev cJ3_checkIndex_8e157 : ByteArray := prog_25_method_11_code
def yJ3_checkIndex_8e157 : MethodName := ⟨RJ3, "checkIndex", "(IILjava/util/function/BiFunction;)I"⟩
def RL : String := "SaltFarmLaw"

abbrev zcl : List vw_C := [(RX0, TX0, 4), (RX1, TX1, 3), (RX2, TX2, 3), (RX3, TX3, 12), (RX4, TX4, 7), (RX5, TX5, 5), (RX6, TX6, 6), (RX7, TX7, 6), (RX8, TX8, 2), (RX9, TX9, 3), (RX10, TX10, 4), (RX11, TX11, 16), (RX12, TX12, 10), (RX13, TX13, 8), (RX14, TX14, 47)]
def zALL : List Cond := lw_tbl.filter goodWord
theorem zin {w : Cond} (i : Nat) (h : lw_tbl[i]? = some w) (g : goodWord w = true) : w ∈ zALL := List.mem_filter.mpr ⟨List.mem_of_getElem? h, g⟩
theorem zALL_good : ∀ w ∈ zALL, goodWord w = true := fun w h => (List.mem_filter.mp h).2
theorem zALL_in : ∀ w ∈ zALL, w ∈ lw_tbl := fun w h => (List.mem_filter.mp h).1
def zisNest : Cond → Bool
  | .methodLinkNest .. => true
  | .fieldLinkNest .. => true
  | .castable .. => true
  | _ => false
def zNest : List Cond := lw_tbl.filter zisNest
theorem zinN {w : Cond} (i : Nat) (h : lw_tbl[i]? = some w) (g : zisNest w = true) : w ∈ zNest := List.mem_filter.mpr ⟨List.mem_of_getElem? h, g⟩
def zisAO : Cond → Bool
  | .arrayOver (.object _) => true
  | _ => false
def zAO : List Cond := lw_tbl.filter zisAO
theorem zinA {w : Cond} (i : Nat) (h : lw_tbl[i]? = some w) (g : zisAO w = true) : w ∈ zAO := List.mem_filter.mpr ⟨List.mem_of_getElem? h, g⟩
set_option maxRecDepth 100000 in
theorem zi0 : ∀ w ∈ wsX00, w ∈ zALL := by
  have h : (wsX00).all (fun w => decide (w ∈ zALL)) = true := by decide +kernel
  exact fun w hw => of_decide_eq_true (List.all_eq_true.mp h w hw)
set_option maxRecDepth 100000 in
theorem zi1 : ∀ w ∈ wsX10, w ∈ zALL := by
  have h : (wsX10).all (fun w => decide (w ∈ zALL)) = true := by decide +kernel
  exact fun w hw => of_decide_eq_true (List.all_eq_true.mp h w hw)
set_option maxRecDepth 100000 in
theorem zi2 : ∀ w ∈ wsX20, w ∈ zALL := by
  have h : (wsX20).all (fun w => decide (w ∈ zALL)) = true := by decide +kernel
  exact fun w hw => of_decide_eq_true (List.all_eq_true.mp h w hw)
set_option maxRecDepth 100000 in
theorem zi3 : ∀ w ∈ wsX30, w ∈ zALL := by
  have h : (wsX30).all (fun w => decide (w ∈ zALL)) = true := by decide +kernel
  exact fun w hw => of_decide_eq_true (List.all_eq_true.mp h w hw)
set_option maxRecDepth 100000 in
theorem zi4 : ∀ w ∈ wsX40, w ∈ zALL := by
  have h : (wsX40).all (fun w => decide (w ∈ zALL)) = true := by decide +kernel
  exact fun w hw => of_decide_eq_true (List.all_eq_true.mp h w hw)
set_option maxRecDepth 100000 in
theorem zi5 : ∀ w ∈ wsX50, w ∈ zALL := by
  have h : (wsX50).all (fun w => decide (w ∈ zALL)) = true := by decide +kernel
  exact fun w hw => of_decide_eq_true (List.all_eq_true.mp h w hw)
set_option maxRecDepth 100000 in
theorem zi6 : ∀ w ∈ wsX60, w ∈ zALL := by
  have h : (wsX60).all (fun w => decide (w ∈ zALL)) = true := by decide +kernel
  exact fun w hw => of_decide_eq_true (List.all_eq_true.mp h w hw)
set_option maxRecDepth 100000 in
theorem zi7 : ∀ w ∈ wsX70, w ∈ zALL := by
  have h : (wsX70).all (fun w => decide (w ∈ zALL)) = true := by decide +kernel
  exact fun w hw => of_decide_eq_true (List.all_eq_true.mp h w hw)
set_option maxRecDepth 100000 in
theorem zi8 : ∀ w ∈ wsX80, w ∈ zALL := by
  have h : (wsX80).all (fun w => decide (w ∈ zALL)) = true := by decide +kernel
  exact fun w hw => of_decide_eq_true (List.all_eq_true.mp h w hw)
set_option maxRecDepth 100000 in
theorem zi9 : ∀ w ∈ wsX90, w ∈ zALL := by
  have h : (wsX90).all (fun w => decide (w ∈ zALL)) = true := by decide +kernel
  exact fun w hw => of_decide_eq_true (List.all_eq_true.mp h w hw)
set_option maxRecDepth 100000 in
theorem zi10 : ∀ w ∈ wsX100, w ∈ zALL := by
  have h : (wsX100).all (fun w => decide (w ∈ zALL)) = true := by decide +kernel
  exact fun w hw => of_decide_eq_true (List.all_eq_true.mp h w hw)
set_option maxRecDepth 100000 in
theorem zi11 : ∀ w ∈ wsX110, w ∈ zALL := by
  have h : (wsX110).all (fun w => decide (w ∈ zALL)) = true := by decide +kernel
  exact fun w hw => of_decide_eq_true (List.all_eq_true.mp h w hw)
set_option maxRecDepth 100000 in
theorem zi12 : ∀ w ∈ wsX120, w ∈ zALL := by
  have h : (wsX120).all (fun w => decide (w ∈ zALL)) = true := by decide +kernel
  exact fun w hw => of_decide_eq_true (List.all_eq_true.mp h w hw)
set_option maxRecDepth 100000 in
theorem zi13 : ∀ w ∈ wsX130, w ∈ zALL := by
  have h : (wsX130).all (fun w => decide (w ∈ zALL)) = true := by decide +kernel
  exact fun w hw => of_decide_eq_true (List.all_eq_true.mp h w hw)
set_option maxRecDepth 100000 in
theorem zi14 : ∀ w ∈ wsX140, w ∈ zALL := by
  have h : (wsX140).all (fun w => decide (w ∈ zALL)) = true := by decide +kernel
  exact fun w hw => of_decide_eq_true (List.all_eq_true.mp h w hw)
theorem zcl_in {ci : Nat} {C : String} {T : u_T} {N : Nat} (h : zcl[ci]? = some (C, T, N)) : ∀ w ∈ u_ws C T N, w ∈ zALL := by
  match ci, h with
  | 0, h => cases h; exact zi0
  | 1, h => cases h; exact zi1
  | 2, h => cases h; exact zi2
  | 3, h => cases h; exact zi3
  | 4, h => cases h; exact zi4
  | 5, h => cases h; exact zi5
  | 6, h => cases h; exact zi6
  | 7, h => cases h; exact zi7
  | 8, h => cases h; exact zi8
  | 9, h => cases h; exact zi9
  | 10, h => cases h; exact zi10
  | 11, h => cases h; exact zi11
  | 12, h => cases h; exact zi12
  | 13, h => cases h; exact zi13
  | 14, h => cases h; exact zi14
  | k + 15, h => simp [zcl] at h
def zty : Nat → Nat → FieldType
  | 0 => tyX0
  | 1 => tyX1
  | 2 => tyX2
  | 3 => tyX3
  | 4 => tyX4
  | 5 => tyX5
  | 6 => tyX6
  | 7 => tyX7
  | 8 => tyX8
  | 9 => tyX9
  | 10 => tyX10
  | 11 => tyX11
  | 12 => tyX12
  | 13 => tyX13
  | 14 => tyX14
  | _ => fun _ => .int
theorem zcl_ty {ci : Nat} {C : String} {T : u_T} {N : Nat} (h : zcl[ci]? = some (C, T, N)) : ∀ k, k < N → parseFieldDescriptor (T k).2.2.1 = some (zty ci k) := by
  match ci, h with
  | 0, h => cases h; exact tyX0_ok
  | 1, h => cases h; exact tyX1_ok
  | 2, h => cases h; exact tyX2_ok
  | 3, h => cases h; exact tyX3_ok
  | 4, h => cases h; exact tyX4_ok
  | 5, h => cases h; exact tyX5_ok
  | 6, h => cases h; exact tyX6_ok
  | 7, h => cases h; exact tyX7_ok
  | 8, h => cases h; exact tyX8_ok
  | 9, h => cases h; exact tyX9_ok
  | 10, h => cases h; exact tyX10_ok
  | 11, h => cases h; exact tyX11_ok
  | 12, h => cases h; exact tyX12_ok
  | 13, h => cases h; exact tyX13_ok
  | 14, h => cases h; exact tyX14_ok
  | k + 15, h => simp [zcl] at h
theorem zcl_nm {ci : Nat} {C : String} {T : u_T} {N : Nat} (h : zcl[ci]? = some (C, T, N)) : ∀ a, a < N → ∀ b, b < N → a ≠ b → (T a).2.1 ≠ (T b).2.1 := by
  match ci, h with
  | 0, h => cases h; exact nmX0
  | 1, h => cases h; exact nmX1
  | 2, h => cases h; exact nmX2
  | 3, h => cases h; exact nmX3
  | 4, h => cases h; exact nmX4
  | 5, h => cases h; exact nmX5
  | 6, h => cases h; exact nmX6
  | 7, h => cases h; exact nmX7
  | 8, h => cases h; exact nmX8
  | 9, h => cases h; exact nmX9
  | 10, h => cases h; exact nmX10
  | 11, h => cases h; exact nmX11
  | 12, h => cases h; exact nmX12
  | 13, h => cases h; exact nmX13
  | 14, h => cases h; exact nmX14
  | k + 15, h => simp [zcl] at h
end
section
-- the words that the rows use, by their places in lw_tbl
theorem zw0 : Cond.selects "SaltFarm" (⟨"SaltFarm", "refuse", "(I)I"⟩ : MethodName) ⟨"SaltFarm", "refuse", "(I)I"⟩ ∈ zALL := zin 0 (by decide +kernel) (by decide +kernel)
theorem zw1 : Cond.selects "SaltFarm" (⟨"SaltFarm", "grant", "(I)I"⟩ : MethodName) ⟨"SaltFarm", "grant", "(I)I"⟩ ∈ zALL := zin 1 (by decide +kernel) (by decide +kernel)
theorem zw2 : Cond.selects "SaltFarm" (⟨"SaltFarm", "provinceAt", "(I)LSaltFarm$Province;"⟩ : MethodName) ⟨"SaltFarm", "provinceAt", "(I)LSaltFarm$Province;"⟩ ∈ zALL := zin 2 (by decide +kernel) (by decide +kernel)
theorem zw3 : Cond.selects "SaltFarm" (⟨"SaltFarm", "deny", "(I)Z"⟩ : MethodName) ⟨"SaltFarm", "deny", "(I)Z"⟩ ∈ zALL := zin 3 (by decide +kernel) (by decide +kernel)
theorem zw4 : Cond.selects "SaltFarm" (⟨"SaltFarm", "allow", "()Z"⟩ : MethodName) ⟨"SaltFarm", "allow", "()Z"⟩ ∈ zALL := zin 4 (by decide +kernel) (by decide +kernel)
theorem zw5 : Cond.selects "SaltFarm" (⟨"SaltFarm", "borderAt", "(I)LSaltFarm$Border;"⟩ : MethodName) ⟨"SaltFarm", "borderAt", "(I)LSaltFarm$Border;"⟩ ∈ zALL := zin 5 (by decide +kernel) (by decide +kernel)
theorem zw6 : Cond.selects "SaltFarm$Tokens" (⟨"SaltFarm$Tokens", "add", "(II)V"⟩ : MethodName) ⟨"SaltFarm$Tokens", "add", "(II)V"⟩ ∈ zALL := zin 6 (by decide +kernel) (by decide +kernel)
theorem zw7 : Cond.selects "SaltFarm$Parser" (⟨"SaltFarm$Parser", "readsLine", "(I)Z"⟩ : MethodName) ⟨"SaltFarm$Parser", "readsLine", "(I)Z"⟩ ∈ zALL := zin 7 (by decide +kernel) (by decide +kernel)
theorem zw8 : Cond.selects "SaltFarm$Parser" (⟨"SaltFarm$Parser", "token", "()I"⟩ : MethodName) ⟨"SaltFarm$Parser", "token", "()I"⟩ ∈ zALL := zin 8 (by decide +kernel) (by decide +kernel)
theorem zw9 : Cond.selects "SaltFarm$Parser" (⟨"SaltFarm$Parser", "fail", "(I)Z"⟩ : MethodName) ⟨"SaltFarm$Parser", "fail", "(I)Z"⟩ ∈ zALL := zin 9 (by decide +kernel) (by decide +kernel)
theorem zw10 : Cond.selects "SaltFarm$Parser" (⟨"SaltFarm$Parser", "write", "(I)V"⟩ : MethodName) ⟨"SaltFarm$Parser", "write", "(I)V"⟩ ∈ zALL := zin 10 (by decide +kernel) (by decide +kernel)
theorem zw11 : Cond.selects "SaltFarm$Parser" (⟨"SaltFarm$Parser", "readsTests", "()Z"⟩ : MethodName) ⟨"SaltFarm$Parser", "readsTests", "()Z"⟩ ∈ zALL := zin 11 (by decide +kernel) (by decide +kernel)
theorem zw12 : Cond.selects "SaltFarm$Parser" (⟨"SaltFarm$Parser", "readsSum", "(I)Z"⟩ : MethodName) ⟨"SaltFarm$Parser", "readsSum", "(I)Z"⟩ ∈ zALL := zin 12 (by decide +kernel) (by decide +kernel)
theorem zw13 : Cond.selects "SaltFarm$Parser" (⟨"SaltFarm$Parser", "readsTerm", "(I)Z"⟩ : MethodName) ⟨"SaltFarm$Parser", "readsTerm", "(I)Z"⟩ ∈ zALL := zin 13 (by decide +kernel) (by decide +kernel)
theorem zw14 : Cond.selects "SaltFarm$Parser" (⟨"SaltFarm$Parser", "readsOne", "(I)Z"⟩ : MethodName) ⟨"SaltFarm$Parser", "readsOne", "(I)Z"⟩ ∈ zALL := zin 14 (by decide +kernel) (by decide +kernel)
theorem zw15 : Cond.selects "SaltFarm$Parser" (⟨"SaltFarm$Parser", "passesSign", "()Z"⟩ : MethodName) ⟨"SaltFarm$Parser", "passesSign", "()Z"⟩ ∈ zALL := zin 15 (by decide +kernel) (by decide +kernel)
theorem zw16 : Cond.selects "SaltFarm$Law" (⟨"SaltFarm$Law", "learnYear", "(LSaltFarm$Province;II)V"⟩ : MethodName) ⟨"SaltFarm$Law", "learnYear", "(LSaltFarm$Province;II)V"⟩ ∈ zALL := zin 16 (by decide +kernel) (by decide +kernel)
theorem zw17 : Cond.selects "SaltFarm$Reckoner" (⟨"SaltFarm$Reckoner", "pop", "()I"⟩ : MethodName) ⟨"SaltFarm$Reckoner", "pop", "()I"⟩ ∈ zALL := zin 17 (by decide +kernel) (by decide +kernel)
theorem zw18 : Cond.selects "SaltFarm$Reckoner" (⟨"SaltFarm$Reckoner", "step", "(I)Z"⟩ : MethodName) ⟨"SaltFarm$Reckoner", "step", "(I)Z"⟩ ∈ zALL := zin 18 (by decide +kernel) (by decide +kernel)
theorem zw19 : Cond.selects "SaltFarm$Reckoner" (⟨"SaltFarm$Reckoner", "push", "(I)V"⟩ : MethodName) ⟨"SaltFarm$Reckoner", "push", "(I)V"⟩ ∈ zALL := zin 19 (by decide +kernel) (by decide +kernel)
theorem zw20 : Cond.selects "SaltFarm$Reckoner" (⟨"SaltFarm$Reckoner", "named", "(I)I"⟩ : MethodName) ⟨"SaltFarm$Reckoner", "named", "(I)I"⟩ ∈ zALL := zin 20 (by decide +kernel) (by decide +kernel)
theorem zw21 : Cond.selects "SaltFarm" (⟨"SaltFarm", "survey", "()V"⟩ : MethodName) ⟨"SaltFarm", "survey", "()V"⟩ ∈ zALL := zin 21 (by decide +kernel) (by decide +kernel)
theorem zw22 : Cond.selects "SaltFarm$Market" (⟨"SaltFarm$Market", "spread", "([II)V"⟩ : MethodName) ⟨"SaltFarm$Market", "spread", "([II)V"⟩ ∈ zALL := zin 22 (by decide +kernel) (by decide +kernel)
theorem zw23 : Cond.selects "SaltFarm$Market" (⟨"SaltFarm$Market", "measureTo", "(I)V"⟩ : MethodName) ⟨"SaltFarm$Market", "measureTo", "(I)V"⟩ ∈ zALL := zin 23 (by decide +kernel) (by decide +kernel)
theorem zw24 : Cond.selects "SaltFarm$Market" (⟨"SaltFarm$Market", "firstOnward", "(I)I"⟩ : MethodName) ⟨"SaltFarm$Market", "firstOnward", "(I)I"⟩ ∈ zALL := zin 24 (by decide +kernel) (by decide +kernel)
theorem zw25 : Cond.selects "SaltFarm$Watch" (⟨"SaltFarm$Watch", "charge", "(LSaltFarm$Market;I)V"⟩ : MethodName) ⟨"SaltFarm$Watch", "charge", "(LSaltFarm$Market;I)V"⟩ ∈ zALL := zin 25 (by decide +kernel) (by decide +kernel)
theorem zw26 : Cond.selects "SaltFarm$Watch" (⟨"SaltFarm$Watch", "keep", "()V"⟩ : MethodName) ⟨"SaltFarm$Watch", "keep", "()V"⟩ ∈ zALL := zin 26 (by decide +kernel) (by decide +kernel)
theorem zw27 : Cond.selects "SaltFarm$Watch" (⟨"SaltFarm$Watch", "shift", "()Z"⟩ : MethodName) ⟨"SaltFarm$Watch", "shift", "()Z"⟩ ∈ zALL := zin 27 (by decide +kernel) (by decide +kernel)
theorem zw28 : Cond.selects "SaltFarm" (⟨"SaltFarm", "storeAt", "(I)LSaltFarm$Store;"⟩ : MethodName) ⟨"SaltFarm", "storeAt", "(I)LSaltFarm$Store;"⟩ ∈ zALL := zin 28 (by decide +kernel) (by decide +kernel)
theorem zw29 : Cond.selects "SaltFarm" (⟨"SaltFarm", "guardsInAll", "()I"⟩ : MethodName) ⟨"SaltFarm", "guardsInAll", "()I"⟩ ∈ zALL := zin 29 (by decide +kernel) (by decide +kernel)
theorem zw30 : Cond.selects "java/lang/Throwable" (⟨"java/lang/Throwable", "fillInStackTrace", "(I)Ljava/lang/Throwable;"⟩ : MethodName) ⟨"java/lang/Throwable", "fillInStackTrace", "(I)Ljava/lang/Throwable;"⟩ ∈ zALL := zin 30 (by decide +kernel) (by decide +kernel)
theorem zw31 : Cond.selects "SaltFarmModel" (⟨"SaltFarmModel", "refused", "(I)I"⟩ : MethodName) ⟨"SaltFarmModel", "refused", "(I)I"⟩ ∈ zALL := zin 31 (by decide +kernel) (by decide +kernel)
theorem zw32 : Cond.selects "SaltFarmModel" (⟨"SaltFarmModel", "done", "(I)I"⟩ : MethodName) ⟨"SaltFarmModel", "done", "(I)I"⟩ ∈ zALL := zin 32 (by decide +kernel) (by decide +kernel)
theorem zw33 : Cond.selects "SaltFarmModel" (⟨"SaltFarmModel", "isProvince", "(I)Z"⟩ : MethodName) ⟨"SaltFarmModel", "isProvince", "(I)Z"⟩ ∈ zALL := zin 33 (by decide +kernel) (by decide +kernel)
theorem zw34 : Cond.selects "SaltFarmModel" (⟨"SaltFarmModel", "denied", "(I)Z"⟩ : MethodName) ⟨"SaltFarmModel", "denied", "(I)Z"⟩ ∈ zALL := zin 34 (by decide +kernel) (by decide +kernel)
theorem zw35 : Cond.selects "SaltFarmModel" (⟨"SaltFarmModel", "granted", "()Z"⟩ : MethodName) ⟨"SaltFarmModel", "granted", "()Z"⟩ ∈ zALL := zin 35 (by decide +kernel) (by decide +kernel)
theorem zw36 : Cond.selects "SaltFarmModel" (⟨"SaltFarmModel", "isBorder", "(I)Z"⟩ : MethodName) ⟨"SaltFarmModel", "isBorder", "(I)Z"⟩ ∈ zALL := zin 36 (by decide +kernel) (by decide +kernel)
theorem zw37 : Cond.selects "SaltFarmModel" (⟨"SaltFarmModel", "reads", "()V"⟩ : MethodName) ⟨"SaltFarmModel", "reads", "()V"⟩ ∈ zALL := zin 37 (by decide +kernel) (by decide +kernel)
theorem zw38 : Cond.selects "SaltFarmModel" (⟨"SaltFarmModel", "next", "()V"⟩ : MethodName) ⟨"SaltFarmModel", "next", "()V"⟩ ∈ zALL := zin 38 (by decide +kernel) (by decide +kernel)
theorem zw39 : Cond.selects "SaltFarmModel" (⟨"SaltFarmModel", "byteAt", "(I)I"⟩ : MethodName) ⟨"SaltFarmModel", "byteAt", "(I)I"⟩ ∈ zALL := zin 39 (by decide +kernel) (by decide +kernel)
theorem zw40 : Cond.selects "SaltFarmModel" (⟨"SaltFarmModel", "isWord", "(Ljava/lang/String;)Z"⟩ : MethodName) ⟨"SaltFarmModel", "isWord", "(Ljava/lang/String;)Z"⟩ ∈ zALL := zin 40 (by decide +kernel) (by decide +kernel)
theorem zw41 : Cond.selects "SaltFarmModel" (⟨"SaltFarmModel", "stop", "(I)LSaltFarmModel$Stop;"⟩ : MethodName) ⟨"SaltFarmModel", "stop", "(I)LSaltFarmModel$Stop;"⟩ ∈ zALL := zin 41 (by decide +kernel) (by decide +kernel)
theorem zw42 : Cond.selects "SaltFarmModel" (⟨"SaltFarmModel", "readTest", "(I)V"⟩ : MethodName) ⟨"SaltFarmModel", "readTest", "(I)V"⟩ ∈ zALL := zin 42 (by decide +kernel) (by decide +kernel)
theorem zw43 : Cond.selects "SaltFarmModel" (⟨"SaltFarmModel", "is", "(I)Z"⟩ : MethodName) ⟨"SaltFarmModel", "is", "(I)Z"⟩ ∈ zALL := zin 43 (by decide +kernel) (by decide +kernel)
theorem zw44 : Cond.selects "SaltFarmModel" (⟨"SaltFarmModel", "nameHere", "()I"⟩ : MethodName) ⟨"SaltFarmModel", "nameHere", "()I"⟩ ∈ zALL := zin 44 (by decide +kernel) (by decide +kernel)
theorem zw45 : Cond.selects "SaltFarmModel" (⟨"SaltFarmModel", "readSum", "()V"⟩ : MethodName) ⟨"SaltFarmModel", "readSum", "()V"⟩ ∈ zALL := zin 45 (by decide +kernel) (by decide +kernel)
theorem zw46 : Cond.selects "SaltFarmModel" (⟨"SaltFarmModel", "readTerm", "()V"⟩ : MethodName) ⟨"SaltFarmModel", "readTerm", "()V"⟩ ∈ zALL := zin 46 (by decide +kernel) (by decide +kernel)
theorem zw47 : Cond.selects "SaltFarmModel" (⟨"SaltFarmModel", "readOne", "()V"⟩ : MethodName) ⟨"SaltFarmModel", "readOne", "()V"⟩ ∈ zALL := zin 47 (by decide +kernel) (by decide +kernel)
theorem zw48 : Cond.selects "SaltFarmModel" (⟨"SaltFarmModel", "sign", "()V"⟩ : MethodName) ⟨"SaltFarmModel", "sign", "()V"⟩ ∈ zALL := zin 48 (by decide +kernel) (by decide +kernel)
theorem zw49 : Cond.selects "SaltFarmModel" (⟨"SaltFarmModel", "forceOf", "(II)I"⟩ : MethodName) ⟨"SaltFarmModel", "forceOf", "(II)I"⟩ ∈ zALL := zin 49 (by decide +kernel) (by decide +kernel)
theorem zw50 : Cond.selects "SaltFarmModel" (⟨"SaltFarmModel", "priceOf", "(IIZ)I"⟩ : MethodName) ⟨"SaltFarmModel", "priceOf", "(IIZ)I"⟩ ∈ zALL := zin 50 (by decide +kernel) (by decide +kernel)
theorem zw51 : Cond.selects "SaltFarmModel" (⟨"SaltFarmModel", "tells", "(LSaltFarmModel$Edict;IIII)I"⟩ : MethodName) ⟨"SaltFarmModel", "tells", "(LSaltFarmModel$Edict;IIII)I"⟩ ∈ zALL := zin 51 (by decide +kernel) (by decide +kernel)
theorem zw52 : Cond.selects "SaltFarmModel" (⟨"SaltFarmModel", "now", "()V"⟩ : MethodName) ⟨"SaltFarmModel", "now", "()V"⟩ ∈ zALL := zin 52 (by decide +kernel) (by decide +kernel)
theorem zw53 : Cond.selects "SaltFarmModel" (⟨"SaltFarmModel", "prices", "()V"⟩ : MethodName) ⟨"SaltFarmModel", "prices", "()V"⟩ ∈ zALL := zin 53 (by decide +kernel) (by decide +kernel)
theorem zw54 : Cond.selects "SaltFarmModel" (⟨"SaltFarmModel", "ways", "([I)V"⟩ : MethodName) ⟨"SaltFarmModel", "ways", "([I)V"⟩ ∈ zALL := zin 54 (by decide +kernel) (by decide +kernel)
theorem zw55 : Cond.selects "SaltFarmModel" (⟨"SaltFarmModel", "costOf", "(II)I"⟩ : MethodName) ⟨"SaltFarmModel", "costOf", "(II)I"⟩ ∈ zALL := zin 55 (by decide +kernel) (by decide +kernel)
theorem zw56 : Cond.selects "SaltFarmModel" (⟨"SaltFarmModel", "takenOf", "(I)J"⟩ : MethodName) ⟨"SaltFarmModel", "takenOf", "(I)J"⟩ ∈ zALL := zin 56 (by decide +kernel) (by decide +kernel)
theorem zw57 : Cond.selects "SaltFarmModel" (⟨"SaltFarmModel", "restOf", "(I)J"⟩ : MethodName) ⟨"SaltFarmModel", "restOf", "(I)J"⟩ ∈ zALL := zin 57 (by decide +kernel) (by decide +kernel)
theorem zw58 : Cond.selects "SaltFarmModel" (⟨"SaltFarmModel", "crownOf", "()J"⟩ : MethodName) ⟨"SaltFarmModel", "crownOf", "()J"⟩ ∈ zALL := zin 58 (by decide +kernel) (by decide +kernel)
theorem zw59 : Cond.selects "SaltFarmModel" (⟨"SaltFarmModel", "walks", "(I)V"⟩ : MethodName) ⟨"SaltFarmModel", "walks", "(I)V"⟩ ∈ zALL := zin 59 (by decide +kernel) (by decide +kernel)
theorem zw60 : Cond.selects "SaltFarmModel" (⟨"SaltFarmModel", "tries", "(II)V"⟩ : MethodName) ⟨"SaltFarmModel", "tries", "(II)V"⟩ ∈ zALL := zin 60 (by decide +kernel) (by decide +kernel)
theorem zw61 : Cond.selects "SaltFarmModel" (⟨"SaltFarmModel", "missingNow", "(I)I"⟩ : MethodName) ⟨"SaltFarmModel", "missingNow", "(I)I"⟩ ∈ zALL := zin 61 (by decide +kernel) (by decide +kernel)
theorem zw62 : Cond.selects "SaltFarmModel" (⟨"SaltFarmModel", "isStore", "(I)Z"⟩ : MethodName) ⟨"SaltFarmModel", "isStore", "(I)Z"⟩ ∈ zALL := zin 62 (by decide +kernel) (by decide +kernel)
theorem zw63 : (Jvm.Cond.initialized "SaltFarmLaw") ∈ zALL := zin 63 (by decide +kernel) (by decide +kernel)
theorem zw64 : (Jvm.Cond.initialized "SaltFarm") ∈ zALL := zin 64 (by decide +kernel) (by decide +kernel)
theorem zw65 : (Jvm.Cond.initialized "SaltFarm$Tape") ∈ zALL := zin 65 (by decide +kernel) (by decide +kernel)
theorem zw66 : (Jvm.Cond.initialized "SaltFarm$Parser") ∈ zALL := zin 66 (by decide +kernel) (by decide +kernel)
theorem zw67 : (Jvm.Cond.initialized "SaltFarm$Tokens") ∈ zALL := zin 67 (by decide +kernel) (by decide +kernel)
theorem zw68 : (Jvm.Cond.initialized "SaltFarm$Law") ∈ zALL := zin 68 (by decide +kernel) (by decide +kernel)
theorem zw69 : (Jvm.Cond.initialized "SaltFarm$Reckoner") ∈ zALL := zin 69 (by decide +kernel) (by decide +kernel)
theorem zw70 : (Jvm.Cond.initialized "SaltFarm$Market") ∈ zALL := zin 70 (by decide +kernel) (by decide +kernel)
theorem zw71 : (Jvm.Cond.initialized "SaltFarm$Watch") ∈ zALL := zin 71 (by decide +kernel) (by decide +kernel)
theorem zw72 : (Jvm.Cond.initialized "SaltFarmModel") ∈ zALL := zin 72 (by decide +kernel) (by decide +kernel)
theorem zw73 : (Jvm.Cond.initialized "SaltFarmModel$Edict") ∈ zALL := zin 73 (by decide +kernel) (by decide +kernel)
theorem zw74 : (Jvm.Cond.initialized "java/lang/Throwable") ∈ zALL := zin 74 (by decide +kernel) (by decide +kernel)
theorem zw75 : (Jvm.Cond.initialized "java/lang/Exception") ∈ zALL := zin 75 (by decide +kernel) (by decide +kernel)
theorem zw76 : (Jvm.Cond.initialized "java/lang/RuntimeException") ∈ zALL := zin 76 (by decide +kernel) (by decide +kernel)
theorem zw77 : (Jvm.Cond.initialized "SaltFarmModel$Stop") ∈ zALL := zin 77 (by decide +kernel) (by decide +kernel)
theorem zw78 : (Jvm.Cond.initialized "SaltFarm$Province") ∈ zALL := zin 78 (by decide +kernel) (by decide +kernel)
theorem zw79 : (Jvm.Cond.initialized "java/lang/Math") ∈ zALL := zin 79 (by decide +kernel) (by decide +kernel)
theorem zw80 : (Jvm.Cond.initialized "SaltFarm$Border") ∈ zALL := zin 80 (by decide +kernel) (by decide +kernel)
theorem zw81 : (Jvm.Cond.initialized "java/lang/String") ∈ zALL := zin 81 (by decide +kernel) (by decide +kernel)
theorem zw82 : (Jvm.Cond.initialized "java/lang/StringLatin1") ∈ zALL := zin 82 (by decide +kernel) (by decide +kernel)
theorem zw83 : (Jvm.Cond.initialized "jdk/internal/util/Preconditions") ∈ zALL := zin 83 (by decide +kernel) (by decide +kernel)
theorem zw84 : (Jvm.Cond.initialized "java/lang/StringUTF16") ∈ zALL := zin 84 (by decide +kernel) (by decide +kernel)
theorem zw85 : (Jvm.Cond.initialized "SaltFarm$Edict") ∈ zALL := zin 85 (by decide +kernel) (by decide +kernel)
theorem zw86 : (Jvm.Cond.initialized "java/lang/System") ∈ zALL := zin 86 (by decide +kernel) (by decide +kernel)
theorem zw87 : (Jvm.Cond.initialized "SaltFarm$Store") ∈ zALL := zin 87 (by decide +kernel) (by decide +kernel)
theorem zw88 : (Jvm.Cond.classLink "SaltFarmLaw" (7 : Nat) "SaltFarm") ∈ zALL := zin 88 (by decide +kernel) (by decide +kernel)
theorem zw89 : (Jvm.Cond.instantiable "SaltFarm" (16 : Nat)) ∈ zALL := zin 89 (by decide +kernel) (by decide +kernel)
theorem zw90 : (Jvm.Cond.methodLink "SaltFarmLaw" (9 : Nat) ({ cls := "SaltFarm", name := "<init>", desc := "()V" } : Jvm.MethodName)) ∈ zALL := zin 90 (by decide +kernel) (by decide +kernel)
theorem zw91 : (Jvm.Cond.instanceMethod ({ cls := "SaltFarm", name := "<init>", desc := "()V" } : Jvm.MethodName)) ∈ zALL := zin 91 (by decide +kernel) (by decide +kernel)
theorem zw92 : (Jvm.Cond.code ({ cls := "SaltFarm", name := "<init>", desc := "()V" } : Jvm.MethodName) prog_1_method_1_code (1 : Nat) (Option.none : Option Jvm.ClassFile.FieldType)) ∈ zALL := zin 92 (by decide +kernel) (by decide +kernel)
theorem zw93 : (Jvm.Cond.methodLink "SaltFarm" (1 : Nat) ({ cls := "java/lang/Object", name := "<init>", desc := "()V" } : Jvm.MethodName)) ∈ zALL := zin 93 (by decide +kernel) (by decide +kernel)
theorem zw94 : (Jvm.Cond.instanceMethod ({ cls := "java/lang/Object", name := "<init>", desc := "()V" } : Jvm.MethodName)) ∈ zALL := zin 94 (by decide +kernel) (by decide +kernel)
theorem zw95 : (Jvm.Cond.code ({ cls := "java/lang/Object", name := "<init>", desc := "()V" } : Jvm.MethodName) object_method_1_code (1 : Nat) (Option.none : Option Jvm.ClassFile.FieldType)) ∈ zALL := zin 95 (by decide +kernel) (by decide +kernel)
theorem zw96 : (Jvm.Cond.classLink "SaltFarm" (9 : Nat) "SaltFarm$Province") ∈ zALL := zin 96 (by decide +kernel) (by decide +kernel)
theorem zw97 : (Jvm.Cond.arrayOver (Jvm.ClassFile.FieldType.object "SaltFarm$Province")) ∈ zAO := zinA 97 (by decide +kernel) (by decide +kernel)
theorem zw98 : (Jvm.Cond.classLink "SaltFarm" (15 : Nat) "SaltFarm$Border") ∈ zALL := zin 98 (by decide +kernel) (by decide +kernel)
theorem zw99 : (Jvm.Cond.arrayOver (Jvm.ClassFile.FieldType.object "SaltFarm$Border")) ∈ zAO := zinA 99 (by decide +kernel) (by decide +kernel)
theorem zw100 : (Jvm.Cond.classLink "SaltFarm" (21 : Nat) "SaltFarm$Store") ∈ zALL := zin 100 (by decide +kernel) (by decide +kernel)
theorem zw101 : (Jvm.Cond.arrayOver (Jvm.ClassFile.FieldType.object "SaltFarm$Store")) ∈ zAO := zinA 101 (by decide +kernel) (by decide +kernel)
theorem zw102 : (Jvm.Cond.classLink "SaltFarm" (27 : Nat) "SaltFarm$Tape") ∈ zALL := zin 102 (by decide +kernel) (by decide +kernel)
theorem zw103 : (Jvm.Cond.instantiable "SaltFarm$Tape" (2 : Nat)) ∈ zALL := zin 103 (by decide +kernel) (by decide +kernel)
theorem zw104 : (Jvm.Cond.methodLinkNest "SaltFarm" (29 : Nat) ({ cls := "SaltFarm$Tape", name := "<init>", desc := "()V" } : Jvm.MethodName) "SaltFarm") ∈ zNest := zinN 104 (by decide +kernel) (by decide +kernel)
theorem zw105 : (Jvm.Cond.instanceMethod ({ cls := "SaltFarm$Tape", name := "<init>", desc := "()V" } : Jvm.MethodName)) ∈ zALL := zin 105 (by decide +kernel) (by decide +kernel)
theorem zw106 : (Jvm.Cond.code ({ cls := "SaltFarm$Tape", name := "<init>", desc := "()V" } : Jvm.MethodName) prog_10_method_1_code (1 : Nat) (Option.none : Option Jvm.ClassFile.FieldType)) ∈ zALL := zin 106 (by decide +kernel) (by decide +kernel)
theorem zw107 : (Jvm.Cond.methodLink "SaltFarm$Tape" (3 : Nat) ({ cls := "java/lang/Object", name := "<init>", desc := "()V" } : Jvm.MethodName)) ∈ zALL := zin 107 (by decide +kernel) (by decide +kernel)
theorem zw108 : (Jvm.Cond.fieldLink "SaltFarm$Tape" (9 : Nat) "SaltFarm$Tape" "bytes" "[B") ∈ zALL := zin 108 (by decide +kernel) (by decide +kernel)
theorem zw109 : (Jvm.Cond.fieldLink "SaltFarm" (146 : Nat) "SaltFarm$Tape" "bytes" "[B") ∈ zALL := zin 109 (by decide +kernel) (by decide +kernel)
theorem zw110 : (Jvm.Cond.fieldLink "SaltFarm$Tape" (15 : Nat) "SaltFarm$Tape" "length" "I") ∈ zALL := zin 110 (by decide +kernel) (by decide +kernel)
theorem zw111 : (Jvm.Cond.fieldLink "SaltFarm" (143 : Nat) "SaltFarm$Tape" "length" "I") ∈ zALL := zin 111 (by decide +kernel) (by decide +kernel)
theorem zw117 : (Jvm.Cond.arrayClass Jvm.ClassFile.FieldType.byte) ∈ zALL := zin 117 (by decide +kernel) (by decide +kernel)
theorem zw118 : (Jvm.Cond.classLink "SaltFarm" (34 : Nat) "SaltFarm$Parser") ∈ zALL := zin 118 (by decide +kernel) (by decide +kernel)
theorem zw119 : (Jvm.Cond.instantiable "SaltFarm$Parser" (7 : Nat)) ∈ zALL := zin 119 (by decide +kernel) (by decide +kernel)
theorem zw120 : (Jvm.Cond.methodLinkNest "SaltFarm" (36 : Nat) ({ cls := "SaltFarm$Parser", name := "<init>", desc := "()V" } : Jvm.MethodName) "SaltFarm") ∈ zNest := zinN 120 (by decide +kernel) (by decide +kernel)
theorem zw121 : (Jvm.Cond.instanceMethod ({ cls := "SaltFarm$Parser", name := "<init>", desc := "()V" } : Jvm.MethodName)) ∈ zALL := zin 121 (by decide +kernel) (by decide +kernel)
theorem zw122 : (Jvm.Cond.code ({ cls := "SaltFarm$Parser", name := "<init>", desc := "()V" } : Jvm.MethodName) prog_6_method_1_code (1 : Nat) (Option.none : Option Jvm.ClassFile.FieldType)) ∈ zALL := zin 122 (by decide +kernel) (by decide +kernel)
theorem zw123 : (Jvm.Cond.methodLink "SaltFarm$Parser" (3 : Nat) ({ cls := "java/lang/Object", name := "<init>", desc := "()V" } : Jvm.MethodName)) ∈ zALL := zin 123 (by decide +kernel) (by decide +kernel)
theorem zw124 : (Jvm.Cond.classLink "SaltFarm$Parser" (9 : Nat) "SaltFarm$Tokens") ∈ zALL := zin 124 (by decide +kernel) (by decide +kernel)
theorem zw125 : (Jvm.Cond.instantiable "SaltFarm$Tokens" (3 : Nat)) ∈ zALL := zin 125 (by decide +kernel) (by decide +kernel)
theorem zw126 : (Jvm.Cond.methodLinkNest "SaltFarm$Parser" (11 : Nat) ({ cls := "SaltFarm$Tokens", name := "<init>", desc := "()V" } : Jvm.MethodName) "SaltFarm") ∈ zNest := zinN 126 (by decide +kernel) (by decide +kernel)
theorem zw127 : (Jvm.Cond.instanceMethod ({ cls := "SaltFarm$Tokens", name := "<init>", desc := "()V" } : Jvm.MethodName)) ∈ zALL := zin 127 (by decide +kernel) (by decide +kernel)
theorem zw128 : (Jvm.Cond.code ({ cls := "SaltFarm$Tokens", name := "<init>", desc := "()V" } : Jvm.MethodName) prog_11_method_1_code (1 : Nat) (Option.none : Option Jvm.ClassFile.FieldType)) ∈ zALL := zin 128 (by decide +kernel) (by decide +kernel)
theorem zw129 : (Jvm.Cond.methodLink "SaltFarm$Tokens" (3 : Nat) ({ cls := "java/lang/Object", name := "<init>", desc := "()V" } : Jvm.MethodName)) ∈ zALL := zin 129 (by decide +kernel) (by decide +kernel)
theorem zw130 : (Jvm.Cond.fieldLink "SaltFarm$Tokens" (9 : Nat) "SaltFarm$Tokens" "tokens" "[I") ∈ zALL := zin 130 (by decide +kernel) (by decide +kernel)
theorem zw131 : (Jvm.Cond.fieldLink "SaltFarm$Parser" (84 : Nat) "SaltFarm$Tokens" "tokens" "[I") ∈ zALL := zin 131 (by decide +kernel) (by decide +kernel)
theorem zw132 : (Jvm.Cond.fieldLink "SaltFarm$Tokens" (15 : Nat) "SaltFarm$Tokens" "places" "[I") ∈ zALL := zin 132 (by decide +kernel) (by decide +kernel)
theorem zw133 : (Jvm.Cond.fieldLink "SaltFarm$Parser" (87 : Nat) "SaltFarm$Tokens" "places" "[I") ∈ zALL := zin 133 (by decide +kernel) (by decide +kernel)
theorem zw134 : (Jvm.Cond.fieldLink "SaltFarm$Tokens" (18 : Nat) "SaltFarm$Tokens" "size" "I") ∈ zALL := zin 134 (by decide +kernel) (by decide +kernel)
theorem zw135 : (Jvm.Cond.fieldLink "SaltFarm$Parser" (83 : Nat) "SaltFarm$Tokens" "size" "I") ∈ zALL := zin 135 (by decide +kernel) (by decide +kernel)
theorem zw143 : (Jvm.Cond.arrayClass Jvm.ClassFile.FieldType.int) ∈ zALL := zin 143 (by decide +kernel) (by decide +kernel)
theorem zw144 : (Jvm.Cond.fieldLink "SaltFarm$Parser" (12 : Nat) "SaltFarm$Parser" "list" "LSaltFarm$Tokens;") ∈ zALL := zin 144 (by decide +kernel) (by decide +kernel)
theorem zw145 : (Jvm.Cond.fieldLink "SaltFarm$Parser" (18 : Nat) "SaltFarm$Parser" "code" "[I") ∈ zALL := zin 145 (by decide +kernel) (by decide +kernel)
theorem zw146 : (Jvm.Cond.fieldLink "SaltFarm$Parser" (22 : Nat) "SaltFarm$Parser" "size" "I") ∈ zALL := zin 146 (by decide +kernel) (by decide +kernel)
theorem zw147 : (Jvm.Cond.fieldLink "SaltFarm$Parser" (26 : Nat) "SaltFarm$Parser" "at" "I") ∈ zALL := zin 147 (by decide +kernel) (by decide +kernel)
theorem zw148 : (Jvm.Cond.fieldLink "SaltFarm$Parser" (29 : Nat) "SaltFarm$Parser" "signs" "I") ∈ zALL := zin 148 (by decide +kernel) (by decide +kernel)
theorem zw149 : (Jvm.Cond.fieldLink "SaltFarm$Parser" (32 : Nat) "SaltFarm$Parser" "fault" "I") ∈ zALL := zin 149 (by decide +kernel) (by decide +kernel)
theorem zw150 : (Jvm.Cond.fieldLink "SaltFarm" (154 : Nat) "SaltFarm$Parser" "fault" "I") ∈ zALL := zin 150 (by decide +kernel) (by decide +kernel)
theorem zw151 : (Jvm.Cond.fieldLink "SaltFarm$Parser" (35 : Nat) "SaltFarm$Parser" "place" "I") ∈ zALL := zin 151 (by decide +kernel) (by decide +kernel)
theorem zw152 : (Jvm.Cond.fieldLink "SaltFarm" (157 : Nat) "SaltFarm$Parser" "place" "I") ∈ zALL := zin 152 (by decide +kernel) (by decide +kernel)
theorem zw168 : (Jvm.Cond.classLink "SaltFarm" (41 : Nat) "SaltFarm$Law") ∈ zALL := zin 168 (by decide +kernel) (by decide +kernel)
theorem zw169 : (Jvm.Cond.instantiable "SaltFarm$Law" (3 : Nat)) ∈ zALL := zin 169 (by decide +kernel) (by decide +kernel)
theorem zw170 : (Jvm.Cond.methodLinkNest "SaltFarm" (43 : Nat) ({ cls := "SaltFarm$Law", name := "<init>", desc := "()V" } : Jvm.MethodName) "SaltFarm") ∈ zNest := zinN 170 (by decide +kernel) (by decide +kernel)
theorem zw171 : (Jvm.Cond.instanceMethod ({ cls := "SaltFarm$Law", name := "<init>", desc := "()V" } : Jvm.MethodName)) ∈ zALL := zin 171 (by decide +kernel) (by decide +kernel)
theorem zw172 : (Jvm.Cond.code ({ cls := "SaltFarm$Law", name := "<init>", desc := "()V" } : Jvm.MethodName) prog_4_method_1_code (1 : Nat) (Option.none : Option Jvm.ClassFile.FieldType)) ∈ zALL := zin 172 (by decide +kernel) (by decide +kernel)
theorem zw173 : (Jvm.Cond.methodLink "SaltFarm$Law" (3 : Nat) ({ cls := "java/lang/Object", name := "<init>", desc := "()V" } : Jvm.MethodName)) ∈ zALL := zin 173 (by decide +kernel) (by decide +kernel)
theorem zw174 : (Jvm.Cond.classLink "SaltFarm$Law" (9 : Nat) "SaltFarm$Edict") ∈ zALL := zin 174 (by decide +kernel) (by decide +kernel)
theorem zw175 : (Jvm.Cond.arrayOver (Jvm.ClassFile.FieldType.object "SaltFarm$Edict")) ∈ zAO := zinA 175 (by decide +kernel) (by decide +kernel)
theorem zw176 : (Jvm.Cond.classLink "SaltFarm$Law" (17 : Nat) "SaltFarm$Reckoner") ∈ zALL := zin 176 (by decide +kernel) (by decide +kernel)
theorem zw177 : (Jvm.Cond.instantiable "SaltFarm$Reckoner" (6 : Nat)) ∈ zALL := zin 177 (by decide +kernel) (by decide +kernel)
theorem zw178 : (Jvm.Cond.methodLinkNest "SaltFarm$Law" (19 : Nat) ({ cls := "SaltFarm$Reckoner", name := "<init>", desc := "()V" } : Jvm.MethodName) "SaltFarm") ∈ zNest := zinN 178 (by decide +kernel) (by decide +kernel)
theorem zw179 : (Jvm.Cond.instanceMethod ({ cls := "SaltFarm$Reckoner", name := "<init>", desc := "()V" } : Jvm.MethodName)) ∈ zALL := zin 179 (by decide +kernel) (by decide +kernel)
theorem zw180 : (Jvm.Cond.code ({ cls := "SaltFarm$Reckoner", name := "<init>", desc := "()V" } : Jvm.MethodName) prog_8_method_1_code (1 : Nat) (Option.none : Option Jvm.ClassFile.FieldType)) ∈ zALL := zin 180 (by decide +kernel) (by decide +kernel)
theorem zw181 : (Jvm.Cond.methodLink "SaltFarm$Reckoner" (3 : Nat) ({ cls := "java/lang/Object", name := "<init>", desc := "()V" } : Jvm.MethodName)) ∈ zALL := zin 181 (by decide +kernel) (by decide +kernel)
theorem zw182 : (Jvm.Cond.fieldLink "SaltFarm$Reckoner" (11 : Nat) "SaltFarm$Reckoner" "waiting" "[I") ∈ zALL := zin 182 (by decide +kernel) (by decide +kernel)
theorem zw183 : (Jvm.Cond.fieldLink "SaltFarm$Reckoner" (15 : Nat) "SaltFarm$Reckoner" "size" "I") ∈ zALL := zin 183 (by decide +kernel) (by decide +kernel)
theorem zw184 : (Jvm.Cond.fieldLink "SaltFarm$Reckoner" (19 : Nat) "SaltFarm$Reckoner" "year" "I") ∈ zALL := zin 184 (by decide +kernel) (by decide +kernel)
theorem zw185 : (Jvm.Cond.fieldLink "SaltFarm$Law" (61 : Nat) "SaltFarm$Reckoner" "year" "I") ∈ zALL := zin 185 (by decide +kernel) (by decide +kernel)
theorem zw186 : (Jvm.Cond.fieldLink "SaltFarm$Reckoner" (22 : Nat) "SaltFarm$Reckoner" "mouths" "I") ∈ zALL := zin 186 (by decide +kernel) (by decide +kernel)
theorem zw187 : (Jvm.Cond.fieldLink "SaltFarm$Law" (65 : Nat) "SaltFarm$Reckoner" "mouths" "I") ∈ zALL := zin 187 (by decide +kernel) (by decide +kernel)
theorem zw188 : (Jvm.Cond.fieldLink "SaltFarm$Reckoner" (25 : Nat) "SaltFarm$Reckoner" "need" "I") ∈ zALL := zin 188 (by decide +kernel) (by decide +kernel)
theorem zw189 : (Jvm.Cond.fieldLink "SaltFarm$Law" (69 : Nat) "SaltFarm$Reckoner" "need" "I") ∈ zALL := zin 189 (by decide +kernel) (by decide +kernel)
theorem zw190 : (Jvm.Cond.fieldLink "SaltFarm$Reckoner" (28 : Nat) "SaltFarm$Reckoner" "old" "I") ∈ zALL := zin 190 (by decide +kernel) (by decide +kernel)
theorem zw191 : (Jvm.Cond.fieldLink "SaltFarm$Law" (70 : Nat) "SaltFarm$Reckoner" "old" "I") ∈ zALL := zin 191 (by decide +kernel) (by decide +kernel)
theorem zw205 : (Jvm.Cond.fieldLink "SaltFarm$Law" (11 : Nat) "SaltFarm$Law" "edicts" "[LSaltFarm$Edict;") ∈ zALL := zin 205 (by decide +kernel) (by decide +kernel)
theorem zw206 : (Jvm.Cond.fieldLink "SaltFarm$Law" (20 : Nat) "SaltFarm$Law" "reckoner" "LSaltFarm$Reckoner;") ∈ zALL := zin 206 (by decide +kernel) (by decide +kernel)
theorem zw207 : (Jvm.Cond.fieldLink "SaltFarm$Law" (24 : Nat) "SaltFarm$Law" "size" "I") ∈ zALL := zin 207 (by decide +kernel) (by decide +kernel)
theorem zw208 : (Jvm.Cond.fieldLink "SaltFarm" (280 : Nat) "SaltFarm$Law" "size" "I") ∈ zALL := zin 208 (by decide +kernel) (by decide +kernel)
theorem zw216 : (Jvm.Cond.classLink "SaltFarm" (48 : Nat) "SaltFarm$Market") ∈ zALL := zin 216 (by decide +kernel) (by decide +kernel)
theorem zw217 : (Jvm.Cond.instantiable "SaltFarm$Market" (12 : Nat)) ∈ zALL := zin 217 (by decide +kernel) (by decide +kernel)
theorem zw218 : (Jvm.Cond.methodLinkNest "SaltFarm" (50 : Nat) ({ cls := "SaltFarm$Market", name := "<init>", desc := "()V" } : Jvm.MethodName) "SaltFarm") ∈ zNest := zinN 218 (by decide +kernel) (by decide +kernel)
theorem zw219 : (Jvm.Cond.instanceMethod ({ cls := "SaltFarm$Market", name := "<init>", desc := "()V" } : Jvm.MethodName)) ∈ zALL := zin 219 (by decide +kernel) (by decide +kernel)
theorem zw220 : (Jvm.Cond.code ({ cls := "SaltFarm$Market", name := "<init>", desc := "()V" } : Jvm.MethodName) prog_5_method_1_code (1 : Nat) (Option.none : Option Jvm.ClassFile.FieldType)) ∈ zALL := zin 220 (by decide +kernel) (by decide +kernel)
theorem zw221 : (Jvm.Cond.methodLink "SaltFarm$Market" (3 : Nat) ({ cls := "java/lang/Object", name := "<init>", desc := "()V" } : Jvm.MethodName)) ∈ zALL := zin 221 (by decide +kernel) (by decide +kernel)
theorem zw222 : (Jvm.Cond.fieldLink "SaltFarm$Market" (9 : Nat) "SaltFarm$Market" "prices" "[I") ∈ zALL := zin 222 (by decide +kernel) (by decide +kernel)
theorem zw223 : (Jvm.Cond.fieldLink "SaltFarm$Market" (15 : Nat) "SaltFarm$Market" "duePounds" "[J") ∈ zALL := zin 223 (by decide +kernel) (by decide +kernel)
theorem zw224 : (Jvm.Cond.fieldLink "SaltFarm$Market" (19 : Nat) "SaltFarm$Market" "restPounds" "[J") ∈ zALL := zin 224 (by decide +kernel) (by decide +kernel)
theorem zw225 : (Jvm.Cond.fieldLink "SaltFarm$Market" (22 : Nat) "SaltFarm$Market" "offers" "[I") ∈ zALL := zin 225 (by decide +kernel) (by decide +kernel)
theorem zw226 : (Jvm.Cond.fieldLink "SaltFarm$Market" (25 : Nat) "SaltFarm$Market" "tollsTo" "[I") ∈ zALL := zin 226 (by decide +kernel) (by decide +kernel)
theorem zw227 : (Jvm.Cond.fieldLink "SaltFarm$Market" (28 : Nat) "SaltFarm$Market" "way" "[I") ∈ zALL := zin 227 (by decide +kernel) (by decide +kernel)
theorem zw228 : (Jvm.Cond.fieldLink "SaltFarm$Market" (31 : Nat) "SaltFarm$Market" "ones" "[I") ∈ zALL := zin 228 (by decide +kernel) (by decide +kernel)
theorem zw229 : (Jvm.Cond.fieldLink "SaltFarm$Market" (34 : Nat) "SaltFarm$Market" "others" "[I") ∈ zALL := zin 229 (by decide +kernel) (by decide +kernel)
theorem zw230 : (Jvm.Cond.fieldLink "SaltFarm$Market" (37 : Nat) "SaltFarm$Market" "tolls" "[I") ∈ zALL := zin 230 (by decide +kernel) (by decide +kernel)
theorem zw231 : (Jvm.Cond.fieldLink "SaltFarm$Watch" (48 : Nat) "SaltFarm$Market" "tolls" "[I") ∈ zALL := zin 231 (by decide +kernel) (by decide +kernel)
theorem zw232 : (Jvm.Cond.fieldLink "SaltFarm$Market" (40 : Nat) "SaltFarm$Market" "provinceCount" "I") ∈ zALL := zin 232 (by decide +kernel) (by decide +kernel)
theorem zw233 : (Jvm.Cond.fieldLink "SaltFarm" (286 : Nat) "SaltFarm$Market" "provinceCount" "I") ∈ zALL := zin 233 (by decide +kernel) (by decide +kernel)
theorem zw234 : (Jvm.Cond.fieldLink "SaltFarm$Market" (44 : Nat) "SaltFarm$Market" "borderCount" "I") ∈ zALL := zin 234 (by decide +kernel) (by decide +kernel)
theorem zw235 : (Jvm.Cond.fieldLink "SaltFarm$Watch" (25 : Nat) "SaltFarm$Market" "borderCount" "I") ∈ zALL := zin 235 (by decide +kernel) (by decide +kernel)
theorem zw236 : (Jvm.Cond.fieldLink "SaltFarm" (287 : Nat) "SaltFarm$Market" "borderCount" "I") ∈ zALL := zin 236 (by decide +kernel) (by decide +kernel)
theorem zw237 : (Jvm.Cond.fieldLink "SaltFarm$Market" (47 : Nat) "SaltFarm$Market" "wayLength" "I") ∈ zALL := zin 237 (by decide +kernel) (by decide +kernel)
theorem zw238 : (Jvm.Cond.fieldLink "SaltFarm" (222 : Nat) "SaltFarm$Market" "wayLength" "I") ∈ zALL := zin 238 (by decide +kernel) (by decide +kernel)
theorem zw264 : (Jvm.Cond.arrayClass Jvm.ClassFile.FieldType.long) ∈ zALL := zin 264 (by decide +kernel) (by decide +kernel)
theorem zw265 : (Jvm.Cond.classLink "SaltFarm" (55 : Nat) "SaltFarm$Watch") ∈ zALL := zin 265 (by decide +kernel) (by decide +kernel)
theorem zw266 : (Jvm.Cond.instantiable "SaltFarm$Watch" (4 : Nat)) ∈ zALL := zin 266 (by decide +kernel) (by decide +kernel)
theorem zw267 : (Jvm.Cond.methodLinkNest "SaltFarm" (57 : Nat) ({ cls := "SaltFarm$Watch", name := "<init>", desc := "()V" } : Jvm.MethodName) "SaltFarm") ∈ zNest := zinN 267 (by decide +kernel) (by decide +kernel)
theorem zw268 : (Jvm.Cond.instanceMethod ({ cls := "SaltFarm$Watch", name := "<init>", desc := "()V" } : Jvm.MethodName)) ∈ zALL := zin 268 (by decide +kernel) (by decide +kernel)
theorem zw269 : (Jvm.Cond.code ({ cls := "SaltFarm$Watch", name := "<init>", desc := "()V" } : Jvm.MethodName) prog_12_method_1_code (1 : Nat) (Option.none : Option Jvm.ClassFile.FieldType)) ∈ zALL := zin 269 (by decide +kernel) (by decide +kernel)
theorem zw270 : (Jvm.Cond.methodLink "SaltFarm$Watch" (3 : Nat) ({ cls := "java/lang/Object", name := "<init>", desc := "()V" } : Jvm.MethodName)) ∈ zALL := zin 270 (by decide +kernel) (by decide +kernel)
theorem zw271 : (Jvm.Cond.fieldLink "SaltFarm$Watch" (9 : Nat) "SaltFarm$Watch" "posts" "[I") ∈ zALL := zin 271 (by decide +kernel) (by decide +kernel)
theorem zw272 : (Jvm.Cond.fieldLink "SaltFarm$Watch" (15 : Nat) "SaltFarm$Watch" "standing" "[I") ∈ zALL := zin 272 (by decide +kernel) (by decide +kernel)
theorem zw273 : (Jvm.Cond.fieldLink "SaltFarm$Watch" (18 : Nat) "SaltFarm$Watch" "borderCount" "I") ∈ zALL := zin 273 (by decide +kernel) (by decide +kernel)
theorem zw274 : (Jvm.Cond.fieldLink "SaltFarm$Watch" (22 : Nat) "SaltFarm$Watch" "guards" "I") ∈ zALL := zin 274 (by decide +kernel) (by decide +kernel)
theorem zw284 : (Jvm.Cond.fieldLink "SaltFarm" (11 : Nat) "SaltFarm" "provinces" "[LSaltFarm$Province;") ∈ zALL := zin 284 (by decide +kernel) (by decide +kernel)
theorem zw285 : (Jvm.Cond.fieldLink "SaltFarm" (17 : Nat) "SaltFarm" "borders" "[LSaltFarm$Border;") ∈ zALL := zin 285 (by decide +kernel) (by decide +kernel)
theorem zw286 : (Jvm.Cond.fieldLink "SaltFarm" (23 : Nat) "SaltFarm" "stores" "[LSaltFarm$Store;") ∈ zALL := zin 286 (by decide +kernel) (by decide +kernel)
theorem zw287 : (Jvm.Cond.fieldLink "SaltFarm" (30 : Nat) "SaltFarm" "tape" "LSaltFarm$Tape;") ∈ zALL := zin 287 (by decide +kernel) (by decide +kernel)
theorem zw288 : (Jvm.Cond.fieldLink "SaltFarm" (37 : Nat) "SaltFarm" "parser" "LSaltFarm$Parser;") ∈ zALL := zin 288 (by decide +kernel) (by decide +kernel)
theorem zw289 : (Jvm.Cond.fieldLink "SaltFarm" (44 : Nat) "SaltFarm" "law" "LSaltFarm$Law;") ∈ zALL := zin 289 (by decide +kernel) (by decide +kernel)
theorem zw290 : (Jvm.Cond.fieldLink "SaltFarm" (51 : Nat) "SaltFarm" "market" "LSaltFarm$Market;") ∈ zALL := zin 290 (by decide +kernel) (by decide +kernel)
theorem zw291 : (Jvm.Cond.fieldLink "SaltFarm" (58 : Nat) "SaltFarm" "watch" "LSaltFarm$Watch;") ∈ zALL := zin 291 (by decide +kernel) (by decide +kernel)
theorem zw292 : (Jvm.Cond.fieldLink "SaltFarm" (62 : Nat) "SaltFarm" "provinceCount" "I") ∈ zALL := zin 292 (by decide +kernel) (by decide +kernel)
theorem zw293 : (Jvm.Cond.fieldLink "SaltFarm" (66 : Nat) "SaltFarm" "borderCount" "I") ∈ zALL := zin 293 (by decide +kernel) (by decide +kernel)
theorem zw294 : (Jvm.Cond.fieldLink "SaltFarm" (69 : Nat) "SaltFarm" "storeCount" "I") ∈ zALL := zin 294 (by decide +kernel) (by decide +kernel)
theorem zw295 : (Jvm.Cond.fieldLink "SaltFarm" (72 : Nat) "SaltFarm" "thisYear" "I") ∈ zALL := zin 295 (by decide +kernel) (by decide +kernel)
theorem zw296 : (Jvm.Cond.fieldLink "SaltFarm" (75 : Nat) "SaltFarm" "guardWeight" "I") ∈ zALL := zin 296 (by decide +kernel) (by decide +kernel)
theorem zw297 : (Jvm.Cond.fieldLink "SaltFarm" (78 : Nat) "SaltFarm" "latestTrouble" "I") ∈ zALL := zin 297 (by decide +kernel) (by decide +kernel)
theorem zw298 : (Jvm.Cond.fieldLink "SaltFarm" (81 : Nat) "SaltFarm" "latestFault" "I") ∈ zALL := zin 298 (by decide +kernel) (by decide +kernel)
theorem zw299 : (Jvm.Cond.fieldLink "SaltFarm" (84 : Nat) "SaltFarm" "faultPlace" "I") ∈ zALL := zin 299 (by decide +kernel) (by decide +kernel)
theorem zw333 : (Jvm.Cond.methodLink "SaltFarmLaw" (13 : Nat) ({ cls := "SaltFarm", name := "province", desc := "(II)I" } : Jvm.MethodName)) ∈ zALL := zin 333 (by decide +kernel) (by decide +kernel)
theorem zw334 : (Jvm.Cond.instanceMethod ({ cls := "SaltFarm", name := "province", desc := "(II)I" } : Jvm.MethodName)) ∈ zALL := zin 334 (by decide +kernel) (by decide +kernel)
theorem zw335 : (Jvm.Cond.selects "SaltFarm" ({ cls := "SaltFarm", name := "province", desc := "(II)I" } : Jvm.MethodName) ({ cls := "SaltFarm", name := "province", desc := "(II)I" } : Jvm.MethodName)) ∈ zALL := zin 335 (by decide +kernel) (by decide +kernel)
theorem zw336 : (Jvm.Cond.code ({ cls := "SaltFarm", name := "province", desc := "(II)I" } : Jvm.MethodName) prog_1_method_2_code (3 : Nat) (Option.some Jvm.ClassFile.FieldType.int)) ∈ zALL := zin 336 (by decide +kernel) (by decide +kernel)
theorem zw337 : (Jvm.Cond.methodLink "SaltFarm" (87 : Nat) ({ cls := "SaltFarm", name := "fitsPeople", desc := "(II)Z" } : Jvm.MethodName)) ∈ zALL := zin 337 (by decide +kernel) (by decide +kernel)
theorem zw338 : (Jvm.Cond.static ({ cls := "SaltFarm", name := "fitsPeople", desc := "(II)Z" } : Jvm.MethodName)) ∈ zALL := zin 338 (by decide +kernel) (by decide +kernel)
theorem zw339 : (Jvm.Cond.code ({ cls := "SaltFarm", name := "fitsPeople", desc := "(II)Z" } : Jvm.MethodName) prog_1_method_41_code (2 : Nat) (Option.some Jvm.ClassFile.FieldType.boolean)) ∈ zALL := zin 339 (by decide +kernel) (by decide +kernel)
theorem zw340 : (Jvm.Cond.constant "SaltFarm" (295 : Nat) (100000 : Int32)) ∈ zALL := zin 340 (by decide +kernel) (by decide +kernel)
theorem zw341 : (Jvm.Cond.methodLink "SaltFarm" (123 : Nat) ({ cls := "SaltFarm", name := "within", desc := "(III)Z" } : Jvm.MethodName)) ∈ zALL := zin 341 (by decide +kernel) (by decide +kernel)
theorem zw342 : (Jvm.Cond.static ({ cls := "SaltFarm", name := "within", desc := "(III)Z" } : Jvm.MethodName)) ∈ zALL := zin 342 (by decide +kernel) (by decide +kernel)
theorem zw343 : (Jvm.Cond.code ({ cls := "SaltFarm", name := "within", desc := "(III)Z" } : Jvm.MethodName) prog_1_method_42_code (3 : Nat) (Option.some Jvm.ClassFile.FieldType.boolean)) ∈ zALL := zin 343 (by decide +kernel) (by decide +kernel)
theorem zw344 : (Jvm.Cond.methodLink "SaltFarm" (91 : Nat) ({ cls := "SaltFarm", name := "refuse", desc := "(I)I" } : Jvm.MethodName)) ∈ zALL := zin 344 (by decide +kernel) (by decide +kernel)
theorem zw346 : (Jvm.Cond.instanceMethod ({ cls := "SaltFarm", name := "refuse", desc := "(I)I" } : Jvm.MethodName)) ∈ zALL := zin 346 (by decide +kernel) (by decide +kernel)
theorem zw347 : (Jvm.Cond.code ({ cls := "SaltFarm", name := "refuse", desc := "(I)I" } : Jvm.MethodName) prog_1_method_32_code (2 : Nat) (Option.some Jvm.ClassFile.FieldType.int)) ∈ zALL := zin 347 (by decide +kernel) (by decide +kernel)
theorem zw348 : (Jvm.Cond.instantiable "SaltFarm$Province" (5 : Nat)) ∈ zALL := zin 348 (by decide +kernel) (by decide +kernel)
theorem zw349 : (Jvm.Cond.methodLink "SaltFarm" (95 : Nat) ({ cls := "SaltFarm$Province", name := "<init>", desc := "(II)V" } : Jvm.MethodName)) ∈ zALL := zin 349 (by decide +kernel) (by decide +kernel)
theorem zw350 : (Jvm.Cond.instanceMethod ({ cls := "SaltFarm$Province", name := "<init>", desc := "(II)V" } : Jvm.MethodName)) ∈ zALL := zin 350 (by decide +kernel) (by decide +kernel)
theorem zw351 : (Jvm.Cond.code ({ cls := "SaltFarm$Province", name := "<init>", desc := "(II)V" } : Jvm.MethodName) prog_7_method_1_code (3 : Nat) (Option.none : Option Jvm.ClassFile.FieldType)) ∈ zALL := zin 351 (by decide +kernel) (by decide +kernel)
theorem zw352 : (Jvm.Cond.methodLink "SaltFarm$Province" (3 : Nat) ({ cls := "java/lang/Object", name := "<init>", desc := "()V" } : Jvm.MethodName)) ∈ zALL := zin 352 (by decide +kernel) (by decide +kernel)
theorem zw353 : (Jvm.Cond.fieldLink "SaltFarm$Province" (22 : Nat) "SaltFarm$Province" "mouths" "I") ∈ zALL := zin 353 (by decide +kernel) (by decide +kernel)
theorem zw354 : (Jvm.Cond.fieldLink "SaltFarm$Market" (56 : Nat) "SaltFarm$Province" "mouths" "I") ∈ zALL := zin 354 (by decide +kernel) (by decide +kernel)
theorem zw355 : (Jvm.Cond.fieldLink "SaltFarm" (109 : Nat) "SaltFarm$Province" "mouths" "I") ∈ zALL := zin 355 (by decide +kernel) (by decide +kernel)
theorem zw356 : (Jvm.Cond.fieldLink "SaltFarm$Law" (62 : Nat) "SaltFarm$Province" "mouths" "I") ∈ zALL := zin 356 (by decide +kernel) (by decide +kernel)
theorem zw357 : (Jvm.Cond.fieldLink "SaltFarm$Province" (25 : Nat) "SaltFarm$Province" "need" "I") ∈ zALL := zin 357 (by decide +kernel) (by decide +kernel)
theorem zw358 : (Jvm.Cond.fieldLink "SaltFarm$Market" (59 : Nat) "SaltFarm$Province" "need" "I") ∈ zALL := zin 358 (by decide +kernel) (by decide +kernel)
theorem zw359 : (Jvm.Cond.fieldLink "SaltFarm" (112 : Nat) "SaltFarm$Province" "need" "I") ∈ zALL := zin 359 (by decide +kernel) (by decide +kernel)
theorem zw360 : (Jvm.Cond.fieldLink "SaltFarm$Law" (66 : Nat) "SaltFarm$Province" "need" "I") ∈ zALL := zin 360 (by decide +kernel) (by decide +kernel)
theorem zw361 : (Jvm.Cond.fieldLink "SaltFarm$Province" (9 : Nat) "SaltFarm$Province" "prices" "[I") ∈ zALL := zin 361 (by decide +kernel) (by decide +kernel)
theorem zw362 : (Jvm.Cond.fieldLink "SaltFarm$Market" (55 : Nat) "SaltFarm$Province" "prices" "[I") ∈ zALL := zin 362 (by decide +kernel) (by decide +kernel)
theorem zw363 : (Jvm.Cond.fieldLink "SaltFarm$Law" (51 : Nat) "SaltFarm$Province" "prices" "[I") ∈ zALL := zin 363 (by decide +kernel) (by decide +kernel)
theorem zw364 : (Jvm.Cond.fieldLink "SaltFarm" (188 : Nat) "SaltFarm$Province" "prices" "[I") ∈ zALL := zin 364 (by decide +kernel) (by decide +kernel)
theorem zw365 : (Jvm.Cond.fieldLink "SaltFarm$Province" (15 : Nat) "SaltFarm$Province" "duties" "[I") ∈ zALL := zin 365 (by decide +kernel) (by decide +kernel)
theorem zw366 : (Jvm.Cond.fieldLink "SaltFarm$Market" (50 : Nat) "SaltFarm$Province" "duties" "[I") ∈ zALL := zin 366 (by decide +kernel) (by decide +kernel)
theorem zw367 : (Jvm.Cond.fieldLink "SaltFarm$Law" (55 : Nat) "SaltFarm$Province" "duties" "[I") ∈ zALL := zin 367 (by decide +kernel) (by decide +kernel)
theorem zw368 : (Jvm.Cond.fieldLink "SaltFarm" (184 : Nat) "SaltFarm$Province" "duties" "[I") ∈ zALL := zin 368 (by decide +kernel) (by decide +kernel)
theorem zw369 : (Jvm.Cond.fieldLink "SaltFarm$Province" (18 : Nat) "SaltFarm$Province" "yearsKnown" "I") ∈ zALL := zin 369 (by decide +kernel) (by decide +kernel)
theorem zw370 : (Jvm.Cond.fieldLink "SaltFarm$Law" (38 : Nat) "SaltFarm$Province" "yearsKnown" "I") ∈ zALL := zin 370 (by decide +kernel) (by decide +kernel)
theorem zw382 : (Jvm.Cond.methodLink "SaltFarm" (98 : Nat) ({ cls := "SaltFarm", name := "grant", desc := "(I)I" } : Jvm.MethodName)) ∈ zALL := zin 382 (by decide +kernel) (by decide +kernel)
theorem zw384 : (Jvm.Cond.instanceMethod ({ cls := "SaltFarm", name := "grant", desc := "(I)I" } : Jvm.MethodName)) ∈ zALL := zin 384 (by decide +kernel) (by decide +kernel)
theorem zw385 : (Jvm.Cond.code ({ cls := "SaltFarm", name := "grant", desc := "(I)I" } : Jvm.MethodName) prog_1_method_33_code (2 : Nat) (Option.some Jvm.ClassFile.FieldType.int)) ∈ zALL := zin 385 (by decide +kernel) (by decide +kernel)
theorem zw386 : (Jvm.Cond.methodLink "SaltFarmLaw" (18 : Nat) ({ cls := "SaltFarm", name := "people", desc := "(III)Z" } : Jvm.MethodName)) ∈ zALL := zin 386 (by decide +kernel) (by decide +kernel)
theorem zw387 : (Jvm.Cond.instanceMethod ({ cls := "SaltFarm", name := "people", desc := "(III)Z" } : Jvm.MethodName)) ∈ zALL := zin 387 (by decide +kernel) (by decide +kernel)
theorem zw388 : (Jvm.Cond.selects "SaltFarm" ({ cls := "SaltFarm", name := "people", desc := "(III)Z" } : Jvm.MethodName) ({ cls := "SaltFarm", name := "people", desc := "(III)Z" } : Jvm.MethodName)) ∈ zALL := zin 388 (by decide +kernel) (by decide +kernel)
theorem zw389 : (Jvm.Cond.code ({ cls := "SaltFarm", name := "people", desc := "(III)Z" } : Jvm.MethodName) prog_1_method_3_code (5 : Nat) (Option.some Jvm.ClassFile.FieldType.boolean)) ∈ zALL := zin 389 (by decide +kernel) (by decide +kernel)
theorem zw390 : (Jvm.Cond.methodLink "SaltFarm" (101 : Nat) ({ cls := "SaltFarm", name := "provinceAt", desc := "(I)LSaltFarm$Province;" } : Jvm.MethodName)) ∈ zALL := zin 390 (by decide +kernel) (by decide +kernel)
theorem zw392 : (Jvm.Cond.instanceMethod ({ cls := "SaltFarm", name := "provinceAt", desc := "(I)LSaltFarm$Province;" } : Jvm.MethodName)) ∈ zALL := zin 392 (by decide +kernel) (by decide +kernel)
theorem zw393 : (Jvm.Cond.code ({ cls := "SaltFarm", name := "provinceAt", desc := "(I)LSaltFarm$Province;" } : Jvm.MethodName) prog_1_method_36_code (2 : Nat) (Option.some (Jvm.ClassFile.FieldType.object "SaltFarm$Province"))) ∈ zALL := zin 393 (by decide +kernel) (by decide +kernel)
theorem zw394 : (Jvm.Cond.methodLink "SaltFarm" (105 : Nat) ({ cls := "SaltFarm", name := "deny", desc := "(I)Z" } : Jvm.MethodName)) ∈ zALL := zin 394 (by decide +kernel) (by decide +kernel)
theorem zw396 : (Jvm.Cond.instanceMethod ({ cls := "SaltFarm", name := "deny", desc := "(I)Z" } : Jvm.MethodName)) ∈ zALL := zin 396 (by decide +kernel) (by decide +kernel)
theorem zw397 : (Jvm.Cond.code ({ cls := "SaltFarm", name := "deny", desc := "(I)Z" } : Jvm.MethodName) prog_1_method_34_code (2 : Nat) (Option.some Jvm.ClassFile.FieldType.boolean)) ∈ zALL := zin 397 (by decide +kernel) (by decide +kernel)
theorem zw398 : (Jvm.Cond.methodLink "SaltFarm" (115 : Nat) ({ cls := "SaltFarm$Province", name := "forgetFrom", desc := "(I)V" } : Jvm.MethodName)) ∈ zALL := zin 398 (by decide +kernel) (by decide +kernel)
theorem zw399 : (Jvm.Cond.instanceMethod ({ cls := "SaltFarm$Province", name := "forgetFrom", desc := "(I)V" } : Jvm.MethodName)) ∈ zALL := zin 399 (by decide +kernel) (by decide +kernel)
theorem zw400 : (Jvm.Cond.selects "SaltFarm$Province" ({ cls := "SaltFarm$Province", name := "forgetFrom", desc := "(I)V" } : Jvm.MethodName) ({ cls := "SaltFarm$Province", name := "forgetFrom", desc := "(I)V" } : Jvm.MethodName)) ∈ zALL := zin 400 (by decide +kernel) (by decide +kernel)
theorem zw401 : (Jvm.Cond.code ({ cls := "SaltFarm$Province", name := "forgetFrom", desc := "(I)V" } : Jvm.MethodName) prog_7_method_2_code (2 : Nat) (Option.none : Option Jvm.ClassFile.FieldType)) ∈ zALL := zin 401 (by decide +kernel) (by decide +kernel)
theorem zw402 : (Jvm.Cond.methodLink "SaltFarm$Province" (28 : Nat) ({ cls := "java/lang/Math", name := "min", desc := "(II)I" } : Jvm.MethodName)) ∈ zALL := zin 402 (by decide +kernel) (by decide +kernel)
theorem zw403 : (Jvm.Cond.static ({ cls := "java/lang/Math", name := "min", desc := "(II)I" } : Jvm.MethodName)) ∈ zALL := zin 403 (by decide +kernel) (by decide +kernel)
theorem zw404 : (Jvm.Cond.code ({ cls := "java/lang/Math", name := "min", desc := "(II)I" } : Jvm.MethodName) prog_18_method_69_code (2 : Nat) (Option.some Jvm.ClassFile.FieldType.int)) ∈ zALL := zin 404 (by decide +kernel) (by decide +kernel)
theorem zw405 : (Jvm.Cond.methodLink "SaltFarm" (119 : Nat) ({ cls := "SaltFarm", name := "allow", desc := "()Z" } : Jvm.MethodName)) ∈ zALL := zin 405 (by decide +kernel) (by decide +kernel)
theorem zw407 : (Jvm.Cond.instanceMethod ({ cls := "SaltFarm", name := "allow", desc := "()Z" } : Jvm.MethodName)) ∈ zALL := zin 407 (by decide +kernel) (by decide +kernel)
theorem zw408 : (Jvm.Cond.code ({ cls := "SaltFarm", name := "allow", desc := "()Z" } : Jvm.MethodName) prog_1_method_35_code (1 : Nat) (Option.some Jvm.ClassFile.FieldType.boolean)) ∈ zALL := zin 408 (by decide +kernel) (by decide +kernel)
theorem zw409 : (Jvm.Cond.methodLink "SaltFarmLaw" (23 : Nat) ({ cls := "SaltFarm", name := "border", desc := "(III)I" } : Jvm.MethodName)) ∈ zALL := zin 409 (by decide +kernel) (by decide +kernel)
theorem zw410 : (Jvm.Cond.instanceMethod ({ cls := "SaltFarm", name := "border", desc := "(III)I" } : Jvm.MethodName)) ∈ zALL := zin 410 (by decide +kernel) (by decide +kernel)
theorem zw411 : (Jvm.Cond.selects "SaltFarm" ({ cls := "SaltFarm", name := "border", desc := "(III)I" } : Jvm.MethodName) ({ cls := "SaltFarm", name := "border", desc := "(III)I" } : Jvm.MethodName)) ∈ zALL := zin 411 (by decide +kernel) (by decide +kernel)
theorem zw412 : (Jvm.Cond.code ({ cls := "SaltFarm", name := "border", desc := "(III)I" } : Jvm.MethodName) prog_1_method_4_code (4 : Nat) (Option.some Jvm.ClassFile.FieldType.int)) ∈ zALL := zin 412 (by decide +kernel) (by decide +kernel)
theorem zw413 : (Jvm.Cond.instantiable "SaltFarm$Border" (4 : Nat)) ∈ zALL := zin 413 (by decide +kernel) (by decide +kernel)
theorem zw414 : (Jvm.Cond.methodLink "SaltFarm" (127 : Nat) ({ cls := "SaltFarm$Border", name := "<init>", desc := "(III)V" } : Jvm.MethodName)) ∈ zALL := zin 414 (by decide +kernel) (by decide +kernel)
theorem zw415 : (Jvm.Cond.instanceMethod ({ cls := "SaltFarm$Border", name := "<init>", desc := "(III)V" } : Jvm.MethodName)) ∈ zALL := zin 415 (by decide +kernel) (by decide +kernel)
theorem zw416 : (Jvm.Cond.code ({ cls := "SaltFarm$Border", name := "<init>", desc := "(III)V" } : Jvm.MethodName) prog_2_method_1_code (4 : Nat) (Option.none : Option Jvm.ClassFile.FieldType)) ∈ zALL := zin 416 (by decide +kernel) (by decide +kernel)
theorem zw417 : (Jvm.Cond.methodLink "SaltFarm$Border" (1 : Nat) ({ cls := "java/lang/Object", name := "<init>", desc := "()V" } : Jvm.MethodName)) ∈ zALL := zin 417 (by decide +kernel) (by decide +kernel)
theorem zw418 : (Jvm.Cond.fieldLink "SaltFarm$Border" (13 : Nat) "SaltFarm$Border" "one" "I") ∈ zALL := zin 418 (by decide +kernel) (by decide +kernel)
theorem zw419 : (Jvm.Cond.fieldLink "SaltFarm" (228 : Nat) "SaltFarm$Border" "one" "I") ∈ zALL := zin 419 (by decide +kernel) (by decide +kernel)
theorem zw420 : (Jvm.Cond.fieldLink "SaltFarm$Border" (16 : Nat) "SaltFarm$Border" "other" "I") ∈ zALL := zin 420 (by decide +kernel) (by decide +kernel)
theorem zw421 : (Jvm.Cond.fieldLink "SaltFarm" (231 : Nat) "SaltFarm$Border" "other" "I") ∈ zALL := zin 421 (by decide +kernel) (by decide +kernel)
theorem zw422 : (Jvm.Cond.fieldLink "SaltFarm$Border" (19 : Nat) "SaltFarm$Border" "risk" "I") ∈ zALL := zin 422 (by decide +kernel) (by decide +kernel)
theorem zw423 : (Jvm.Cond.fieldLink "SaltFarm" (234 : Nat) "SaltFarm$Border" "risk" "I") ∈ zALL := zin 423 (by decide +kernel) (by decide +kernel)
theorem zw424 : (Jvm.Cond.fieldLink "SaltFarm$Border" (7 : Nat) "SaltFarm$Border" "guards" "I") ∈ zALL := zin 424 (by decide +kernel) (by decide +kernel)
theorem zw425 : (Jvm.Cond.fieldLink "SaltFarm" (134 : Nat) "SaltFarm$Border" "guards" "I") ∈ zALL := zin 425 (by decide +kernel) (by decide +kernel)
theorem zw435 : (Jvm.Cond.methodLink "SaltFarmLaw" (28 : Nat) ({ cls := "SaltFarm", name := "guard", desc := "(II)Z" } : Jvm.MethodName)) ∈ zALL := zin 435 (by decide +kernel) (by decide +kernel)
theorem zw436 : (Jvm.Cond.instanceMethod ({ cls := "SaltFarm", name := "guard", desc := "(II)Z" } : Jvm.MethodName)) ∈ zALL := zin 436 (by decide +kernel) (by decide +kernel)
theorem zw437 : (Jvm.Cond.selects "SaltFarm" ({ cls := "SaltFarm", name := "guard", desc := "(II)Z" } : Jvm.MethodName) ({ cls := "SaltFarm", name := "guard", desc := "(II)Z" } : Jvm.MethodName)) ∈ zALL := zin 437 (by decide +kernel) (by decide +kernel)
theorem zw438 : (Jvm.Cond.code ({ cls := "SaltFarm", name := "guard", desc := "(II)Z" } : Jvm.MethodName) prog_1_method_5_code (4 : Nat) (Option.some Jvm.ClassFile.FieldType.boolean)) ∈ zALL := zin 438 (by decide +kernel) (by decide +kernel)
theorem zw439 : (Jvm.Cond.methodLink "SaltFarm" (130 : Nat) ({ cls := "SaltFarm", name := "borderAt", desc := "(I)LSaltFarm$Border;" } : Jvm.MethodName)) ∈ zALL := zin 439 (by decide +kernel) (by decide +kernel)
theorem zw441 : (Jvm.Cond.instanceMethod ({ cls := "SaltFarm", name := "borderAt", desc := "(I)LSaltFarm$Border;" } : Jvm.MethodName)) ∈ zALL := zin 441 (by decide +kernel) (by decide +kernel)
theorem zw442 : (Jvm.Cond.code ({ cls := "SaltFarm", name := "borderAt", desc := "(I)LSaltFarm$Border;" } : Jvm.MethodName) prog_1_method_37_code (2 : Nat) (Option.some (Jvm.ClassFile.FieldType.object "SaltFarm$Border"))) ∈ zALL := zin 442 (by decide +kernel) (by decide +kernel)
theorem zw443 : (Jvm.Cond.methodLink "SaltFarmLaw" (33 : Nat) ({ cls := "SaltFarm", name := "weight", desc := "(I)Z" } : Jvm.MethodName)) ∈ zALL := zin 443 (by decide +kernel) (by decide +kernel)
theorem zw444 : (Jvm.Cond.instanceMethod ({ cls := "SaltFarm", name := "weight", desc := "(I)Z" } : Jvm.MethodName)) ∈ zALL := zin 444 (by decide +kernel) (by decide +kernel)
theorem zw445 : (Jvm.Cond.selects "SaltFarm" ({ cls := "SaltFarm", name := "weight", desc := "(I)Z" } : Jvm.MethodName) ({ cls := "SaltFarm", name := "weight", desc := "(I)Z" } : Jvm.MethodName)) ∈ zALL := zin 445 (by decide +kernel) (by decide +kernel)
theorem zw446 : (Jvm.Cond.code ({ cls := "SaltFarm", name := "weight", desc := "(I)Z" } : Jvm.MethodName) prog_1_method_6_code (2 : Nat) (Option.some Jvm.ClassFile.FieldType.boolean)) ∈ zALL := zin 446 (by decide +kernel) (by decide +kernel)
theorem zw447 : (Jvm.Cond.methodLink "SaltFarmLaw" (38 : Nat) ({ cls := "SaltFarm", name := "feed", desc := "(IIIII)I" } : Jvm.MethodName)) ∈ zALL := zin 447 (by decide +kernel) (by decide +kernel)
theorem zw448 : (Jvm.Cond.instanceMethod ({ cls := "SaltFarm", name := "feed", desc := "(IIIII)I" } : Jvm.MethodName)) ∈ zALL := zin 448 (by decide +kernel) (by decide +kernel)
theorem zw449 : (Jvm.Cond.selects "SaltFarm" ({ cls := "SaltFarm", name := "feed", desc := "(IIIII)I" } : Jvm.MethodName) ({ cls := "SaltFarm", name := "feed", desc := "(IIIII)I" } : Jvm.MethodName)) ∈ zALL := zin 449 (by decide +kernel) (by decide +kernel)
theorem zw450 : (Jvm.Cond.code ({ cls := "SaltFarm", name := "feed", desc := "(IIIII)I" } : Jvm.MethodName) prog_1_method_7_code (6 : Nat) (Option.some Jvm.ClassFile.FieldType.int)) ∈ zALL := zin 450 (by decide +kernel) (by decide +kernel)
theorem zw451 : (Jvm.Cond.methodLink "SaltFarm" (137 : Nat) ({ cls := "SaltFarm$Tape", name := "hasRoom", desc := "()Z" } : Jvm.MethodName)) ∈ zALL := zin 451 (by decide +kernel) (by decide +kernel)
theorem zw452 : (Jvm.Cond.instanceMethod ({ cls := "SaltFarm$Tape", name := "hasRoom", desc := "()Z" } : Jvm.MethodName)) ∈ zALL := zin 452 (by decide +kernel) (by decide +kernel)
theorem zw453 : (Jvm.Cond.selects "SaltFarm$Tape" ({ cls := "SaltFarm$Tape", name := "hasRoom", desc := "()Z" } : Jvm.MethodName) ({ cls := "SaltFarm$Tape", name := "hasRoom", desc := "()Z" } : Jvm.MethodName)) ∈ zALL := zin 453 (by decide +kernel) (by decide +kernel)
theorem zw454 : (Jvm.Cond.code ({ cls := "SaltFarm$Tape", name := "hasRoom", desc := "()Z" } : Jvm.MethodName) prog_10_method_2_code (1 : Nat) (Option.some Jvm.ClassFile.FieldType.boolean)) ∈ zALL := zin 454 (by decide +kernel) (by decide +kernel)
theorem zw455 : (Jvm.Cond.methodLink "SaltFarm" (140 : Nat) ({ cls := "SaltFarm$Tape", name := "append", desc := "(I)V" } : Jvm.MethodName)) ∈ zALL := zin 455 (by decide +kernel) (by decide +kernel)
theorem zw456 : (Jvm.Cond.instanceMethod ({ cls := "SaltFarm$Tape", name := "append", desc := "(I)V" } : Jvm.MethodName)) ∈ zALL := zin 456 (by decide +kernel) (by decide +kernel)
theorem zw457 : (Jvm.Cond.selects "SaltFarm$Tape" ({ cls := "SaltFarm$Tape", name := "append", desc := "(I)V" } : Jvm.MethodName) ({ cls := "SaltFarm$Tape", name := "append", desc := "(I)V" } : Jvm.MethodName)) ∈ zALL := zin 457 (by decide +kernel) (by decide +kernel)
theorem zw458 : (Jvm.Cond.code ({ cls := "SaltFarm$Tape", name := "append", desc := "(I)V" } : Jvm.MethodName) prog_10_method_3_code (3 : Nat) (Option.none : Option Jvm.ClassFile.FieldType)) ∈ zALL := zin 458 (by decide +kernel) (by decide +kernel)
theorem zw459 : (Jvm.Cond.methodLink "SaltFarmLaw" (43 : Nat) ({ cls := "SaltFarm", name := "edict", desc := "(III)I" } : Jvm.MethodName)) ∈ zALL := zin 459 (by decide +kernel) (by decide +kernel)
theorem zw460 : (Jvm.Cond.instanceMethod ({ cls := "SaltFarm", name := "edict", desc := "(III)I" } : Jvm.MethodName)) ∈ zALL := zin 460 (by decide +kernel) (by decide +kernel)
theorem zw461 : (Jvm.Cond.selects "SaltFarm" ({ cls := "SaltFarm", name := "edict", desc := "(III)I" } : Jvm.MethodName) ({ cls := "SaltFarm", name := "edict", desc := "(III)I" } : Jvm.MethodName)) ∈ zALL := zin 461 (by decide +kernel) (by decide +kernel)
theorem zw462 : (Jvm.Cond.code ({ cls := "SaltFarm", name := "edict", desc := "(III)I" } : Jvm.MethodName) prog_1_method_8_code (6 : Nat) (Option.some Jvm.ClassFile.FieldType.int)) ∈ zALL := zin 462 (by decide +kernel) (by decide +kernel)
theorem zw463 : (Jvm.Cond.methodLink "SaltFarm" (150 : Nat) ({ cls := "SaltFarm$Parser", name := "reads", desc := "([BI)Z" } : Jvm.MethodName)) ∈ zALL := zin 463 (by decide +kernel) (by decide +kernel)
theorem zw464 : (Jvm.Cond.instanceMethod ({ cls := "SaltFarm$Parser", name := "reads", desc := "([BI)Z" } : Jvm.MethodName)) ∈ zALL := zin 464 (by decide +kernel) (by decide +kernel)
theorem zw465 : (Jvm.Cond.selects "SaltFarm$Parser" ({ cls := "SaltFarm$Parser", name := "reads", desc := "([BI)Z" } : Jvm.MethodName) ({ cls := "SaltFarm$Parser", name := "reads", desc := "([BI)Z" } : Jvm.MethodName)) ∈ zALL := zin 465 (by decide +kernel) (by decide +kernel)
theorem zw466 : (Jvm.Cond.code ({ cls := "SaltFarm$Parser", name := "reads", desc := "([BI)Z" } : Jvm.MethodName) prog_6_method_2_code (4 : Nat) (Option.some Jvm.ClassFile.FieldType.boolean)) ∈ zALL := zin 466 (by decide +kernel) (by decide +kernel)
theorem zw467 : (Jvm.Cond.methodLink "SaltFarm$Parser" (38 : Nat) ({ cls := "SaltFarm$Tokens", name := "scan", desc := "([BI)V" } : Jvm.MethodName)) ∈ zALL := zin 467 (by decide +kernel) (by decide +kernel)
theorem zw468 : (Jvm.Cond.instanceMethod ({ cls := "SaltFarm$Tokens", name := "scan", desc := "([BI)V" } : Jvm.MethodName)) ∈ zALL := zin 468 (by decide +kernel) (by decide +kernel)
theorem zw469 : (Jvm.Cond.selects "SaltFarm$Tokens" ({ cls := "SaltFarm$Tokens", name := "scan", desc := "([BI)V" } : Jvm.MethodName) ({ cls := "SaltFarm$Tokens", name := "scan", desc := "([BI)V" } : Jvm.MethodName)) ∈ zALL := zin 469 (by decide +kernel) (by decide +kernel)
theorem zw470 : (Jvm.Cond.code ({ cls := "SaltFarm$Tokens", name := "scan", desc := "([BI)V" } : Jvm.MethodName) prog_11_method_2_code (7 : Nat) (Option.none : Option Jvm.ClassFile.FieldType)) ∈ zALL := zin 470 (by decide +kernel) (by decide +kernel)
theorem zw471 : (Jvm.Cond.methodLink "SaltFarm$Tokens" (22 : Nat) ({ cls := "SaltFarm$Tokens", name := "endOfRun", desc := "([BII)I" } : Jvm.MethodName)) ∈ zALL := zin 471 (by decide +kernel) (by decide +kernel)
theorem zw472 : (Jvm.Cond.static ({ cls := "SaltFarm$Tokens", name := "endOfRun", desc := "([BII)I" } : Jvm.MethodName)) ∈ zALL := zin 472 (by decide +kernel) (by decide +kernel)
theorem zw473 : (Jvm.Cond.code ({ cls := "SaltFarm$Tokens", name := "endOfRun", desc := "([BII)I" } : Jvm.MethodName) prog_11_method_4_code (4 : Nat) (Option.some Jvm.ClassFile.FieldType.int)) ∈ zALL := zin 473 (by decide +kernel) (by decide +kernel)
theorem zw474 : (Jvm.Cond.methodLink "SaltFarm$Tokens" (33 : Nat) ({ cls := "SaltFarm$Tokens", name := "isLetter", desc := "(B)Z" } : Jvm.MethodName)) ∈ zALL := zin 474 (by decide +kernel) (by decide +kernel)
theorem zw475 : (Jvm.Cond.static ({ cls := "SaltFarm$Tokens", name := "isLetter", desc := "(B)Z" } : Jvm.MethodName)) ∈ zALL := zin 475 (by decide +kernel) (by decide +kernel)
theorem zw476 : (Jvm.Cond.code ({ cls := "SaltFarm$Tokens", name := "isLetter", desc := "(B)Z" } : Jvm.MethodName) prog_11_method_11_code (1 : Nat) (Option.some Jvm.ClassFile.FieldType.boolean)) ∈ zALL := zin 476 (by decide +kernel) (by decide +kernel)
theorem zw477 : (Jvm.Cond.methodLink "SaltFarm$Tokens" (37 : Nat) ({ cls := "SaltFarm$Tokens", name := "isDigit", desc := "(B)Z" } : Jvm.MethodName)) ∈ zALL := zin 477 (by decide +kernel) (by decide +kernel)
theorem zw478 : (Jvm.Cond.static ({ cls := "SaltFarm$Tokens", name := "isDigit", desc := "(B)Z" } : Jvm.MethodName)) ∈ zALL := zin 478 (by decide +kernel) (by decide +kernel)
theorem zw479 : (Jvm.Cond.code ({ cls := "SaltFarm$Tokens", name := "isDigit", desc := "(B)Z" } : Jvm.MethodName) prog_11_method_12_code (1 : Nat) (Option.some Jvm.ClassFile.FieldType.boolean)) ∈ zALL := zin 479 (by decide +kernel) (by decide +kernel)
theorem zw480 : (Jvm.Cond.methodLink "SaltFarm$Tokens" (26 : Nat) ({ cls := "SaltFarm$Tokens", name := "tokenOf", desc := "([BII)I" } : Jvm.MethodName)) ∈ zALL := zin 480 (by decide +kernel) (by decide +kernel)
theorem zw481 : (Jvm.Cond.static ({ cls := "SaltFarm$Tokens", name := "tokenOf", desc := "([BII)I" } : Jvm.MethodName)) ∈ zALL := zin 481 (by decide +kernel) (by decide +kernel)
theorem zw482 : (Jvm.Cond.code ({ cls := "SaltFarm$Tokens", name := "tokenOf", desc := "([BII)I" } : Jvm.MethodName) prog_11_method_5_code (3 : Nat) (Option.some Jvm.ClassFile.FieldType.int)) ∈ zALL := zin 482 (by decide +kernel) (by decide +kernel)
theorem zw483 : (Jvm.Cond.methodLink "SaltFarm$Tokens" (40 : Nat) ({ cls := "SaltFarm$Tokens", name := "wordOf", desc := "([BII)I" } : Jvm.MethodName)) ∈ zALL := zin 483 (by decide +kernel) (by decide +kernel)
theorem zw484 : (Jvm.Cond.static ({ cls := "SaltFarm$Tokens", name := "wordOf", desc := "([BII)I" } : Jvm.MethodName)) ∈ zALL := zin 484 (by decide +kernel) (by decide +kernel)
theorem zw485 : (Jvm.Cond.code ({ cls := "SaltFarm$Tokens", name := "wordOf", desc := "([BII)I" } : Jvm.MethodName) prog_11_method_7_code (3 : Nat) (Option.some Jvm.ClassFile.FieldType.int)) ∈ zALL := zin 485 (by decide +kernel) (by decide +kernel)
theorem zw487 : (Jvm.Cond.methodLink "SaltFarm$Tokens" (52 : Nat) ({ cls := "SaltFarm$Tokens", name := "spells", desc := "([BIILjava/lang/String;)Z" } : Jvm.MethodName)) ∈ zALL := zin 487 (by decide +kernel) (by decide +kernel)
theorem zw488 : (Jvm.Cond.static ({ cls := "SaltFarm$Tokens", name := "spells", desc := "([BIILjava/lang/String;)Z" } : Jvm.MethodName)) ∈ zALL := zin 488 (by decide +kernel) (by decide +kernel)
theorem zw489 : (Jvm.Cond.code ({ cls := "SaltFarm$Tokens", name := "spells", desc := "([BIILjava/lang/String;)Z" } : Jvm.MethodName) prog_11_method_9_code (5 : Nat) (Option.some Jvm.ClassFile.FieldType.boolean)) ∈ zALL := zin 489 (by decide +kernel) (by decide +kernel)
theorem zw490 : (Jvm.Cond.methodLink "SaltFarm$Tokens" (75 : Nat) ({ cls := "java/lang/String", name := "length", desc := "()I" } : Jvm.MethodName)) ∈ zALL := zin 490 (by decide +kernel) (by decide +kernel)
theorem zw491 : (Jvm.Cond.instanceMethod ({ cls := "java/lang/String", name := "length", desc := "()I" } : Jvm.MethodName)) ∈ zALL := zin 491 (by decide +kernel) (by decide +kernel)
theorem zw492 : (Jvm.Cond.selects "java/lang/String" ({ cls := "java/lang/String", name := "length", desc := "()I" } : Jvm.MethodName) ({ cls := "java/lang/String", name := "length", desc := "()I" } : Jvm.MethodName)) ∈ zALL := zin 492 (by decide +kernel) (by decide +kernel)
theorem zw493 : (Jvm.Cond.code ({ cls := "java/lang/String", name := "length", desc := "()I" } : Jvm.MethodName) prog_20_method_54_code (1 : Nat) (Option.some Jvm.ClassFile.FieldType.int)) ∈ zALL := zin 493 (by decide +kernel) (by decide +kernel)
theorem zw494 : (Jvm.Cond.methodLink "java/lang/String" (335 : Nat) ({ cls := "java/lang/String", name := "coder", desc := "()B" } : Jvm.MethodName)) ∈ zALL := zin 494 (by decide +kernel) (by decide +kernel)
theorem zw495 : (Jvm.Cond.instanceMethod ({ cls := "java/lang/String", name := "coder", desc := "()B" } : Jvm.MethodName)) ∈ zALL := zin 495 (by decide +kernel) (by decide +kernel)
theorem zw496 : (Jvm.Cond.selects "java/lang/String" ({ cls := "java/lang/String", name := "coder", desc := "()B" } : Jvm.MethodName) ({ cls := "java/lang/String", name := "coder", desc := "()B" } : Jvm.MethodName)) ∈ zALL := zin 496 (by decide +kernel) (by decide +kernel)
theorem zw497 : (Jvm.Cond.code ({ cls := "java/lang/String", name := "coder", desc := "()B" } : Jvm.MethodName) prog_20_method_152_code (1 : Nat) (Option.some Jvm.ClassFile.FieldType.byte)) ∈ zALL := zin 497 (by decide +kernel) (by decide +kernel)
theorem zw498 : (Jvm.Cond.fieldLink "java/lang/String" (38 : Nat) "java/lang/String" "COMPACT_STRINGS" "Z") ∈ zALL := zin 498 (by decide +kernel) (by decide +kernel)
theorem zw500 : (Jvm.Cond.methodLink "SaltFarm$Tokens" (81 : Nat) ({ cls := "java/lang/String", name := "charAt", desc := "(I)C" } : Jvm.MethodName)) ∈ zALL := zin 500 (by decide +kernel) (by decide +kernel)
theorem zw501 : (Jvm.Cond.instanceMethod ({ cls := "java/lang/String", name := "charAt", desc := "(I)C" } : Jvm.MethodName)) ∈ zALL := zin 501 (by decide +kernel) (by decide +kernel)
theorem zw502 : (Jvm.Cond.selects "java/lang/String" ({ cls := "java/lang/String", name := "charAt", desc := "(I)C" } : Jvm.MethodName) ({ cls := "java/lang/String", name := "charAt", desc := "(I)C" } : Jvm.MethodName)) ∈ zALL := zin 502 (by decide +kernel) (by decide +kernel)
theorem zw503 : (Jvm.Cond.code ({ cls := "java/lang/String", name := "charAt", desc := "(I)C" } : Jvm.MethodName) prog_20_method_56_code (2 : Nat) (Option.some Jvm.ClassFile.FieldType.char)) ∈ zALL := zin 503 (by decide +kernel) (by decide +kernel)
theorem zw504 : (Jvm.Cond.methodLink "java/lang/String" (492 : Nat) ({ cls := "java/lang/String", name := "isLatin1", desc := "()Z" } : Jvm.MethodName)) ∈ zALL := zin 504 (by decide +kernel) (by decide +kernel)
theorem zw505 : (Jvm.Cond.instanceMethod ({ cls := "java/lang/String", name := "isLatin1", desc := "()Z" } : Jvm.MethodName)) ∈ zALL := zin 505 (by decide +kernel) (by decide +kernel)
theorem zw506 : (Jvm.Cond.selects "java/lang/String" ({ cls := "java/lang/String", name := "isLatin1", desc := "()Z" } : Jvm.MethodName) ({ cls := "java/lang/String", name := "isLatin1", desc := "()Z" } : Jvm.MethodName)) ∈ zALL := zin 506 (by decide +kernel) (by decide +kernel)
theorem zw507 : (Jvm.Cond.code ({ cls := "java/lang/String", name := "isLatin1", desc := "()Z" } : Jvm.MethodName) prog_20_method_154_code (1 : Nat) (Option.some Jvm.ClassFile.FieldType.boolean)) ∈ zALL := zin 507 (by decide +kernel) (by decide +kernel)
theorem zw508 : (Jvm.Cond.methodLink "java/lang/String" (495 : Nat) ({ cls := "java/lang/StringLatin1", name := "charAt", desc := "([BI)C" } : Jvm.MethodName)) ∈ zALL := zin 508 (by decide +kernel) (by decide +kernel)
theorem zw509 : (Jvm.Cond.static ({ cls := "java/lang/StringLatin1", name := "charAt", desc := "([BI)C" } : Jvm.MethodName)) ∈ zALL := zin 509 (by decide +kernel) (by decide +kernel)
theorem zw510 : (Jvm.Cond.code ({ cls := "java/lang/StringLatin1", name := "charAt", desc := "([BI)C" } : Jvm.MethodName) prog_21_method_2_code (2 : Nat) (Option.some Jvm.ClassFile.FieldType.char)) ∈ zALL := zin 510 (by decide +kernel) (by decide +kernel)
theorem zw511 : (Jvm.Cond.methodLink "java/lang/StringLatin1" (9 : Nat) ({ cls := "java/lang/String", name := "checkIndex", desc := "(II)V" } : Jvm.MethodName)) ∈ zALL := zin 511 (by decide +kernel) (by decide +kernel)
theorem zw512 : (Jvm.Cond.static ({ cls := "java/lang/String", name := "checkIndex", desc := "(II)V" } : Jvm.MethodName)) ∈ zALL := zin 512 (by decide +kernel) (by decide +kernel)
theorem zw513 : (Jvm.Cond.code ({ cls := "java/lang/String", name := "checkIndex", desc := "(II)V" } : Jvm.MethodName) prog_20_method_155_code (2 : Nat) (Option.none : Option Jvm.ClassFile.FieldType)) ∈ zALL := zin 513 (by decide +kernel) (by decide +kernel)
theorem zw514 : (Jvm.Cond.fieldLink "java/lang/String" (1053 : Nat) "jdk/internal/util/Preconditions" "SIOOBE_FORMATTER" "Ljava/util/function/BiFunction;") ∈ zALL := zin 514 (by decide +kernel) (by decide +kernel)
theorem zw516 : (Jvm.Cond.methodLink "java/lang/String" (1059 : Nat) ({ cls := "jdk/internal/util/Preconditions", name := "checkIndex", desc := "(IILjava/util/function/BiFunction;)I" } : Jvm.MethodName)) ∈ zALL := zin 516 (by decide +kernel) (by decide +kernel)
theorem zw517 : (Jvm.Cond.static ({ cls := "jdk/internal/util/Preconditions", name := "checkIndex", desc := "(IILjava/util/function/BiFunction;)I" } : Jvm.MethodName)) ∈ zALL := zin 517 (by decide +kernel) (by decide +kernel)
theorem zw518 : (Jvm.Cond.code ({ cls := "jdk/internal/util/Preconditions", name := "checkIndex", desc := "(IILjava/util/function/BiFunction;)I" } : Jvm.MethodName) prog_25_method_11_code (3 : Nat) (Option.some Jvm.ClassFile.FieldType.int)) ∈ zALL := zin 518 (by decide +kernel) (by decide +kernel)
theorem zw519 : (Jvm.Cond.methodLink "java/lang/String" (498 : Nat) ({ cls := "java/lang/StringUTF16", name := "charAt", desc := "([BI)C" } : Jvm.MethodName)) ∈ zALL := zin 519 (by decide +kernel) (by decide +kernel)
theorem zw520 : (Jvm.Cond.static ({ cls := "java/lang/StringUTF16", name := "charAt", desc := "([BI)C" } : Jvm.MethodName)) ∈ zALL := zin 520 (by decide +kernel) (by decide +kernel)
theorem zw521 : (Jvm.Cond.code ({ cls := "java/lang/StringUTF16", name := "charAt", desc := "([BI)C" } : Jvm.MethodName) prog_22_method_83_code (2 : Nat) (Option.some Jvm.ClassFile.FieldType.char)) ∈ zALL := zin 521 (by decide +kernel) (by decide +kernel)
theorem zw522 : (Jvm.Cond.methodLink "java/lang/StringUTF16" (67 : Nat) ({ cls := "java/lang/StringUTF16", name := "checkIndex", desc := "(I[B)V" } : Jvm.MethodName)) ∈ zALL := zin 522 (by decide +kernel) (by decide +kernel)
theorem zw523 : (Jvm.Cond.static ({ cls := "java/lang/StringUTF16", name := "checkIndex", desc := "(I[B)V" } : Jvm.MethodName)) ∈ zALL := zin 523 (by decide +kernel) (by decide +kernel)
theorem zw524 : (Jvm.Cond.code ({ cls := "java/lang/StringUTF16", name := "checkIndex", desc := "(I[B)V" } : Jvm.MethodName) prog_22_method_91_code (2 : Nat) (Option.none : Option Jvm.ClassFile.FieldType)) ∈ zALL := zin 524 (by decide +kernel) (by decide +kernel)
theorem zw525 : (Jvm.Cond.methodLink "java/lang/StringUTF16" (48 : Nat) ({ cls := "java/lang/StringUTF16", name := "length", desc := "([B)I" } : Jvm.MethodName)) ∈ zALL := zin 525 (by decide +kernel) (by decide +kernel)
theorem zw526 : (Jvm.Cond.static ({ cls := "java/lang/StringUTF16", name := "length", desc := "([B)I" } : Jvm.MethodName)) ∈ zALL := zin 526 (by decide +kernel) (by decide +kernel)
theorem zw527 : (Jvm.Cond.code ({ cls := "java/lang/StringUTF16", name := "length", desc := "([B)I" } : Jvm.MethodName) prog_22_method_6_code (1 : Nat) (Option.some Jvm.ClassFile.FieldType.int)) ∈ zALL := zin 527 (by decide +kernel) (by decide +kernel)
theorem zw528 : (Jvm.Cond.methodLink "java/lang/StringUTF16" (414 : Nat) ({ cls := "java/lang/String", name := "checkIndex", desc := "(II)V" } : Jvm.MethodName)) ∈ zALL := zin 528 (by decide +kernel) (by decide +kernel)
theorem zw529 : (Jvm.Cond.methodLink "java/lang/StringUTF16" (71 : Nat) ({ cls := "java/lang/StringUTF16", name := "getChar", desc := "([BI)C" } : Jvm.MethodName)) ∈ zALL := zin 529 (by decide +kernel) (by decide +kernel)
theorem zw530 : (Jvm.Cond.static ({ cls := "java/lang/StringUTF16", name := "getChar", desc := "([BI)C" } : Jvm.MethodName)) ∈ zALL := zin 530 (by decide +kernel) (by decide +kernel)
theorem zw531 : (Jvm.Cond.code ({ cls := "java/lang/StringUTF16", name := "getChar", desc := "([BI)C" } : Jvm.MethodName) prog_22_method_5_code (2 : Nat) (Option.some Jvm.ClassFile.FieldType.char)) ∈ zALL := zin 531 (by decide +kernel) (by decide +kernel)
theorem zw532 : (Jvm.Cond.fieldLink "java/lang/StringUTF16" (44 : Nat) "java/lang/StringUTF16" "$assertionsDisabled" "Z") ∈ zALL := zin 532 (by decide +kernel) (by decide +kernel)
theorem zw534 : (Jvm.Cond.fieldLink "java/lang/StringUTF16" (59 : Nat) "java/lang/StringUTF16" "HI_BYTE_SHIFT" "I") ∈ zALL := zin 534 (by decide +kernel) (by decide +kernel)
theorem zw536 : (Jvm.Cond.fieldLink "java/lang/StringUTF16" (63 : Nat) "java/lang/StringUTF16" "LO_BYTE_SHIFT" "I") ∈ zALL := zin 536 (by decide +kernel) (by decide +kernel)
theorem zw542 : (Jvm.Cond.methodLink "SaltFarm$Tokens" (64 : Nat) ({ cls := "SaltFarm$Tokens", name := "nameOf", desc := "([BII)I" } : Jvm.MethodName)) ∈ zALL := zin 542 (by decide +kernel) (by decide +kernel)
theorem zw543 : (Jvm.Cond.static ({ cls := "SaltFarm$Tokens", name := "nameOf", desc := "([BII)I" } : Jvm.MethodName)) ∈ zALL := zin 543 (by decide +kernel) (by decide +kernel)
theorem zw544 : (Jvm.Cond.code ({ cls := "SaltFarm$Tokens", name := "nameOf", desc := "([BII)I" } : Jvm.MethodName) prog_11_method_8_code (3 : Nat) (Option.some Jvm.ClassFile.FieldType.int)) ∈ zALL := zin 544 (by decide +kernel) (by decide +kernel)
theorem zw549 : (Jvm.Cond.methodLink "SaltFarm$Tokens" (43 : Nat) ({ cls := "SaltFarm$Tokens", name := "numberOf", desc := "([BII)I" } : Jvm.MethodName)) ∈ zALL := zin 549 (by decide +kernel) (by decide +kernel)
theorem zw550 : (Jvm.Cond.static ({ cls := "SaltFarm$Tokens", name := "numberOf", desc := "([BII)I" } : Jvm.MethodName)) ∈ zALL := zin 550 (by decide +kernel) (by decide +kernel)
theorem zw551 : (Jvm.Cond.code ({ cls := "SaltFarm$Tokens", name := "numberOf", desc := "([BII)I" } : Jvm.MethodName) prog_11_method_6_code (5 : Nat) (Option.some Jvm.ClassFile.FieldType.int)) ∈ zALL := zin 551 (by decide +kernel) (by decide +kernel)
theorem zw552 : (Jvm.Cond.methodLink "SaltFarm$Tokens" (46 : Nat) ({ cls := "SaltFarm$Tokens", name := "signOf", desc := "(B)I" } : Jvm.MethodName)) ∈ zALL := zin 552 (by decide +kernel) (by decide +kernel)
theorem zw553 : (Jvm.Cond.static ({ cls := "SaltFarm$Tokens", name := "signOf", desc := "(B)I" } : Jvm.MethodName)) ∈ zALL := zin 553 (by decide +kernel) (by decide +kernel)
theorem zw554 : (Jvm.Cond.code ({ cls := "SaltFarm$Tokens", name := "signOf", desc := "(B)I" } : Jvm.MethodName) prog_11_method_10_code (1 : Nat) (Option.some Jvm.ClassFile.FieldType.int)) ∈ zALL := zin 554 (by decide +kernel) (by decide +kernel)
theorem zw555 : (Jvm.Cond.methodLink "SaltFarm$Tokens" (29 : Nat) ({ cls := "SaltFarm$Tokens", name := "add", desc := "(II)V" } : Jvm.MethodName)) ∈ zALL := zin 555 (by decide +kernel) (by decide +kernel)
theorem zw557 : (Jvm.Cond.instanceMethod ({ cls := "SaltFarm$Tokens", name := "add", desc := "(II)V" } : Jvm.MethodName)) ∈ zALL := zin 557 (by decide +kernel) (by decide +kernel)
theorem zw558 : (Jvm.Cond.code ({ cls := "SaltFarm$Tokens", name := "add", desc := "(II)V" } : Jvm.MethodName) prog_11_method_3_code (3 : Nat) (Option.none : Option Jvm.ClassFile.FieldType)) ∈ zALL := zin 558 (by decide +kernel) (by decide +kernel)
theorem zw559 : (Jvm.Cond.methodLink "SaltFarm$Parser" (42 : Nat) ({ cls := "SaltFarm$Parser", name := "readsLine", desc := "(I)Z" } : Jvm.MethodName)) ∈ zALL := zin 559 (by decide +kernel) (by decide +kernel)
theorem zw561 : (Jvm.Cond.instanceMethod ({ cls := "SaltFarm$Parser", name := "readsLine", desc := "(I)Z" } : Jvm.MethodName)) ∈ zALL := zin 561 (by decide +kernel) (by decide +kernel)
theorem zw562 : (Jvm.Cond.code ({ cls := "SaltFarm$Parser", name := "readsLine", desc := "(I)Z" } : Jvm.MethodName) prog_6_method_4_code (3 : Nat) (Option.some Jvm.ClassFile.FieldType.boolean)) ∈ zALL := zin 562 (by decide +kernel) (by decide +kernel)
theorem zw563 : (Jvm.Cond.methodLink "SaltFarm$Parser" (46 : Nat) ({ cls := "SaltFarm$Parser", name := "token", desc := "()I" } : Jvm.MethodName)) ∈ zALL := zin 563 (by decide +kernel) (by decide +kernel)
theorem zw565 : (Jvm.Cond.instanceMethod ({ cls := "SaltFarm$Parser", name := "token", desc := "()I" } : Jvm.MethodName)) ∈ zALL := zin 565 (by decide +kernel) (by decide +kernel)
theorem zw566 : (Jvm.Cond.code ({ cls := "SaltFarm$Parser", name := "token", desc := "()I" } : Jvm.MethodName) prog_6_method_11_code (1 : Nat) (Option.some Jvm.ClassFile.FieldType.int)) ∈ zALL := zin 566 (by decide +kernel) (by decide +kernel)
theorem zw567 : (Jvm.Cond.methodLink "SaltFarm$Parser" (50 : Nat) ({ cls := "SaltFarm$Parser", name := "fail", desc := "(I)Z" } : Jvm.MethodName)) ∈ zALL := zin 567 (by decide +kernel) (by decide +kernel)
theorem zw569 : (Jvm.Cond.instanceMethod ({ cls := "SaltFarm$Parser", name := "fail", desc := "(I)Z" } : Jvm.MethodName)) ∈ zALL := zin 569 (by decide +kernel) (by decide +kernel)
theorem zw570 : (Jvm.Cond.code ({ cls := "SaltFarm$Parser", name := "fail", desc := "(I)Z" } : Jvm.MethodName) prog_6_method_12_code (2 : Nat) (Option.some Jvm.ClassFile.FieldType.boolean)) ∈ zALL := zin 570 (by decide +kernel) (by decide +kernel)
theorem zw571 : (Jvm.Cond.methodLink "SaltFarm$Parser" (59 : Nat) ({ cls := "SaltFarm$Parser", name := "write", desc := "(I)V" } : Jvm.MethodName)) ∈ zALL := zin 571 (by decide +kernel) (by decide +kernel)
theorem zw573 : (Jvm.Cond.instanceMethod ({ cls := "SaltFarm$Parser", name := "write", desc := "(I)V" } : Jvm.MethodName)) ∈ zALL := zin 573 (by decide +kernel) (by decide +kernel)
theorem zw574 : (Jvm.Cond.code ({ cls := "SaltFarm$Parser", name := "write", desc := "(I)V" } : Jvm.MethodName) prog_6_method_13_code (2 : Nat) (Option.none : Option Jvm.ClassFile.FieldType)) ∈ zALL := zin 574 (by decide +kernel) (by decide +kernel)
theorem zw575 : (Jvm.Cond.methodLink "SaltFarm$Parser" (63 : Nat) ({ cls := "SaltFarm$Parser", name := "readsTests", desc := "()Z" } : Jvm.MethodName)) ∈ zALL := zin 575 (by decide +kernel) (by decide +kernel)
theorem zw577 : (Jvm.Cond.instanceMethod ({ cls := "SaltFarm$Parser", name := "readsTests", desc := "()Z" } : Jvm.MethodName)) ∈ zALL := zin 577 (by decide +kernel) (by decide +kernel)
theorem zw578 : (Jvm.Cond.code ({ cls := "SaltFarm$Parser", name := "readsTests", desc := "()Z" } : Jvm.MethodName) prog_6_method_5_code (4 : Nat) (Option.some Jvm.ClassFile.FieldType.boolean)) ∈ zALL := zin 578 (by decide +kernel) (by decide +kernel)
theorem zw579 : (Jvm.Cond.methodLink "SaltFarm$Parser" (70 : Nat) ({ cls := "SaltFarm$Parser", name := "faultAsOne", desc := "(I)I" } : Jvm.MethodName)) ∈ zALL := zin 579 (by decide +kernel) (by decide +kernel)
theorem zw580 : (Jvm.Cond.static ({ cls := "SaltFarm$Parser", name := "faultAsOne", desc := "(I)I" } : Jvm.MethodName)) ∈ zALL := zin 580 (by decide +kernel) (by decide +kernel)
theorem zw581 : (Jvm.Cond.code ({ cls := "SaltFarm$Parser", name := "faultAsOne", desc := "(I)I" } : Jvm.MethodName) prog_6_method_10_code (2 : Nat) (Option.some Jvm.ClassFile.FieldType.int)) ∈ zALL := zin 581 (by decide +kernel) (by decide +kernel)
theorem zw582 : (Jvm.Cond.methodLink "SaltFarm$Parser" (67 : Nat) ({ cls := "SaltFarm$Parser", name := "readsSum", desc := "(I)Z" } : Jvm.MethodName)) ∈ zALL := zin 582 (by decide +kernel) (by decide +kernel)
theorem zw584 : (Jvm.Cond.instanceMethod ({ cls := "SaltFarm$Parser", name := "readsSum", desc := "(I)Z" } : Jvm.MethodName)) ∈ zALL := zin 584 (by decide +kernel) (by decide +kernel)
theorem zw585 : (Jvm.Cond.code ({ cls := "SaltFarm$Parser", name := "readsSum", desc := "(I)Z" } : Jvm.MethodName) prog_6_method_6_code (4 : Nat) (Option.some Jvm.ClassFile.FieldType.boolean)) ∈ zALL := zin 585 (by decide +kernel) (by decide +kernel)
theorem zw586 : (Jvm.Cond.methodLink "SaltFarm$Parser" (74 : Nat) ({ cls := "SaltFarm$Parser", name := "readsTerm", desc := "(I)Z" } : Jvm.MethodName)) ∈ zALL := zin 586 (by decide +kernel) (by decide +kernel)
theorem zw588 : (Jvm.Cond.instanceMethod ({ cls := "SaltFarm$Parser", name := "readsTerm", desc := "(I)Z" } : Jvm.MethodName)) ∈ zALL := zin 588 (by decide +kernel) (by decide +kernel)
theorem zw589 : (Jvm.Cond.code ({ cls := "SaltFarm$Parser", name := "readsTerm", desc := "(I)Z" } : Jvm.MethodName) prog_6_method_7_code (4 : Nat) (Option.some Jvm.ClassFile.FieldType.boolean)) ∈ zALL := zin 589 (by decide +kernel) (by decide +kernel)
theorem zw590 : (Jvm.Cond.methodLink "SaltFarm$Parser" (80 : Nat) ({ cls := "SaltFarm$Parser", name := "readsOne", desc := "(I)Z" } : Jvm.MethodName)) ∈ zALL := zin 590 (by decide +kernel) (by decide +kernel)
theorem zw592 : (Jvm.Cond.instanceMethod ({ cls := "SaltFarm$Parser", name := "readsOne", desc := "(I)Z" } : Jvm.MethodName)) ∈ zALL := zin 592 (by decide +kernel) (by decide +kernel)
theorem zw593 : (Jvm.Cond.code ({ cls := "SaltFarm$Parser", name := "readsOne", desc := "(I)Z" } : Jvm.MethodName) prog_6_method_8_code (4 : Nat) (Option.some Jvm.ClassFile.FieldType.boolean)) ∈ zALL := zin 593 (by decide +kernel) (by decide +kernel)
theorem zw594 : (Jvm.Cond.methodLink "SaltFarm$Parser" (77 : Nat) ({ cls := "SaltFarm$Parser", name := "passesSign", desc := "()Z" } : Jvm.MethodName)) ∈ zALL := zin 594 (by decide +kernel) (by decide +kernel)
theorem zw596 : (Jvm.Cond.instanceMethod ({ cls := "SaltFarm$Parser", name := "passesSign", desc := "()Z" } : Jvm.MethodName)) ∈ zALL := zin 596 (by decide +kernel) (by decide +kernel)
theorem zw597 : (Jvm.Cond.code ({ cls := "SaltFarm$Parser", name := "passesSign", desc := "()Z" } : Jvm.MethodName) prog_6_method_9_code (1 : Nat) (Option.some Jvm.ClassFile.FieldType.boolean)) ∈ zALL := zin 597 (by decide +kernel) (by decide +kernel)
theorem zw598 : (Jvm.Cond.methodLink "SaltFarm" (160 : Nat) ({ cls := "SaltFarm$Law", name := "isFull", desc := "()Z" } : Jvm.MethodName)) ∈ zALL := zin 598 (by decide +kernel) (by decide +kernel)
theorem zw599 : (Jvm.Cond.instanceMethod ({ cls := "SaltFarm$Law", name := "isFull", desc := "()Z" } : Jvm.MethodName)) ∈ zALL := zin 599 (by decide +kernel) (by decide +kernel)
theorem zw600 : (Jvm.Cond.selects "SaltFarm$Law" ({ cls := "SaltFarm$Law", name := "isFull", desc := "()Z" } : Jvm.MethodName) ({ cls := "SaltFarm$Law", name := "isFull", desc := "()Z" } : Jvm.MethodName)) ∈ zALL := zin 600 (by decide +kernel) (by decide +kernel)
theorem zw601 : (Jvm.Cond.code ({ cls := "SaltFarm$Law", name := "isFull", desc := "()Z" } : Jvm.MethodName) prog_4_method_2_code (1 : Nat) (Option.some Jvm.ClassFile.FieldType.boolean)) ∈ zALL := zin 601 (by decide +kernel) (by decide +kernel)
theorem zw602 : (Jvm.Cond.classLink "SaltFarm" (163 : Nat) "SaltFarm$Edict") ∈ zALL := zin 602 (by decide +kernel) (by decide +kernel)
theorem zw603 : (Jvm.Cond.instantiable "SaltFarm$Edict" (3 : Nat)) ∈ zALL := zin 603 (by decide +kernel) (by decide +kernel)
theorem zw604 : (Jvm.Cond.methodLink "SaltFarm" (165 : Nat) ({ cls := "SaltFarm$Parser", name := "copyOfCode", desc := "()[I" } : Jvm.MethodName)) ∈ zALL := zin 604 (by decide +kernel) (by decide +kernel)
theorem zw605 : (Jvm.Cond.instanceMethod ({ cls := "SaltFarm$Parser", name := "copyOfCode", desc := "()[I" } : Jvm.MethodName)) ∈ zALL := zin 605 (by decide +kernel) (by decide +kernel)
theorem zw606 : (Jvm.Cond.selects "SaltFarm$Parser" ({ cls := "SaltFarm$Parser", name := "copyOfCode", desc := "()[I" } : Jvm.MethodName) ({ cls := "SaltFarm$Parser", name := "copyOfCode", desc := "()[I" } : Jvm.MethodName)) ∈ zALL := zin 606 (by decide +kernel) (by decide +kernel)
theorem zw607 : (Jvm.Cond.code ({ cls := "SaltFarm$Parser", name := "copyOfCode", desc := "()[I" } : Jvm.MethodName) prog_6_method_3_code (2 : Nat) (Option.some (Jvm.ClassFile.FieldType.array Jvm.ClassFile.FieldType.int))) ∈ zALL := zin 607 (by decide +kernel) (by decide +kernel)
theorem zw608 : (Jvm.Cond.methodLink "SaltFarm$Parser" (53 : Nat) ({ cls := "java/lang/System", name := "arraycopy", desc := "(Ljava/lang/Object;ILjava/lang/Object;II)V" } : Jvm.MethodName)) ∈ zALL := zin 608 (by decide +kernel) (by decide +kernel)
theorem zw609 : (Jvm.Cond.static ({ cls := "java/lang/System", name := "arraycopy", desc := "(Ljava/lang/Object;ILjava/lang/Object;II)V" } : Jvm.MethodName)) ∈ zALL := zin 609 (by decide +kernel) (by decide +kernel)
theorem zw610 : (Jvm.Cond.native ({ cls := "java/lang/System", name := "arraycopy", desc := "(Ljava/lang/Object;ILjava/lang/Object;II)V" } : Jvm.MethodName)) ∈ zALL := zin 610 (by decide +kernel) (by decide +kernel)
theorem zw611 : (Jvm.Cond.methodLink "SaltFarm" (169 : Nat) ({ cls := "SaltFarm$Edict", name := "<init>", desc := "(II[I)V" } : Jvm.MethodName)) ∈ zALL := zin 611 (by decide +kernel) (by decide +kernel)
theorem zw612 : (Jvm.Cond.instanceMethod ({ cls := "SaltFarm$Edict", name := "<init>", desc := "(II[I)V" } : Jvm.MethodName)) ∈ zALL := zin 612 (by decide +kernel) (by decide +kernel)
theorem zw613 : (Jvm.Cond.code ({ cls := "SaltFarm$Edict", name := "<init>", desc := "(II[I)V" } : Jvm.MethodName) prog_3_method_1_code (4 : Nat) (Option.none : Option Jvm.ClassFile.FieldType)) ∈ zALL := zin 613 (by decide +kernel) (by decide +kernel)
theorem zw614 : (Jvm.Cond.methodLink "SaltFarm$Edict" (1 : Nat) ({ cls := "java/lang/Object", name := "<init>", desc := "()V" } : Jvm.MethodName)) ∈ zALL := zin 614 (by decide +kernel) (by decide +kernel)
theorem zw615 : (Jvm.Cond.fieldLink "SaltFarm$Edict" (7 : Nat) "SaltFarm$Edict" "province" "I") ∈ zALL := zin 615 (by decide +kernel) (by decide +kernel)
theorem zw616 : (Jvm.Cond.fieldLink "SaltFarm$Law" (32 : Nat) "SaltFarm$Edict" "province" "I") ∈ zALL := zin 616 (by decide +kernel) (by decide +kernel)
theorem zw617 : (Jvm.Cond.fieldLink "SaltFarm$Edict" (13 : Nat) "SaltFarm$Edict" "year" "I") ∈ zALL := zin 617 (by decide +kernel) (by decide +kernel)
theorem zw618 : (Jvm.Cond.fieldLink "SaltFarm$Law" (35 : Nat) "SaltFarm$Edict" "year" "I") ∈ zALL := zin 618 (by decide +kernel) (by decide +kernel)
theorem zw619 : (Jvm.Cond.fieldLink "SaltFarm$Edict" (16 : Nat) "SaltFarm$Edict" "code" "[I") ∈ zALL := zin 619 (by decide +kernel) (by decide +kernel)
theorem zw620 : (Jvm.Cond.fieldLink "SaltFarm$Law" (58 : Nat) "SaltFarm$Edict" "code" "[I") ∈ zALL := zin 620 (by decide +kernel) (by decide +kernel)
theorem zw628 : (Jvm.Cond.methodLink "SaltFarm" (172 : Nat) ({ cls := "SaltFarm$Law", name := "add", desc := "(LSaltFarm$Edict;)I" } : Jvm.MethodName)) ∈ zALL := zin 628 (by decide +kernel) (by decide +kernel)
theorem zw629 : (Jvm.Cond.instanceMethod ({ cls := "SaltFarm$Law", name := "add", desc := "(LSaltFarm$Edict;)I" } : Jvm.MethodName)) ∈ zALL := zin 629 (by decide +kernel) (by decide +kernel)
theorem zw630 : (Jvm.Cond.selects "SaltFarm$Law" ({ cls := "SaltFarm$Law", name := "add", desc := "(LSaltFarm$Edict;)I" } : Jvm.MethodName) ({ cls := "SaltFarm$Law", name := "add", desc := "(LSaltFarm$Edict;)I" } : Jvm.MethodName)) ∈ zALL := zin 630 (by decide +kernel) (by decide +kernel)
theorem zw631 : (Jvm.Cond.code ({ cls := "SaltFarm$Law", name := "add", desc := "(LSaltFarm$Edict;)I" } : Jvm.MethodName) prog_4_method_3_code (2 : Nat) (Option.some Jvm.ClassFile.FieldType.int)) ∈ zALL := zin 631 (by decide +kernel) (by decide +kernel)
theorem zw632 : (Jvm.Cond.methodLink "SaltFarm$Law" (28 : Nat) ({ cls := "SaltFarm$Law", name := "isFull", desc := "()Z" } : Jvm.MethodName)) ∈ zALL := zin 632 (by decide +kernel) (by decide +kernel)
theorem zw633 : (Jvm.Cond.methodLink "SaltFarmLaw" (47 : Nat) ({ cls := "SaltFarm", name := "fault", desc := "()I" } : Jvm.MethodName)) ∈ zALL := zin 633 (by decide +kernel) (by decide +kernel)
theorem zw634 : (Jvm.Cond.instanceMethod ({ cls := "SaltFarm", name := "fault", desc := "()I" } : Jvm.MethodName)) ∈ zALL := zin 634 (by decide +kernel) (by decide +kernel)
theorem zw635 : (Jvm.Cond.selects "SaltFarm" ({ cls := "SaltFarm", name := "fault", desc := "()I" } : Jvm.MethodName) ({ cls := "SaltFarm", name := "fault", desc := "()I" } : Jvm.MethodName)) ∈ zALL := zin 635 (by decide +kernel) (by decide +kernel)
theorem zw636 : (Jvm.Cond.code ({ cls := "SaltFarm", name := "fault", desc := "()I" } : Jvm.MethodName) prog_1_method_9_code (1 : Nat) (Option.some Jvm.ClassFile.FieldType.int)) ∈ zALL := zin 636 (by decide +kernel) (by decide +kernel)
theorem zw637 : (Jvm.Cond.methodLink "SaltFarmLaw" (52 : Nat) ({ cls := "SaltFarm", name := "where", desc := "()I" } : Jvm.MethodName)) ∈ zALL := zin 637 (by decide +kernel) (by decide +kernel)
theorem zw638 : (Jvm.Cond.instanceMethod ({ cls := "SaltFarm", name := "where", desc := "()I" } : Jvm.MethodName)) ∈ zALL := zin 638 (by decide +kernel) (by decide +kernel)
theorem zw639 : (Jvm.Cond.selects "SaltFarm" ({ cls := "SaltFarm", name := "where", desc := "()I" } : Jvm.MethodName) ({ cls := "SaltFarm", name := "where", desc := "()I" } : Jvm.MethodName)) ∈ zALL := zin 639 (by decide +kernel) (by decide +kernel)
theorem zw640 : (Jvm.Cond.code ({ cls := "SaltFarm", name := "where", desc := "()I" } : Jvm.MethodName) prog_1_method_10_code (1 : Nat) (Option.some Jvm.ClassFile.FieldType.int)) ∈ zALL := zin 640 (by decide +kernel) (by decide +kernel)
theorem zw641 : (Jvm.Cond.methodLink "SaltFarmLaw" (56 : Nat) ({ cls := "SaltFarm", name := "force", desc := "(II)I" } : Jvm.MethodName)) ∈ zALL := zin 641 (by decide +kernel) (by decide +kernel)
theorem zw642 : (Jvm.Cond.instanceMethod ({ cls := "SaltFarm", name := "force", desc := "(II)I" } : Jvm.MethodName)) ∈ zALL := zin 642 (by decide +kernel) (by decide +kernel)
theorem zw643 : (Jvm.Cond.selects "SaltFarm" ({ cls := "SaltFarm", name := "force", desc := "(II)I" } : Jvm.MethodName) ({ cls := "SaltFarm", name := "force", desc := "(II)I" } : Jvm.MethodName)) ∈ zALL := zin 643 (by decide +kernel) (by decide +kernel)
theorem zw644 : (Jvm.Cond.code ({ cls := "SaltFarm", name := "force", desc := "(II)I" } : Jvm.MethodName) prog_1_method_11_code (3 : Nat) (Option.some Jvm.ClassFile.FieldType.int)) ∈ zALL := zin 644 (by decide +kernel) (by decide +kernel)
theorem zw645 : (Jvm.Cond.methodLink "SaltFarm" (176 : Nat) ({ cls := "SaltFarm$Law", name := "numberInForce", desc := "(II)I" } : Jvm.MethodName)) ∈ zALL := zin 645 (by decide +kernel) (by decide +kernel)
theorem zw646 : (Jvm.Cond.instanceMethod ({ cls := "SaltFarm$Law", name := "numberInForce", desc := "(II)I" } : Jvm.MethodName)) ∈ zALL := zin 646 (by decide +kernel) (by decide +kernel)
theorem zw647 : (Jvm.Cond.selects "SaltFarm$Law" ({ cls := "SaltFarm$Law", name := "numberInForce", desc := "(II)I" } : Jvm.MethodName) ({ cls := "SaltFarm$Law", name := "numberInForce", desc := "(II)I" } : Jvm.MethodName)) ∈ zALL := zin 647 (by decide +kernel) (by decide +kernel)
theorem zw648 : (Jvm.Cond.code ({ cls := "SaltFarm$Law", name := "numberInForce", desc := "(II)I" } : Jvm.MethodName) prog_4_method_4_code (7 : Nat) (Option.some Jvm.ClassFile.FieldType.int)) ∈ zALL := zin 648 (by decide +kernel) (by decide +kernel)
theorem zw649 : (Jvm.Cond.methodLink "SaltFarmLaw" (60 : Nat) ({ cls := "SaltFarm", name := "price", desc := "(IIZ)I" } : Jvm.MethodName)) ∈ zALL := zin 649 (by decide +kernel) (by decide +kernel)
theorem zw650 : (Jvm.Cond.instanceMethod ({ cls := "SaltFarm", name := "price", desc := "(IIZ)I" } : Jvm.MethodName)) ∈ zALL := zin 650 (by decide +kernel) (by decide +kernel)
theorem zw651 : (Jvm.Cond.selects "SaltFarm" ({ cls := "SaltFarm", name := "price", desc := "(IIZ)I" } : Jvm.MethodName) ({ cls := "SaltFarm", name := "price", desc := "(IIZ)I" } : Jvm.MethodName)) ∈ zALL := zin 651 (by decide +kernel) (by decide +kernel)
theorem zw652 : (Jvm.Cond.code ({ cls := "SaltFarm", name := "price", desc := "(IIZ)I" } : Jvm.MethodName) prog_1_method_12_code (5 : Nat) (Option.some Jvm.ClassFile.FieldType.int)) ∈ zALL := zin 652 (by decide +kernel) (by decide +kernel)
theorem zw653 : (Jvm.Cond.methodLink "SaltFarm" (180 : Nat) ({ cls := "SaltFarm$Law", name := "learn", desc := "(LSaltFarm$Province;II)V" } : Jvm.MethodName)) ∈ zALL := zin 653 (by decide +kernel) (by decide +kernel)
theorem zw654 : (Jvm.Cond.instanceMethod ({ cls := "SaltFarm$Law", name := "learn", desc := "(LSaltFarm$Province;II)V" } : Jvm.MethodName)) ∈ zALL := zin 654 (by decide +kernel) (by decide +kernel)
theorem zw655 : (Jvm.Cond.selects "SaltFarm$Law" ({ cls := "SaltFarm$Law", name := "learn", desc := "(LSaltFarm$Province;II)V" } : Jvm.MethodName) ({ cls := "SaltFarm$Law", name := "learn", desc := "(LSaltFarm$Province;II)V" } : Jvm.MethodName)) ∈ zALL := zin 655 (by decide +kernel) (by decide +kernel)
theorem zw656 : (Jvm.Cond.code ({ cls := "SaltFarm$Law", name := "learn", desc := "(LSaltFarm$Province;II)V" } : Jvm.MethodName) prog_4_method_5_code (5 : Nat) (Option.none : Option Jvm.ClassFile.FieldType)) ∈ zALL := zin 656 (by decide +kernel) (by decide +kernel)
theorem zw657 : (Jvm.Cond.methodLink "SaltFarm$Law" (43 : Nat) ({ cls := "SaltFarm$Law", name := "learnYear", desc := "(LSaltFarm$Province;II)V" } : Jvm.MethodName)) ∈ zALL := zin 657 (by decide +kernel) (by decide +kernel)
theorem zw659 : (Jvm.Cond.instanceMethod ({ cls := "SaltFarm$Law", name := "learnYear", desc := "(LSaltFarm$Province;II)V" } : Jvm.MethodName)) ∈ zALL := zin 659 (by decide +kernel) (by decide +kernel)
theorem zw660 : (Jvm.Cond.code ({ cls := "SaltFarm$Law", name := "learnYear", desc := "(LSaltFarm$Province;II)V" } : Jvm.MethodName) prog_4_method_6_code (6 : Nat) (Option.none : Option Jvm.ClassFile.FieldType)) ∈ zALL := zin 660 (by decide +kernel) (by decide +kernel)
theorem zw661 : (Jvm.Cond.methodLink "SaltFarm$Law" (47 : Nat) ({ cls := "SaltFarm$Law", name := "numberInForce", desc := "(II)I" } : Jvm.MethodName)) ∈ zALL := zin 661 (by decide +kernel) (by decide +kernel)
theorem zw662 : (Jvm.Cond.methodLink "SaltFarm$Law" (75 : Nat) ({ cls := "SaltFarm$Reckoner", name := "tell", desc := "([II)I" } : Jvm.MethodName)) ∈ zALL := zin 662 (by decide +kernel) (by decide +kernel)
theorem zw663 : (Jvm.Cond.instanceMethod ({ cls := "SaltFarm$Reckoner", name := "tell", desc := "([II)I" } : Jvm.MethodName)) ∈ zALL := zin 663 (by decide +kernel) (by decide +kernel)
theorem zw664 : (Jvm.Cond.selects "SaltFarm$Reckoner" ({ cls := "SaltFarm$Reckoner", name := "tell", desc := "([II)I" } : Jvm.MethodName) ({ cls := "SaltFarm$Reckoner", name := "tell", desc := "([II)I" } : Jvm.MethodName)) ∈ zALL := zin 664 (by decide +kernel) (by decide +kernel)
theorem zw665 : (Jvm.Cond.code ({ cls := "SaltFarm$Reckoner", name := "tell", desc := "([II)I" } : Jvm.MethodName) prog_8_method_2_code (6 : Nat) (Option.some Jvm.ClassFile.FieldType.int)) ∈ zALL := zin 665 (by decide +kernel) (by decide +kernel)
theorem zw666 : (Jvm.Cond.methodLink "SaltFarm$Reckoner" (33 : Nat) ({ cls := "SaltFarm$Reckoner", name := "pop", desc := "()I" } : Jvm.MethodName)) ∈ zALL := zin 666 (by decide +kernel) (by decide +kernel)
theorem zw668 : (Jvm.Cond.instanceMethod ({ cls := "SaltFarm$Reckoner", name := "pop", desc := "()I" } : Jvm.MethodName)) ∈ zALL := zin 668 (by decide +kernel) (by decide +kernel)
theorem zw669 : (Jvm.Cond.code ({ cls := "SaltFarm$Reckoner", name := "pop", desc := "()I" } : Jvm.MethodName) prog_8_method_8_code (1 : Nat) (Option.some Jvm.ClassFile.FieldType.int)) ∈ zALL := zin 669 (by decide +kernel) (by decide +kernel)
theorem zw670 : (Jvm.Cond.methodLink "SaltFarm$Reckoner" (37 : Nat) ({ cls := "SaltFarm$Reckoner", name := "step", desc := "(I)Z" } : Jvm.MethodName)) ∈ zALL := zin 670 (by decide +kernel) (by decide +kernel)
theorem zw672 : (Jvm.Cond.instanceMethod ({ cls := "SaltFarm$Reckoner", name := "step", desc := "(I)Z" } : Jvm.MethodName)) ∈ zALL := zin 672 (by decide +kernel) (by decide +kernel)
theorem zw673 : (Jvm.Cond.code ({ cls := "SaltFarm$Reckoner", name := "step", desc := "(I)Z" } : Jvm.MethodName) prog_8_method_3_code (4 : Nat) (Option.some Jvm.ClassFile.FieldType.boolean)) ∈ zALL := zin 673 (by decide +kernel) (by decide +kernel)
theorem zw674 : (Jvm.Cond.methodLink "SaltFarm$Reckoner" (41 : Nat) ({ cls := "SaltFarm$Reckoner", name := "push", desc := "(I)V" } : Jvm.MethodName)) ∈ zALL := zin 674 (by decide +kernel) (by decide +kernel)
theorem zw676 : (Jvm.Cond.instanceMethod ({ cls := "SaltFarm$Reckoner", name := "push", desc := "(I)V" } : Jvm.MethodName)) ∈ zALL := zin 676 (by decide +kernel) (by decide +kernel)
theorem zw677 : (Jvm.Cond.code ({ cls := "SaltFarm$Reckoner", name := "push", desc := "(I)V" } : Jvm.MethodName) prog_8_method_7_code (2 : Nat) (Option.none : Option Jvm.ClassFile.FieldType)) ∈ zALL := zin 677 (by decide +kernel) (by decide +kernel)
theorem zw678 : (Jvm.Cond.methodLink "SaltFarm$Reckoner" (45 : Nat) ({ cls := "SaltFarm$Reckoner", name := "named", desc := "(I)I" } : Jvm.MethodName)) ∈ zALL := zin 678 (by decide +kernel) (by decide +kernel)
theorem zw680 : (Jvm.Cond.instanceMethod ({ cls := "SaltFarm$Reckoner", name := "named", desc := "(I)I" } : Jvm.MethodName)) ∈ zALL := zin 680 (by decide +kernel) (by decide +kernel)
theorem zw681 : (Jvm.Cond.code ({ cls := "SaltFarm$Reckoner", name := "named", desc := "(I)I" } : Jvm.MethodName) prog_8_method_4_code (2 : Nat) (Option.some Jvm.ClassFile.FieldType.int)) ∈ zALL := zin 681 (by decide +kernel) (by decide +kernel)
theorem zw682 : (Jvm.Cond.methodLink "SaltFarm$Reckoner" (49 : Nat) ({ cls := "SaltFarm$Reckoner", name := "compares", desc := "(III)Z" } : Jvm.MethodName)) ∈ zALL := zin 682 (by decide +kernel) (by decide +kernel)
theorem zw683 : (Jvm.Cond.static ({ cls := "SaltFarm$Reckoner", name := "compares", desc := "(III)Z" } : Jvm.MethodName)) ∈ zALL := zin 683 (by decide +kernel) (by decide +kernel)
theorem zw684 : (Jvm.Cond.code ({ cls := "SaltFarm$Reckoner", name := "compares", desc := "(III)Z" } : Jvm.MethodName) prog_8_method_5_code (3 : Nat) (Option.some Jvm.ClassFile.FieldType.boolean)) ∈ zALL := zin 684 (by decide +kernel) (by decide +kernel)
theorem zw685 : (Jvm.Cond.methodLink "SaltFarm$Reckoner" (53 : Nat) ({ cls := "SaltFarm$Reckoner", name := "joined", desc := "(IJJ)J" } : Jvm.MethodName)) ∈ zALL := zin 685 (by decide +kernel) (by decide +kernel)
theorem zw686 : (Jvm.Cond.static ({ cls := "SaltFarm$Reckoner", name := "joined", desc := "(IJJ)J" } : Jvm.MethodName)) ∈ zALL := zin 686 (by decide +kernel) (by decide +kernel)
theorem zw687 : (Jvm.Cond.code ({ cls := "SaltFarm$Reckoner", name := "joined", desc := "(IJJ)J" } : Jvm.MethodName) prog_8_method_6_code (5 : Nat) (Option.some Jvm.ClassFile.FieldType.long)) ∈ zALL := zin 687 (by decide +kernel) (by decide +kernel)
theorem zw688 : (Jvm.Cond.constant "SaltFarm$Reckoner" (57 : Nat) (-1000000 : Int32)) ∈ zALL := zin 688 (by decide +kernel) (by decide +kernel)
theorem zw689 : (Jvm.Cond.constant "SaltFarm$Reckoner" (58 : Nat) (1000000 : Int32)) ∈ zALL := zin 689 (by decide +kernel) (by decide +kernel)
theorem zw690 : (Jvm.Cond.methodLinkNest "SaltFarm$Reckoner" (59 : Nat) ({ cls := "SaltFarm", name := "bound", desc := "(JII)I" } : Jvm.MethodName) "SaltFarm") ∈ zNest := zinN 690 (by decide +kernel) (by decide +kernel)
theorem zw691 : (Jvm.Cond.static ({ cls := "SaltFarm", name := "bound", desc := "(JII)I" } : Jvm.MethodName)) ∈ zALL := zin 691 (by decide +kernel) (by decide +kernel)
theorem zw692 : (Jvm.Cond.code ({ cls := "SaltFarm", name := "bound", desc := "(JII)I" } : Jvm.MethodName) prog_1_method_43_code (4 : Nat) (Option.some Jvm.ClassFile.FieldType.int)) ∈ zALL := zin 692 (by decide +kernel) (by decide +kernel)
theorem zw693 : (Jvm.Cond.methodLink "SaltFarm" (296 : Nat) ({ cls := "java/lang/Math", name := "min", desc := "(JJ)J" } : Jvm.MethodName)) ∈ zALL := zin 693 (by decide +kernel) (by decide +kernel)
theorem zw694 : (Jvm.Cond.static ({ cls := "java/lang/Math", name := "min", desc := "(JJ)J" } : Jvm.MethodName)) ∈ zALL := zin 694 (by decide +kernel) (by decide +kernel)
theorem zw695 : (Jvm.Cond.code ({ cls := "java/lang/Math", name := "min", desc := "(JJ)J" } : Jvm.MethodName) prog_18_method_70_code (4 : Nat) (Option.some Jvm.ClassFile.FieldType.long)) ∈ zALL := zin 695 (by decide +kernel) (by decide +kernel)
theorem zw696 : (Jvm.Cond.methodLink "SaltFarm" (302 : Nat) ({ cls := "java/lang/Math", name := "max", desc := "(JJ)J" } : Jvm.MethodName)) ∈ zALL := zin 696 (by decide +kernel) (by decide +kernel)
theorem zw697 : (Jvm.Cond.static ({ cls := "java/lang/Math", name := "max", desc := "(JJ)J" } : Jvm.MethodName)) ∈ zALL := zin 697 (by decide +kernel) (by decide +kernel)
theorem zw698 : (Jvm.Cond.code ({ cls := "java/lang/Math", name := "max", desc := "(JJ)J" } : Jvm.MethodName) prog_18_method_66_code (4 : Nat) (Option.some Jvm.ClassFile.FieldType.long)) ∈ zALL := zin 698 (by decide +kernel) (by decide +kernel)
theorem zw699 : (Jvm.Cond.methodLinkNest "SaltFarm$Law" (79 : Nat) ({ cls := "SaltFarm", name := "bound", desc := "(JII)I" } : Jvm.MethodName) "SaltFarm") ∈ zNest := zinN 699 (by decide +kernel) (by decide +kernel)
theorem zw700 : (Jvm.Cond.methodLink "SaltFarmLaw" (65 : Nat) ({ cls := "SaltFarm", name := "brought", desc := "(II)I" } : Jvm.MethodName)) ∈ zALL := zin 700 (by decide +kernel) (by decide +kernel)
theorem zw701 : (Jvm.Cond.instanceMethod ({ cls := "SaltFarm", name := "brought", desc := "(II)I" } : Jvm.MethodName)) ∈ zALL := zin 701 (by decide +kernel) (by decide +kernel)
theorem zw702 : (Jvm.Cond.selects "SaltFarm" ({ cls := "SaltFarm", name := "brought", desc := "(II)I" } : Jvm.MethodName) ({ cls := "SaltFarm", name := "brought", desc := "(II)I" } : Jvm.MethodName)) ∈ zALL := zin 702 (by decide +kernel) (by decide +kernel)
theorem zw703 : (Jvm.Cond.code ({ cls := "SaltFarm", name := "brought", desc := "(II)I" } : Jvm.MethodName) prog_1_method_13_code (3 : Nat) (Option.some Jvm.ClassFile.FieldType.int)) ∈ zALL := zin 703 (by decide +kernel) (by decide +kernel)
theorem zw704 : (Jvm.Cond.methodLink "SaltFarm" (191 : Nat) ({ cls := "SaltFarm", name := "survey", desc := "()V" } : Jvm.MethodName)) ∈ zALL := zin 704 (by decide +kernel) (by decide +kernel)
theorem zw706 : (Jvm.Cond.instanceMethod ({ cls := "SaltFarm", name := "survey", desc := "()V" } : Jvm.MethodName)) ∈ zALL := zin 706 (by decide +kernel) (by decide +kernel)
theorem zw707 : (Jvm.Cond.code ({ cls := "SaltFarm", name := "survey", desc := "()V" } : Jvm.MethodName) prog_1_method_40_code (3 : Nat) (Option.none : Option Jvm.ClassFile.FieldType)) ∈ zALL := zin 707 (by decide +kernel) (by decide +kernel)
theorem zw708 : (Jvm.Cond.methodLink "SaltFarm" (288 : Nat) ({ cls := "SaltFarm$Market", name := "seat", desc := "(ILSaltFarm$Province;I)V" } : Jvm.MethodName)) ∈ zALL := zin 708 (by decide +kernel) (by decide +kernel)
theorem zw709 : (Jvm.Cond.instanceMethod ({ cls := "SaltFarm$Market", name := "seat", desc := "(ILSaltFarm$Province;I)V" } : Jvm.MethodName)) ∈ zALL := zin 709 (by decide +kernel) (by decide +kernel)
theorem zw710 : (Jvm.Cond.selects "SaltFarm$Market" ({ cls := "SaltFarm$Market", name := "seat", desc := "(ILSaltFarm$Province;I)V" } : Jvm.MethodName) ({ cls := "SaltFarm$Market", name := "seat", desc := "(ILSaltFarm$Province;I)V" } : Jvm.MethodName)) ∈ zALL := zin 710 (by decide +kernel) (by decide +kernel)
theorem zw711 : (Jvm.Cond.code ({ cls := "SaltFarm$Market", name := "seat", desc := "(ILSaltFarm$Province;I)V" } : Jvm.MethodName) prog_5_method_2_code (5 : Nat) (Option.none : Option Jvm.ClassFile.FieldType)) ∈ zALL := zin 711 (by decide +kernel) (by decide +kernel)
theorem zw712 : (Jvm.Cond.methodLink "SaltFarm" (237 : Nat) ({ cls := "SaltFarm$Market", name := "join", desc := "(IIII)V" } : Jvm.MethodName)) ∈ zALL := zin 712 (by decide +kernel) (by decide +kernel)
theorem zw713 : (Jvm.Cond.instanceMethod ({ cls := "SaltFarm$Market", name := "join", desc := "(IIII)V" } : Jvm.MethodName)) ∈ zALL := zin 713 (by decide +kernel) (by decide +kernel)
theorem zw714 : (Jvm.Cond.selects "SaltFarm$Market" ({ cls := "SaltFarm$Market", name := "join", desc := "(IIII)V" } : Jvm.MethodName) ({ cls := "SaltFarm$Market", name := "join", desc := "(IIII)V" } : Jvm.MethodName)) ∈ zALL := zin 714 (by decide +kernel) (by decide +kernel)
theorem zw715 : (Jvm.Cond.code ({ cls := "SaltFarm$Market", name := "join", desc := "(IIII)V" } : Jvm.MethodName) prog_5_method_3_code (5 : Nat) (Option.none : Option Jvm.ClassFile.FieldType)) ∈ zALL := zin 715 (by decide +kernel) (by decide +kernel)
theorem zw716 : (Jvm.Cond.methodLink "SaltFarm" (292 : Nat) ({ cls := "SaltFarm$Market", name := "settle", desc := "()V" } : Jvm.MethodName)) ∈ zALL := zin 716 (by decide +kernel) (by decide +kernel)
theorem zw717 : (Jvm.Cond.instanceMethod ({ cls := "SaltFarm$Market", name := "settle", desc := "()V" } : Jvm.MethodName)) ∈ zALL := zin 717 (by decide +kernel) (by decide +kernel)
theorem zw718 : (Jvm.Cond.selects "SaltFarm$Market" ({ cls := "SaltFarm$Market", name := "settle", desc := "()V" } : Jvm.MethodName) ({ cls := "SaltFarm$Market", name := "settle", desc := "()V" } : Jvm.MethodName)) ∈ zALL := zin 718 (by decide +kernel) (by decide +kernel)
theorem zw719 : (Jvm.Cond.code ({ cls := "SaltFarm$Market", name := "settle", desc := "()V" } : Jvm.MethodName) prog_5_method_4_code (2 : Nat) (Option.none : Option Jvm.ClassFile.FieldType)) ∈ zALL := zin 719 (by decide +kernel) (by decide +kernel)
theorem zw720 : (Jvm.Cond.methodLink "SaltFarm$Market" (62 : Nat) ({ cls := "SaltFarm$Market", name := "spread", desc := "([II)V" } : Jvm.MethodName)) ∈ zALL := zin 720 (by decide +kernel) (by decide +kernel)
theorem zw722 : (Jvm.Cond.instanceMethod ({ cls := "SaltFarm$Market", name := "spread", desc := "([II)V" } : Jvm.MethodName)) ∈ zALL := zin 722 (by decide +kernel) (by decide +kernel)
theorem zw723 : (Jvm.Cond.code ({ cls := "SaltFarm$Market", name := "spread", desc := "([II)V" } : Jvm.MethodName) prog_5_method_16_code (9 : Nat) (Option.none : Option Jvm.ClassFile.FieldType)) ∈ zALL := zin 723 (by decide +kernel) (by decide +kernel)
theorem zw724 : (Jvm.Cond.methodLink "SaltFarm" (194 : Nat) ({ cls := "SaltFarm$Market", name := "costBetween", desc := "(II)I" } : Jvm.MethodName)) ∈ zALL := zin 724 (by decide +kernel) (by decide +kernel)
theorem zw725 : (Jvm.Cond.instanceMethod ({ cls := "SaltFarm$Market", name := "costBetween", desc := "(II)I" } : Jvm.MethodName)) ∈ zALL := zin 725 (by decide +kernel) (by decide +kernel)
theorem zw726 : (Jvm.Cond.selects "SaltFarm$Market" ({ cls := "SaltFarm$Market", name := "costBetween", desc := "(II)I" } : Jvm.MethodName) ({ cls := "SaltFarm$Market", name := "costBetween", desc := "(II)I" } : Jvm.MethodName)) ∈ zALL := zin 726 (by decide +kernel) (by decide +kernel)
theorem zw727 : (Jvm.Cond.code ({ cls := "SaltFarm$Market", name := "costBetween", desc := "(II)I" } : Jvm.MethodName) prog_5_method_7_code (3 : Nat) (Option.some Jvm.ClassFile.FieldType.int)) ∈ zALL := zin 727 (by decide +kernel) (by decide +kernel)
theorem zw728 : (Jvm.Cond.methodLink "SaltFarm$Market" (70 : Nat) ({ cls := "SaltFarm$Market", name := "measureTo", desc := "(I)V" } : Jvm.MethodName)) ∈ zALL := zin 728 (by decide +kernel) (by decide +kernel)
theorem zw730 : (Jvm.Cond.instanceMethod ({ cls := "SaltFarm$Market", name := "measureTo", desc := "(I)V" } : Jvm.MethodName)) ∈ zALL := zin 730 (by decide +kernel) (by decide +kernel)
theorem zw731 : (Jvm.Cond.code ({ cls := "SaltFarm$Market", name := "measureTo", desc := "(I)V" } : Jvm.MethodName) prog_5_method_15_code (3 : Nat) (Option.none : Option Jvm.ClassFile.FieldType)) ∈ zALL := zin 731 (by decide +kernel) (by decide +kernel)
theorem zw732 : (Jvm.Cond.constant "SaltFarm$Market" (74 : Nat) (1000000 : Int32)) ∈ zALL := zin 732 (by decide +kernel) (by decide +kernel)
theorem zw733 : (Jvm.Cond.methodLink "SaltFarmLaw" (69 : Nat) ({ cls := "SaltFarm", name := "cheap", desc := "(I)I" } : Jvm.MethodName)) ∈ zALL := zin 733 (by decide +kernel) (by decide +kernel)
theorem zw734 : (Jvm.Cond.instanceMethod ({ cls := "SaltFarm", name := "cheap", desc := "(I)I" } : Jvm.MethodName)) ∈ zALL := zin 734 (by decide +kernel) (by decide +kernel)
theorem zw735 : (Jvm.Cond.selects "SaltFarm" ({ cls := "SaltFarm", name := "cheap", desc := "(I)I" } : Jvm.MethodName) ({ cls := "SaltFarm", name := "cheap", desc := "(I)I" } : Jvm.MethodName)) ∈ zALL := zin 735 (by decide +kernel) (by decide +kernel)
theorem zw736 : (Jvm.Cond.code ({ cls := "SaltFarm", name := "cheap", desc := "(I)I" } : Jvm.MethodName) prog_1_method_14_code (2 : Nat) (Option.some Jvm.ClassFile.FieldType.int)) ∈ zALL := zin 736 (by decide +kernel) (by decide +kernel)
theorem zw737 : (Jvm.Cond.methodLink "SaltFarm" (197 : Nat) ({ cls := "SaltFarm$Market", name := "leastCost", desc := "(I)I" } : Jvm.MethodName)) ∈ zALL := zin 737 (by decide +kernel) (by decide +kernel)
theorem zw738 : (Jvm.Cond.instanceMethod ({ cls := "SaltFarm$Market", name := "leastCost", desc := "(I)I" } : Jvm.MethodName)) ∈ zALL := zin 738 (by decide +kernel) (by decide +kernel)
theorem zw739 : (Jvm.Cond.selects "SaltFarm$Market" ({ cls := "SaltFarm$Market", name := "leastCost", desc := "(I)I" } : Jvm.MethodName) ({ cls := "SaltFarm$Market", name := "leastCost", desc := "(I)I" } : Jvm.MethodName)) ∈ zALL := zin 739 (by decide +kernel) (by decide +kernel)
theorem zw740 : (Jvm.Cond.code ({ cls := "SaltFarm$Market", name := "leastCost", desc := "(I)I" } : Jvm.MethodName) prog_5_method_5_code (2 : Nat) (Option.some Jvm.ClassFile.FieldType.int)) ∈ zALL := zin 740 (by decide +kernel) (by decide +kernel)
theorem zw741 : (Jvm.Cond.methodLink "SaltFarmLaw" (74 : Nat) ({ cls := "SaltFarm", name := "source", desc := "(I)I" } : Jvm.MethodName)) ∈ zALL := zin 741 (by decide +kernel) (by decide +kernel)
theorem zw742 : (Jvm.Cond.instanceMethod ({ cls := "SaltFarm", name := "source", desc := "(I)I" } : Jvm.MethodName)) ∈ zALL := zin 742 (by decide +kernel) (by decide +kernel)
theorem zw743 : (Jvm.Cond.selects "SaltFarm" ({ cls := "SaltFarm", name := "source", desc := "(I)I" } : Jvm.MethodName) ({ cls := "SaltFarm", name := "source", desc := "(I)I" } : Jvm.MethodName)) ∈ zALL := zin 743 (by decide +kernel) (by decide +kernel)
theorem zw744 : (Jvm.Cond.code ({ cls := "SaltFarm", name := "source", desc := "(I)I" } : Jvm.MethodName) prog_1_method_15_code (2 : Nat) (Option.some Jvm.ClassFile.FieldType.int)) ∈ zALL := zin 744 (by decide +kernel) (by decide +kernel)
theorem zw745 : (Jvm.Cond.methodLink "SaltFarm" (200 : Nat) ({ cls := "SaltFarm$Market", name := "sourceOf", desc := "(I)I" } : Jvm.MethodName)) ∈ zALL := zin 745 (by decide +kernel) (by decide +kernel)
theorem zw746 : (Jvm.Cond.instanceMethod ({ cls := "SaltFarm$Market", name := "sourceOf", desc := "(I)I" } : Jvm.MethodName)) ∈ zALL := zin 746 (by decide +kernel) (by decide +kernel)
theorem zw747 : (Jvm.Cond.selects "SaltFarm$Market" ({ cls := "SaltFarm$Market", name := "sourceOf", desc := "(I)I" } : Jvm.MethodName) ({ cls := "SaltFarm$Market", name := "sourceOf", desc := "(I)I" } : Jvm.MethodName)) ∈ zALL := zin 747 (by decide +kernel) (by decide +kernel)
theorem zw748 : (Jvm.Cond.code ({ cls := "SaltFarm$Market", name := "sourceOf", desc := "(I)I" } : Jvm.MethodName) prog_5_method_6_code (2 : Nat) (Option.some Jvm.ClassFile.FieldType.int)) ∈ zALL := zin 748 (by decide +kernel) (by decide +kernel)
theorem zw749 : (Jvm.Cond.methodLink "SaltFarm$Market" (66 : Nat) ({ cls := "SaltFarm$Market", name := "leastCost", desc := "(I)I" } : Jvm.MethodName)) ∈ zALL := zin 749 (by decide +kernel) (by decide +kernel)
theorem zw750 : (Jvm.Cond.methodLink "SaltFarmLaw" (78 : Nat) ({ cls := "SaltFarm", name := "taken", desc := "(I)J" } : Jvm.MethodName)) ∈ zALL := zin 750 (by decide +kernel) (by decide +kernel)
theorem zw751 : (Jvm.Cond.instanceMethod ({ cls := "SaltFarm", name := "taken", desc := "(I)J" } : Jvm.MethodName)) ∈ zALL := zin 751 (by decide +kernel) (by decide +kernel)
theorem zw752 : (Jvm.Cond.selects "SaltFarm" ({ cls := "SaltFarm", name := "taken", desc := "(I)J" } : Jvm.MethodName) ({ cls := "SaltFarm", name := "taken", desc := "(I)J" } : Jvm.MethodName)) ∈ zALL := zin 752 (by decide +kernel) (by decide +kernel)
theorem zw753 : (Jvm.Cond.code ({ cls := "SaltFarm", name := "taken", desc := "(I)J" } : Jvm.MethodName) prog_1_method_16_code (2 : Nat) (Option.some Jvm.ClassFile.FieldType.long)) ∈ zALL := zin 753 (by decide +kernel) (by decide +kernel)
theorem zw754 : (Jvm.Cond.constantLong "SaltFarm" (203 : Nat) (-1 : Int64)) ∈ zALL := zin 754 (by decide +kernel) (by decide +kernel)
theorem zw755 : (Jvm.Cond.methodLink "SaltFarm" (205 : Nat) ({ cls := "SaltFarm$Market", name := "takenOf", desc := "(I)J" } : Jvm.MethodName)) ∈ zALL := zin 755 (by decide +kernel) (by decide +kernel)
theorem zw756 : (Jvm.Cond.instanceMethod ({ cls := "SaltFarm$Market", name := "takenOf", desc := "(I)J" } : Jvm.MethodName)) ∈ zALL := zin 756 (by decide +kernel) (by decide +kernel)
theorem zw757 : (Jvm.Cond.selects "SaltFarm$Market" ({ cls := "SaltFarm$Market", name := "takenOf", desc := "(I)J" } : Jvm.MethodName) ({ cls := "SaltFarm$Market", name := "takenOf", desc := "(I)J" } : Jvm.MethodName)) ∈ zALL := zin 757 (by decide +kernel) (by decide +kernel)
theorem zw758 : (Jvm.Cond.code ({ cls := "SaltFarm$Market", name := "takenOf", desc := "(I)J" } : Jvm.MethodName) prog_5_method_8_code (5 : Nat) (Option.some Jvm.ClassFile.FieldType.long)) ∈ zALL := zin 758 (by decide +kernel) (by decide +kernel)
theorem zw759 : (Jvm.Cond.methodLink "SaltFarm$Market" (75 : Nat) ({ cls := "SaltFarm$Market", name := "sourceOf", desc := "(I)I" } : Jvm.MethodName)) ∈ zALL := zin 759 (by decide +kernel) (by decide +kernel)
theorem zw760 : (Jvm.Cond.methodLink "SaltFarmLaw" (83 : Nat) ({ cls := "SaltFarm", name := "crown", desc := "()J" } : Jvm.MethodName)) ∈ zALL := zin 760 (by decide +kernel) (by decide +kernel)
theorem zw761 : (Jvm.Cond.instanceMethod ({ cls := "SaltFarm", name := "crown", desc := "()J" } : Jvm.MethodName)) ∈ zALL := zin 761 (by decide +kernel) (by decide +kernel)
theorem zw762 : (Jvm.Cond.selects "SaltFarm" ({ cls := "SaltFarm", name := "crown", desc := "()J" } : Jvm.MethodName) ({ cls := "SaltFarm", name := "crown", desc := "()J" } : Jvm.MethodName)) ∈ zALL := zin 762 (by decide +kernel) (by decide +kernel)
theorem zw763 : (Jvm.Cond.code ({ cls := "SaltFarm", name := "crown", desc := "()J" } : Jvm.MethodName) prog_1_method_17_code (1 : Nat) (Option.some Jvm.ClassFile.FieldType.long)) ∈ zALL := zin 763 (by decide +kernel) (by decide +kernel)
theorem zw764 : (Jvm.Cond.methodLink "SaltFarm" (209 : Nat) ({ cls := "SaltFarm$Market", name := "takenInAll", desc := "()J" } : Jvm.MethodName)) ∈ zALL := zin 764 (by decide +kernel) (by decide +kernel)
theorem zw765 : (Jvm.Cond.instanceMethod ({ cls := "SaltFarm$Market", name := "takenInAll", desc := "()J" } : Jvm.MethodName)) ∈ zALL := zin 765 (by decide +kernel) (by decide +kernel)
theorem zw766 : (Jvm.Cond.selects "SaltFarm$Market" ({ cls := "SaltFarm$Market", name := "takenInAll", desc := "()J" } : Jvm.MethodName) ({ cls := "SaltFarm$Market", name := "takenInAll", desc := "()J" } : Jvm.MethodName)) ∈ zALL := zin 766 (by decide +kernel) (by decide +kernel)
theorem zw767 : (Jvm.Cond.code ({ cls := "SaltFarm$Market", name := "takenInAll", desc := "()J" } : Jvm.MethodName) prog_5_method_9_code (4 : Nat) (Option.some Jvm.ClassFile.FieldType.long)) ∈ zALL := zin 767 (by decide +kernel) (by decide +kernel)
theorem zw768 : (Jvm.Cond.methodLink "SaltFarmLaw" (88 : Nat) ({ cls := "SaltFarm", name := "lost", desc := "()J" } : Jvm.MethodName)) ∈ zALL := zin 768 (by decide +kernel) (by decide +kernel)
theorem zw769 : (Jvm.Cond.instanceMethod ({ cls := "SaltFarm", name := "lost", desc := "()J" } : Jvm.MethodName)) ∈ zALL := zin 769 (by decide +kernel) (by decide +kernel)
theorem zw770 : (Jvm.Cond.selects "SaltFarm" ({ cls := "SaltFarm", name := "lost", desc := "()J" } : Jvm.MethodName) ({ cls := "SaltFarm", name := "lost", desc := "()J" } : Jvm.MethodName)) ∈ zALL := zin 770 (by decide +kernel) (by decide +kernel)
theorem zw771 : (Jvm.Cond.code ({ cls := "SaltFarm", name := "lost", desc := "()J" } : Jvm.MethodName) prog_1_method_18_code (1 : Nat) (Option.some Jvm.ClassFile.FieldType.long)) ∈ zALL := zin 771 (by decide +kernel) (by decide +kernel)
theorem zw772 : (Jvm.Cond.methodLink "SaltFarm" (213 : Nat) ({ cls := "SaltFarm$Market", name := "lostInAll", desc := "()J" } : Jvm.MethodName)) ∈ zALL := zin 772 (by decide +kernel) (by decide +kernel)
theorem zw773 : (Jvm.Cond.instanceMethod ({ cls := "SaltFarm$Market", name := "lostInAll", desc := "()J" } : Jvm.MethodName)) ∈ zALL := zin 773 (by decide +kernel) (by decide +kernel)
theorem zw774 : (Jvm.Cond.selects "SaltFarm$Market" ({ cls := "SaltFarm$Market", name := "lostInAll", desc := "()J" } : Jvm.MethodName) ({ cls := "SaltFarm$Market", name := "lostInAll", desc := "()J" } : Jvm.MethodName)) ∈ zALL := zin 774 (by decide +kernel) (by decide +kernel)
theorem zw775 : (Jvm.Cond.code ({ cls := "SaltFarm$Market", name := "lostInAll", desc := "()J" } : Jvm.MethodName) prog_5_method_10_code (4 : Nat) (Option.some Jvm.ClassFile.FieldType.long)) ∈ zALL := zin 775 (by decide +kernel) (by decide +kernel)
theorem zw776 : (Jvm.Cond.methodLink "SaltFarmLaw" (92 : Nat) ({ cls := "SaltFarm", name := "carried", desc := "(I)J" } : Jvm.MethodName)) ∈ zALL := zin 776 (by decide +kernel) (by decide +kernel)
theorem zw777 : (Jvm.Cond.instanceMethod ({ cls := "SaltFarm", name := "carried", desc := "(I)J" } : Jvm.MethodName)) ∈ zALL := zin 777 (by decide +kernel) (by decide +kernel)
theorem zw778 : (Jvm.Cond.selects "SaltFarm" ({ cls := "SaltFarm", name := "carried", desc := "(I)J" } : Jvm.MethodName) ({ cls := "SaltFarm", name := "carried", desc := "(I)J" } : Jvm.MethodName)) ∈ zALL := zin 778 (by decide +kernel) (by decide +kernel)
theorem zw779 : (Jvm.Cond.code ({ cls := "SaltFarm", name := "carried", desc := "(I)J" } : Jvm.MethodName) prog_1_method_19_code (2 : Nat) (Option.some Jvm.ClassFile.FieldType.long)) ∈ zALL := zin 779 (by decide +kernel) (by decide +kernel)
theorem zw780 : (Jvm.Cond.methodLink "SaltFarm" (216 : Nat) ({ cls := "SaltFarm$Market", name := "carriedOver", desc := "(I)J" } : Jvm.MethodName)) ∈ zALL := zin 780 (by decide +kernel) (by decide +kernel)
theorem zw781 : (Jvm.Cond.instanceMethod ({ cls := "SaltFarm$Market", name := "carriedOver", desc := "(I)J" } : Jvm.MethodName)) ∈ zALL := zin 781 (by decide +kernel) (by decide +kernel)
theorem zw782 : (Jvm.Cond.selects "SaltFarm$Market" ({ cls := "SaltFarm$Market", name := "carriedOver", desc := "(I)J" } : Jvm.MethodName) ({ cls := "SaltFarm$Market", name := "carriedOver", desc := "(I)J" } : Jvm.MethodName)) ∈ zALL := zin 782 (by decide +kernel) (by decide +kernel)
theorem zw783 : (Jvm.Cond.code ({ cls := "SaltFarm$Market", name := "carriedOver", desc := "(I)J" } : Jvm.MethodName) prog_5_method_11_code (6 : Nat) (Option.some Jvm.ClassFile.FieldType.long)) ∈ zALL := zin 783 (by decide +kernel) (by decide +kernel)
theorem zw784 : (Jvm.Cond.methodLink "SaltFarm$Market" (78 : Nat) ({ cls := "SaltFarm$Market", name := "trace", desc := "(I)V" } : Jvm.MethodName)) ∈ zALL := zin 784 (by decide +kernel) (by decide +kernel)
theorem zw785 : (Jvm.Cond.instanceMethod ({ cls := "SaltFarm$Market", name := "trace", desc := "(I)V" } : Jvm.MethodName)) ∈ zALL := zin 785 (by decide +kernel) (by decide +kernel)
theorem zw786 : (Jvm.Cond.selects "SaltFarm$Market" ({ cls := "SaltFarm$Market", name := "trace", desc := "(I)V" } : Jvm.MethodName) ({ cls := "SaltFarm$Market", name := "trace", desc := "(I)V" } : Jvm.MethodName)) ∈ zALL := zin 786 (by decide +kernel) (by decide +kernel)
theorem zw787 : (Jvm.Cond.code ({ cls := "SaltFarm$Market", name := "trace", desc := "(I)V" } : Jvm.MethodName) prog_5_method_12_code (5 : Nat) (Option.none : Option Jvm.ClassFile.FieldType)) ∈ zALL := zin 787 (by decide +kernel) (by decide +kernel)
theorem zw788 : (Jvm.Cond.methodLink "SaltFarm$Market" (81 : Nat) ({ cls := "SaltFarm$Market", name := "firstOnward", desc := "(I)I" } : Jvm.MethodName)) ∈ zALL := zin 788 (by decide +kernel) (by decide +kernel)
theorem zw790 : (Jvm.Cond.instanceMethod ({ cls := "SaltFarm$Market", name := "firstOnward", desc := "(I)I" } : Jvm.MethodName)) ∈ zALL := zin 790 (by decide +kernel) (by decide +kernel)
theorem zw791 : (Jvm.Cond.code ({ cls := "SaltFarm$Market", name := "firstOnward", desc := "(I)I" } : Jvm.MethodName) prog_5_method_14_code (3 : Nat) (Option.some Jvm.ClassFile.FieldType.int)) ∈ zALL := zin 791 (by decide +kernel) (by decide +kernel)
theorem zw792 : (Jvm.Cond.methodLink "SaltFarmLaw" (96 : Nat) ({ cls := "SaltFarm", name := "way", desc := "(I)I" } : Jvm.MethodName)) ∈ zALL := zin 792 (by decide +kernel) (by decide +kernel)
theorem zw793 : (Jvm.Cond.instanceMethod ({ cls := "SaltFarm", name := "way", desc := "(I)I" } : Jvm.MethodName)) ∈ zALL := zin 793 (by decide +kernel) (by decide +kernel)
theorem zw794 : (Jvm.Cond.selects "SaltFarm" ({ cls := "SaltFarm", name := "way", desc := "(I)I" } : Jvm.MethodName) ({ cls := "SaltFarm", name := "way", desc := "(I)I" } : Jvm.MethodName)) ∈ zALL := zin 794 (by decide +kernel) (by decide +kernel)
theorem zw795 : (Jvm.Cond.code ({ cls := "SaltFarm", name := "way", desc := "(I)I" } : Jvm.MethodName) prog_1_method_20_code (2 : Nat) (Option.some Jvm.ClassFile.FieldType.int)) ∈ zALL := zin 795 (by decide +kernel) (by decide +kernel)
theorem zw796 : (Jvm.Cond.methodLink "SaltFarm" (219 : Nat) ({ cls := "SaltFarm$Market", name := "trace", desc := "(I)V" } : Jvm.MethodName)) ∈ zALL := zin 796 (by decide +kernel) (by decide +kernel)
theorem zw797 : (Jvm.Cond.methodLink "SaltFarmLaw" (100 : Nat) ({ cls := "SaltFarm", name := "wayAt", desc := "(II)I" } : Jvm.MethodName)) ∈ zALL := zin 797 (by decide +kernel) (by decide +kernel)
theorem zw798 : (Jvm.Cond.instanceMethod ({ cls := "SaltFarm", name := "wayAt", desc := "(II)I" } : Jvm.MethodName)) ∈ zALL := zin 798 (by decide +kernel) (by decide +kernel)
theorem zw799 : (Jvm.Cond.selects "SaltFarm" ({ cls := "SaltFarm", name := "wayAt", desc := "(II)I" } : Jvm.MethodName) ({ cls := "SaltFarm", name := "wayAt", desc := "(II)I" } : Jvm.MethodName)) ∈ zALL := zin 799 (by decide +kernel) (by decide +kernel)
theorem zw800 : (Jvm.Cond.code ({ cls := "SaltFarm", name := "wayAt", desc := "(II)I" } : Jvm.MethodName) prog_1_method_21_code (3 : Nat) (Option.some Jvm.ClassFile.FieldType.int)) ∈ zALL := zin 800 (by decide +kernel) (by decide +kernel)
theorem zw801 : (Jvm.Cond.methodLink "SaltFarm" (225 : Nat) ({ cls := "SaltFarm$Market", name := "borderOfWay", desc := "(I)I" } : Jvm.MethodName)) ∈ zALL := zin 801 (by decide +kernel) (by decide +kernel)
theorem zw802 : (Jvm.Cond.instanceMethod ({ cls := "SaltFarm$Market", name := "borderOfWay", desc := "(I)I" } : Jvm.MethodName)) ∈ zALL := zin 802 (by decide +kernel) (by decide +kernel)
theorem zw803 : (Jvm.Cond.selects "SaltFarm$Market" ({ cls := "SaltFarm$Market", name := "borderOfWay", desc := "(I)I" } : Jvm.MethodName) ({ cls := "SaltFarm$Market", name := "borderOfWay", desc := "(I)I" } : Jvm.MethodName)) ∈ zALL := zin 803 (by decide +kernel) (by decide +kernel)
theorem zw804 : (Jvm.Cond.code ({ cls := "SaltFarm$Market", name := "borderOfWay", desc := "(I)I" } : Jvm.MethodName) prog_5_method_13_code (2 : Nat) (Option.some Jvm.ClassFile.FieldType.int)) ∈ zALL := zin 804 (by decide +kernel) (by decide +kernel)
theorem zw805 : (Jvm.Cond.methodLink "SaltFarmLaw" (104 : Nat) ({ cls := "SaltFarm", name := "best", desc := "(I)J" } : Jvm.MethodName)) ∈ zALL := zin 805 (by decide +kernel) (by decide +kernel)
theorem zw806 : (Jvm.Cond.instanceMethod ({ cls := "SaltFarm", name := "best", desc := "(I)J" } : Jvm.MethodName)) ∈ zALL := zin 806 (by decide +kernel) (by decide +kernel)
theorem zw807 : (Jvm.Cond.selects "SaltFarm" ({ cls := "SaltFarm", name := "best", desc := "(I)J" } : Jvm.MethodName) ({ cls := "SaltFarm", name := "best", desc := "(I)J" } : Jvm.MethodName)) ∈ zALL := zin 807 (by decide +kernel) (by decide +kernel)
theorem zw808 : (Jvm.Cond.code ({ cls := "SaltFarm", name := "best", desc := "(I)J" } : Jvm.MethodName) prog_1_method_22_code (4 : Nat) (Option.some Jvm.ClassFile.FieldType.long)) ∈ zALL := zin 808 (by decide +kernel) (by decide +kernel)
theorem zw809 : (Jvm.Cond.methodLink "SaltFarm" (241 : Nat) ({ cls := "SaltFarm$Watch", name := "lay", desc := "(LSaltFarm$Market;II)J" } : Jvm.MethodName)) ∈ zALL := zin 809 (by decide +kernel) (by decide +kernel)
theorem zw810 : (Jvm.Cond.instanceMethod ({ cls := "SaltFarm$Watch", name := "lay", desc := "(LSaltFarm$Market;II)J" } : Jvm.MethodName)) ∈ zALL := zin 810 (by decide +kernel) (by decide +kernel)
theorem zw811 : (Jvm.Cond.selects "SaltFarm$Watch" ({ cls := "SaltFarm$Watch", name := "lay", desc := "(LSaltFarm$Market;II)J" } : Jvm.MethodName) ({ cls := "SaltFarm$Watch", name := "lay", desc := "(LSaltFarm$Market;II)J" } : Jvm.MethodName)) ∈ zALL := zin 811 (by decide +kernel) (by decide +kernel)
theorem zw812 : (Jvm.Cond.code ({ cls := "SaltFarm$Watch", name := "lay", desc := "(LSaltFarm$Market;II)J" } : Jvm.MethodName) prog_12_method_2_code (10 : Nat) (Option.some Jvm.ClassFile.FieldType.long)) ∈ zALL := zin 812 (by decide +kernel) (by decide +kernel)
theorem zw813 : (Jvm.Cond.constantLong "SaltFarm$Watch" (28 : Nat) (-1 : Int64)) ∈ zALL := zin 813 (by decide +kernel) (by decide +kernel)
theorem zw814 : (Jvm.Cond.methodLink "SaltFarm$Watch" (30 : Nat) ({ cls := "SaltFarm$Watch", name := "charge", desc := "(LSaltFarm$Market;I)V" } : Jvm.MethodName)) ∈ zALL := zin 814 (by decide +kernel) (by decide +kernel)
theorem zw816 : (Jvm.Cond.instanceMethod ({ cls := "SaltFarm$Watch", name := "charge", desc := "(LSaltFarm$Market;I)V" } : Jvm.MethodName)) ∈ zALL := zin 816 (by decide +kernel) (by decide +kernel)
theorem zw817 : (Jvm.Cond.code ({ cls := "SaltFarm$Watch", name := "charge", desc := "(LSaltFarm$Market;I)V" } : Jvm.MethodName) prog_12_method_4_code (4 : Nat) (Option.none : Option Jvm.ClassFile.FieldType)) ∈ zALL := zin 817 (by decide +kernel) (by decide +kernel)
theorem zw818 : (Jvm.Cond.methodLink "SaltFarm$Watch" (34 : Nat) ({ cls := "SaltFarm$Market", name := "settle", desc := "()V" } : Jvm.MethodName)) ∈ zALL := zin 818 (by decide +kernel) (by decide +kernel)
theorem zw819 : (Jvm.Cond.methodLink "SaltFarm$Watch" (37 : Nat) ({ cls := "SaltFarm$Market", name := "takenInAll", desc := "()J" } : Jvm.MethodName)) ∈ zALL := zin 819 (by decide +kernel) (by decide +kernel)
theorem zw820 : (Jvm.Cond.methodLink "SaltFarm$Watch" (41 : Nat) ({ cls := "SaltFarm$Watch", name := "keep", desc := "()V" } : Jvm.MethodName)) ∈ zALL := zin 820 (by decide +kernel) (by decide +kernel)
theorem zw822 : (Jvm.Cond.instanceMethod ({ cls := "SaltFarm$Watch", name := "keep", desc := "()V" } : Jvm.MethodName)) ∈ zALL := zin 822 (by decide +kernel) (by decide +kernel)
theorem zw823 : (Jvm.Cond.code ({ cls := "SaltFarm$Watch", name := "keep", desc := "()V" } : Jvm.MethodName) prog_12_method_5_code (2 : Nat) (Option.none : Option Jvm.ClassFile.FieldType)) ∈ zALL := zin 823 (by decide +kernel) (by decide +kernel)
theorem zw824 : (Jvm.Cond.methodLink "SaltFarm$Watch" (44 : Nat) ({ cls := "SaltFarm$Watch", name := "shift", desc := "()Z" } : Jvm.MethodName)) ∈ zALL := zin 824 (by decide +kernel) (by decide +kernel)
theorem zw826 : (Jvm.Cond.instanceMethod ({ cls := "SaltFarm$Watch", name := "shift", desc := "()Z" } : Jvm.MethodName)) ∈ zALL := zin 826 (by decide +kernel) (by decide +kernel)
theorem zw827 : (Jvm.Cond.code ({ cls := "SaltFarm$Watch", name := "shift", desc := "()Z" } : Jvm.MethodName) prog_12_method_6_code (4 : Nat) (Option.some Jvm.ClassFile.FieldType.boolean)) ∈ zALL := zin 827 (by decide +kernel) (by decide +kernel)
theorem zw828 : (Jvm.Cond.methodLink "SaltFarmLaw" (108 : Nat) ({ cls := "SaltFarm", name := "stand", desc := "(I)I" } : Jvm.MethodName)) ∈ zALL := zin 828 (by decide +kernel) (by decide +kernel)
theorem zw829 : (Jvm.Cond.instanceMethod ({ cls := "SaltFarm", name := "stand", desc := "(I)I" } : Jvm.MethodName)) ∈ zALL := zin 829 (by decide +kernel) (by decide +kernel)
theorem zw830 : (Jvm.Cond.selects "SaltFarm" ({ cls := "SaltFarm", name := "stand", desc := "(I)I" } : Jvm.MethodName) ({ cls := "SaltFarm", name := "stand", desc := "(I)I" } : Jvm.MethodName)) ∈ zALL := zin 830 (by decide +kernel) (by decide +kernel)
theorem zw831 : (Jvm.Cond.code ({ cls := "SaltFarm", name := "stand", desc := "(I)I" } : Jvm.MethodName) prog_1_method_23_code (2 : Nat) (Option.some Jvm.ClassFile.FieldType.int)) ∈ zALL := zin 831 (by decide +kernel) (by decide +kernel)
theorem zw832 : (Jvm.Cond.methodLink "SaltFarm" (245 : Nat) ({ cls := "SaltFarm$Watch", name := "standingOn", desc := "(I)I" } : Jvm.MethodName)) ∈ zALL := zin 832 (by decide +kernel) (by decide +kernel)
theorem zw833 : (Jvm.Cond.instanceMethod ({ cls := "SaltFarm$Watch", name := "standingOn", desc := "(I)I" } : Jvm.MethodName)) ∈ zALL := zin 833 (by decide +kernel) (by decide +kernel)
theorem zw834 : (Jvm.Cond.selects "SaltFarm$Watch" ({ cls := "SaltFarm$Watch", name := "standingOn", desc := "(I)I" } : Jvm.MethodName) ({ cls := "SaltFarm$Watch", name := "standingOn", desc := "(I)I" } : Jvm.MethodName)) ∈ zALL := zin 834 (by decide +kernel) (by decide +kernel)
theorem zw835 : (Jvm.Cond.code ({ cls := "SaltFarm$Watch", name := "standingOn", desc := "(I)I" } : Jvm.MethodName) prog_12_method_3_code (2 : Nat) (Option.some Jvm.ClassFile.FieldType.int)) ∈ zALL := zin 835 (by decide +kernel) (by decide +kernel)
theorem zw836 : (Jvm.Cond.methodLink "SaltFarmLaw" (112 : Nat) ({ cls := "SaltFarm", name := "pass", desc := "()I" } : Jvm.MethodName)) ∈ zALL := zin 836 (by decide +kernel) (by decide +kernel)
theorem zw837 : (Jvm.Cond.instanceMethod ({ cls := "SaltFarm", name := "pass", desc := "()I" } : Jvm.MethodName)) ∈ zALL := zin 837 (by decide +kernel) (by decide +kernel)
theorem zw838 : (Jvm.Cond.selects "SaltFarm" ({ cls := "SaltFarm", name := "pass", desc := "()I" } : Jvm.MethodName) ({ cls := "SaltFarm", name := "pass", desc := "()I" } : Jvm.MethodName)) ∈ zALL := zin 838 (by decide +kernel) (by decide +kernel)
theorem zw839 : (Jvm.Cond.code ({ cls := "SaltFarm", name := "pass", desc := "()I" } : Jvm.MethodName) prog_1_method_24_code (2 : Nat) (Option.some Jvm.ClassFile.FieldType.int)) ∈ zALL := zin 839 (by decide +kernel) (by decide +kernel)
theorem zw840 : (Jvm.Cond.methodLink "SaltFarm" (252 : Nat) ({ cls := "SaltFarm$Store", name := "closeYear", desc := "()V" } : Jvm.MethodName)) ∈ zALL := zin 840 (by decide +kernel) (by decide +kernel)
theorem zw841 : (Jvm.Cond.instanceMethod ({ cls := "SaltFarm$Store", name := "closeYear", desc := "()V" } : Jvm.MethodName)) ∈ zALL := zin 841 (by decide +kernel) (by decide +kernel)
theorem zw842 : (Jvm.Cond.selects "SaltFarm$Store" ({ cls := "SaltFarm$Store", name := "closeYear", desc := "()V" } : Jvm.MethodName) ({ cls := "SaltFarm$Store", name := "closeYear", desc := "()V" } : Jvm.MethodName)) ∈ zALL := zin 842 (by decide +kernel) (by decide +kernel)
theorem zw843 : (Jvm.Cond.code ({ cls := "SaltFarm$Store", name := "closeYear", desc := "()V" } : Jvm.MethodName) prog_9_method_3_code (1 : Nat) (Option.none : Option Jvm.ClassFile.FieldType)) ∈ zALL := zin 843 (by decide +kernel) (by decide +kernel)
theorem zw844 : (Jvm.Cond.methodLink "SaltFarm$Store" (30 : Nat) ({ cls := "SaltFarm$Store", name := "missingThisYear", desc := "()I" } : Jvm.MethodName)) ∈ zALL := zin 844 (by decide +kernel) (by decide +kernel)
theorem zw845 : (Jvm.Cond.instanceMethod ({ cls := "SaltFarm$Store", name := "missingThisYear", desc := "()I" } : Jvm.MethodName)) ∈ zALL := zin 845 (by decide +kernel) (by decide +kernel)
theorem zw846 : (Jvm.Cond.selects "SaltFarm$Store" ({ cls := "SaltFarm$Store", name := "missingThisYear", desc := "()I" } : Jvm.MethodName) ({ cls := "SaltFarm$Store", name := "missingThisYear", desc := "()I" } : Jvm.MethodName)) ∈ zALL := zin 846 (by decide +kernel) (by decide +kernel)
theorem zw847 : (Jvm.Cond.code ({ cls := "SaltFarm$Store", name := "missingThisYear", desc := "()I" } : Jvm.MethodName) prog_9_method_2_code (1 : Nat) (Option.some Jvm.ClassFile.FieldType.int)) ∈ zALL := zin 847 (by decide +kernel) (by decide +kernel)
theorem zw848 : (Jvm.Cond.methodLink "SaltFarmLaw" (116 : Nat) ({ cls := "SaltFarm", name := "store", desc := "(II)I" } : Jvm.MethodName)) ∈ zALL := zin 848 (by decide +kernel) (by decide +kernel)
theorem zw849 : (Jvm.Cond.instanceMethod ({ cls := "SaltFarm", name := "store", desc := "(II)I" } : Jvm.MethodName)) ∈ zALL := zin 849 (by decide +kernel) (by decide +kernel)
theorem zw850 : (Jvm.Cond.selects "SaltFarm" ({ cls := "SaltFarm", name := "store", desc := "(II)I" } : Jvm.MethodName) ({ cls := "SaltFarm", name := "store", desc := "(II)I" } : Jvm.MethodName)) ∈ zALL := zin 850 (by decide +kernel) (by decide +kernel)
theorem zw851 : (Jvm.Cond.code ({ cls := "SaltFarm", name := "store", desc := "(II)I" } : Jvm.MethodName) prog_1_method_25_code (3 : Nat) (Option.some Jvm.ClassFile.FieldType.int)) ∈ zALL := zin 851 (by decide +kernel) (by decide +kernel)
theorem zw852 : (Jvm.Cond.constant "SaltFarm" (255 : Nat) (1000000 : Int32)) ∈ zALL := zin 852 (by decide +kernel) (by decide +kernel)
theorem zw853 : (Jvm.Cond.instantiable "SaltFarm$Store" (6 : Nat)) ∈ zALL := zin 853 (by decide +kernel) (by decide +kernel)
theorem zw854 : (Jvm.Cond.methodLink "SaltFarm" (256 : Nat) ({ cls := "SaltFarm$Store", name := "<init>", desc := "(I)V" } : Jvm.MethodName)) ∈ zALL := zin 854 (by decide +kernel) (by decide +kernel)
theorem zw855 : (Jvm.Cond.instanceMethod ({ cls := "SaltFarm$Store", name := "<init>", desc := "(I)V" } : Jvm.MethodName)) ∈ zALL := zin 855 (by decide +kernel) (by decide +kernel)
theorem zw856 : (Jvm.Cond.code ({ cls := "SaltFarm$Store", name := "<init>", desc := "(I)V" } : Jvm.MethodName) prog_9_method_1_code (2 : Nat) (Option.none : Option Jvm.ClassFile.FieldType)) ∈ zALL := zin 856 (by decide +kernel) (by decide +kernel)
theorem zw857 : (Jvm.Cond.methodLink "SaltFarm$Store" (1 : Nat) ({ cls := "java/lang/Object", name := "<init>", desc := "()V" } : Jvm.MethodName)) ∈ zALL := zin 857 (by decide +kernel) (by decide +kernel)
theorem zw858 : (Jvm.Cond.fieldLink "SaltFarm$Store" (27 : Nat) "SaltFarm$Store" "had" "I") ∈ zALL := zin 858 (by decide +kernel) (by decide +kernel)
theorem zw859 : (Jvm.Cond.fieldLink "SaltFarm$Store" (7 : Nat) "SaltFarm$Store" "brought" "I") ∈ zALL := zin 859 (by decide +kernel) (by decide +kernel)
theorem zw860 : (Jvm.Cond.fieldLink "SaltFarm" (265 : Nat) "SaltFarm$Store" "brought" "I") ∈ zALL := zin 860 (by decide +kernel) (by decide +kernel)
theorem zw861 : (Jvm.Cond.fieldLink "SaltFarm$Store" (13 : Nat) "SaltFarm$Store" "sold" "I") ∈ zALL := zin 861 (by decide +kernel) (by decide +kernel)
theorem zw862 : (Jvm.Cond.fieldLink "SaltFarm" (262 : Nat) "SaltFarm$Store" "sold" "I") ∈ zALL := zin 862 (by decide +kernel) (by decide +kernel)
theorem zw863 : (Jvm.Cond.fieldLink "SaltFarm$Store" (16 : Nat) "SaltFarm$Store" "counted" "I") ∈ zALL := zin 863 (by decide +kernel) (by decide +kernel)
theorem zw864 : (Jvm.Cond.fieldLink "SaltFarm" (269 : Nat) "SaltFarm$Store" "counted" "I") ∈ zALL := zin 864 (by decide +kernel) (by decide +kernel)
theorem zw865 : (Jvm.Cond.fieldLink "SaltFarm$Store" (19 : Nat) "SaltFarm$Store" "isCounted" "Z") ∈ zALL := zin 865 (by decide +kernel) (by decide +kernel)
theorem zw866 : (Jvm.Cond.fieldLink "SaltFarm" (248 : Nat) "SaltFarm$Store" "isCounted" "Z") ∈ zALL := zin 866 (by decide +kernel) (by decide +kernel)
theorem zw867 : (Jvm.Cond.fieldLink "SaltFarm$Store" (23 : Nat) "SaltFarm$Store" "missingBefore" "J") ∈ zALL := zin 867 (by decide +kernel) (by decide +kernel)
theorem zw868 : (Jvm.Cond.fieldLink "SaltFarm" (276 : Nat) "SaltFarm$Store" "missingBefore" "J") ∈ zALL := zin 868 (by decide +kernel) (by decide +kernel)
theorem zw882 : (Jvm.Cond.methodLink "SaltFarmLaw" (120 : Nat) ({ cls := "SaltFarm", name := "moves", desc := "(IIZ)I" } : Jvm.MethodName)) ∈ zALL := zin 882 (by decide +kernel) (by decide +kernel)
theorem zw883 : (Jvm.Cond.instanceMethod ({ cls := "SaltFarm", name := "moves", desc := "(IIZ)I" } : Jvm.MethodName)) ∈ zALL := zin 883 (by decide +kernel) (by decide +kernel)
theorem zw884 : (Jvm.Cond.selects "SaltFarm" ({ cls := "SaltFarm", name := "moves", desc := "(IIZ)I" } : Jvm.MethodName) ({ cls := "SaltFarm", name := "moves", desc := "(IIZ)I" } : Jvm.MethodName)) ∈ zALL := zin 884 (by decide +kernel) (by decide +kernel)
theorem zw885 : (Jvm.Cond.code ({ cls := "SaltFarm", name := "moves", desc := "(IIZ)I" } : Jvm.MethodName) prog_1_method_26_code (6 : Nat) (Option.some Jvm.ClassFile.FieldType.int)) ∈ zALL := zin 885 (by decide +kernel) (by decide +kernel)
theorem zw886 : (Jvm.Cond.methodLink "SaltFarm" (258 : Nat) ({ cls := "SaltFarm", name := "storeAt", desc := "(I)LSaltFarm$Store;" } : Jvm.MethodName)) ∈ zALL := zin 886 (by decide +kernel) (by decide +kernel)
theorem zw888 : (Jvm.Cond.instanceMethod ({ cls := "SaltFarm", name := "storeAt", desc := "(I)LSaltFarm$Store;" } : Jvm.MethodName)) ∈ zALL := zin 888 (by decide +kernel) (by decide +kernel)
theorem zw889 : (Jvm.Cond.code ({ cls := "SaltFarm", name := "storeAt", desc := "(I)LSaltFarm$Store;" } : Jvm.MethodName) prog_1_method_38_code (2 : Nat) (Option.some (Jvm.ClassFile.FieldType.object "SaltFarm$Store"))) ∈ zALL := zin 889 (by decide +kernel) (by decide +kernel)
theorem zw890 : (Jvm.Cond.constant "SaltFarm" (268 : Nat) (1000000000 : Int32)) ∈ zALL := zin 890 (by decide +kernel) (by decide +kernel)
theorem zw891 : (Jvm.Cond.methodLink "SaltFarmLaw" (124 : Nat) ({ cls := "SaltFarm", name := "counted", desc := "(II)I" } : Jvm.MethodName)) ∈ zALL := zin 891 (by decide +kernel) (by decide +kernel)
theorem zw892 : (Jvm.Cond.instanceMethod ({ cls := "SaltFarm", name := "counted", desc := "(II)I" } : Jvm.MethodName)) ∈ zALL := zin 892 (by decide +kernel) (by decide +kernel)
theorem zw893 : (Jvm.Cond.selects "SaltFarm" ({ cls := "SaltFarm", name := "counted", desc := "(II)I" } : Jvm.MethodName) ({ cls := "SaltFarm", name := "counted", desc := "(II)I" } : Jvm.MethodName)) ∈ zALL := zin 893 (by decide +kernel) (by decide +kernel)
theorem zw894 : (Jvm.Cond.code ({ cls := "SaltFarm", name := "counted", desc := "(II)I" } : Jvm.MethodName) prog_1_method_27_code (4 : Nat) (Option.some Jvm.ClassFile.FieldType.int)) ∈ zALL := zin 894 (by decide +kernel) (by decide +kernel)
theorem zw895 : (Jvm.Cond.methodLink "SaltFarm" (272 : Nat) ({ cls := "SaltFarm$Store", name := "missingThisYear", desc := "()I" } : Jvm.MethodName)) ∈ zALL := zin 895 (by decide +kernel) (by decide +kernel)
theorem zw896 : (Jvm.Cond.methodLink "SaltFarmLaw" (128 : Nat) ({ cls := "SaltFarm", name := "missing", desc := "(I)J" } : Jvm.MethodName)) ∈ zALL := zin 896 (by decide +kernel) (by decide +kernel)
theorem zw897 : (Jvm.Cond.instanceMethod ({ cls := "SaltFarm", name := "missing", desc := "(I)J" } : Jvm.MethodName)) ∈ zALL := zin 897 (by decide +kernel) (by decide +kernel)
theorem zw898 : (Jvm.Cond.selects "SaltFarm" ({ cls := "SaltFarm", name := "missing", desc := "(I)J" } : Jvm.MethodName) ({ cls := "SaltFarm", name := "missing", desc := "(I)J" } : Jvm.MethodName)) ∈ zALL := zin 898 (by decide +kernel) (by decide +kernel)
theorem zw899 : (Jvm.Cond.code ({ cls := "SaltFarm", name := "missing", desc := "(I)J" } : Jvm.MethodName) prog_1_method_28_code (3 : Nat) (Option.some Jvm.ClassFile.FieldType.long)) ∈ zALL := zin 899 (by decide +kernel) (by decide +kernel)
theorem zw900 : (Jvm.Cond.methodLink "SaltFarmLaw" (132 : Nat) ({ cls := "SaltFarm", name := "worst", desc := "()I" } : Jvm.MethodName)) ∈ zALL := zin 900 (by decide +kernel) (by decide +kernel)
theorem zw901 : (Jvm.Cond.instanceMethod ({ cls := "SaltFarm", name := "worst", desc := "()I" } : Jvm.MethodName)) ∈ zALL := zin 901 (by decide +kernel) (by decide +kernel)
theorem zw902 : (Jvm.Cond.selects "SaltFarm" ({ cls := "SaltFarm", name := "worst", desc := "()I" } : Jvm.MethodName) ({ cls := "SaltFarm", name := "worst", desc := "()I" } : Jvm.MethodName)) ∈ zALL := zin 902 (by decide +kernel) (by decide +kernel)
theorem zw903 : (Jvm.Cond.code ({ cls := "SaltFarm", name := "worst", desc := "()I" } : Jvm.MethodName) prog_1_method_29_code (5 : Nat) (Option.some Jvm.ClassFile.FieldType.int)) ∈ zALL := zin 903 (by decide +kernel) (by decide +kernel)
theorem zw904 : (Jvm.Cond.methodLink "SaltFarmLaw" (136 : Nat) ({ cls := "SaltFarm", name := "count", desc := "(I)I" } : Jvm.MethodName)) ∈ zALL := zin 904 (by decide +kernel) (by decide +kernel)
theorem zw905 : (Jvm.Cond.instanceMethod ({ cls := "SaltFarm", name := "count", desc := "(I)I" } : Jvm.MethodName)) ∈ zALL := zin 905 (by decide +kernel) (by decide +kernel)
theorem zw906 : (Jvm.Cond.selects "SaltFarm" ({ cls := "SaltFarm", name := "count", desc := "(I)I" } : Jvm.MethodName) ({ cls := "SaltFarm", name := "count", desc := "(I)I" } : Jvm.MethodName)) ∈ zALL := zin 906 (by decide +kernel) (by decide +kernel)
theorem zw907 : (Jvm.Cond.code ({ cls := "SaltFarm", name := "count", desc := "(I)I" } : Jvm.MethodName) prog_1_method_30_code (2 : Nat) (Option.some Jvm.ClassFile.FieldType.int)) ∈ zALL := zin 907 (by decide +kernel) (by decide +kernel)
theorem zw908 : (Jvm.Cond.methodLink "SaltFarm" (283 : Nat) ({ cls := "SaltFarm", name := "guardsInAll", desc := "()I" } : Jvm.MethodName)) ∈ zALL := zin 908 (by decide +kernel) (by decide +kernel)
theorem zw910 : (Jvm.Cond.instanceMethod ({ cls := "SaltFarm", name := "guardsInAll", desc := "()I" } : Jvm.MethodName)) ∈ zALL := zin 910 (by decide +kernel) (by decide +kernel)
theorem zw911 : (Jvm.Cond.code ({ cls := "SaltFarm", name := "guardsInAll", desc := "()I" } : Jvm.MethodName) prog_1_method_39_code (3 : Nat) (Option.some Jvm.ClassFile.FieldType.int)) ∈ zALL := zin 911 (by decide +kernel) (by decide +kernel)
theorem zw912 : (Jvm.Cond.methodLink "SaltFarmLaw" (140 : Nat) ({ cls := "SaltFarm", name := "trouble", desc := "()I" } : Jvm.MethodName)) ∈ zALL := zin 912 (by decide +kernel) (by decide +kernel)
theorem zw913 : (Jvm.Cond.instanceMethod ({ cls := "SaltFarm", name := "trouble", desc := "()I" } : Jvm.MethodName)) ∈ zALL := zin 913 (by decide +kernel) (by decide +kernel)
theorem zw914 : (Jvm.Cond.selects "SaltFarm" ({ cls := "SaltFarm", name := "trouble", desc := "()I" } : Jvm.MethodName) ({ cls := "SaltFarm", name := "trouble", desc := "()I" } : Jvm.MethodName)) ∈ zALL := zin 914 (by decide +kernel) (by decide +kernel)
theorem zw915 : (Jvm.Cond.code ({ cls := "SaltFarm", name := "trouble", desc := "()I" } : Jvm.MethodName) prog_1_method_31_code (1 : Nat) (Option.some Jvm.ClassFile.FieldType.int)) ∈ zALL := zin 915 (by decide +kernel) (by decide +kernel)
theorem zw916 : (Jvm.Cond.classLink "SaltFarmLaw" (10 : Nat) "SaltFarmModel") ∈ zALL := zin 916 (by decide +kernel) (by decide +kernel)
theorem zw917 : (Jvm.Cond.instantiable "SaltFarmModel" (47 : Nat)) ∈ zALL := zin 917 (by decide +kernel) (by decide +kernel)
theorem zw918 : (Jvm.Cond.methodLink "SaltFarmLaw" (12 : Nat) ({ cls := "SaltFarmModel", name := "<init>", desc := "()V" } : Jvm.MethodName)) ∈ zALL := zin 918 (by decide +kernel) (by decide +kernel)
theorem zw919 : (Jvm.Cond.instanceMethod ({ cls := "SaltFarmModel", name := "<init>", desc := "()V" } : Jvm.MethodName)) ∈ zALL := zin 919 (by decide +kernel) (by decide +kernel)
theorem zw920 : (Jvm.Cond.code ({ cls := "SaltFarmModel", name := "<init>", desc := "()V" } : Jvm.MethodName) prog_14_method_1_code (1 : Nat) (Option.none : Option Jvm.ClassFile.FieldType)) ∈ zALL := zin 920 (by decide +kernel) (by decide +kernel)
theorem zw921 : (Jvm.Cond.methodLink "SaltFarmModel" (1 : Nat) ({ cls := "java/lang/Object", name := "<init>", desc := "()V" } : Jvm.MethodName)) ∈ zALL := zin 921 (by decide +kernel) (by decide +kernel)
theorem zw922 : (Jvm.Cond.classLink "SaltFarmModel" (35 : Nat) "SaltFarmModel$Edict") ∈ zALL := zin 922 (by decide +kernel) (by decide +kernel)
theorem zw923 : (Jvm.Cond.arrayOver (Jvm.ClassFile.FieldType.object "SaltFarmModel$Edict")) ∈ zAO := zinA 923 (by decide +kernel) (by decide +kernel)
theorem zw924 : (Jvm.Cond.instantiable "SaltFarmModel$Edict" (10 : Nat)) ∈ zALL := zin 924 (by decide +kernel) (by decide +kernel)
theorem zw925 : (Jvm.Cond.methodLinkNest "SaltFarmModel" (41 : Nat) ({ cls := "SaltFarmModel$Edict", name := "<init>", desc := "()V" } : Jvm.MethodName) "SaltFarmModel") ∈ zNest := zinN 925 (by decide +kernel) (by decide +kernel)
theorem zw926 : (Jvm.Cond.instanceMethod ({ cls := "SaltFarmModel$Edict", name := "<init>", desc := "()V" } : Jvm.MethodName)) ∈ zALL := zin 926 (by decide +kernel) (by decide +kernel)
theorem zw927 : (Jvm.Cond.code ({ cls := "SaltFarmModel$Edict", name := "<init>", desc := "()V" } : Jvm.MethodName) prog_15_method_1_code (1 : Nat) (Option.none : Option Jvm.ClassFile.FieldType)) ∈ zALL := zin 927 (by decide +kernel) (by decide +kernel)
theorem zw928 : (Jvm.Cond.methodLink "SaltFarmModel$Edict" (3 : Nat) ({ cls := "java/lang/Object", name := "<init>", desc := "()V" } : Jvm.MethodName)) ∈ zALL := zin 928 (by decide +kernel) (by decide +kernel)
theorem zw929 : (Jvm.Cond.fieldLinkNest "SaltFarmModel" (275 : Nat) "SaltFarmModel$Edict" "province" "I" "SaltFarmModel") ∈ zNest := zinN 929 (by decide +kernel) (by decide +kernel)
theorem zw930 : (Jvm.Cond.fieldLinkNest "SaltFarmModel" (278 : Nat) "SaltFarmModel$Edict" "year" "I" "SaltFarmModel") ∈ zNest := zinN 930 (by decide +kernel) (by decide +kernel)
theorem zw931 : (Jvm.Cond.fieldLinkNest "SaltFarmModel" (210 : Nat) "SaltFarmModel$Edict" "lines" "I" "SaltFarmModel") ∈ zNest := zinN 931 (by decide +kernel) (by decide +kernel)
theorem zw932 : (Jvm.Cond.fieldLink "SaltFarmModel$Edict" (31 : Nat) "SaltFarmModel$Edict" "items" "I") ∈ zALL := zin 932 (by decide +kernel) (by decide +kernel)
theorem zw933 : (Jvm.Cond.fieldLinkNest "SaltFarmModel" (213 : Nat) "SaltFarmModel$Edict" "items" "I" "SaltFarmModel") ∈ zNest := zinN 933 (by decide +kernel) (by decide +kernel)
theorem zw934 : (Jvm.Cond.fieldLink "SaltFarmModel$Edict" (9 : Nat) "SaltFarmModel$Edict" "isDuty" "[Z") ∈ zALL := zin 934 (by decide +kernel) (by decide +kernel)
theorem zw935 : (Jvm.Cond.fieldLinkNest "SaltFarmModel" (225 : Nat) "SaltFarmModel$Edict" "isDuty" "[Z" "SaltFarmModel") ∈ zNest := zinN 935 (by decide +kernel) (by decide +kernel)
theorem zw936 : (Jvm.Cond.fieldLink "SaltFarmModel$Edict" (15 : Nat) "SaltFarmModel$Edict" "tests" "[I") ∈ zALL := zin 936 (by decide +kernel) (by decide +kernel)
theorem zw937 : (Jvm.Cond.fieldLinkNest "SaltFarmModel" (229 : Nat) "SaltFarmModel$Edict" "tests" "[I" "SaltFarmModel") ∈ zNest := zinN 937 (by decide +kernel) (by decide +kernel)
theorem zw938 : (Jvm.Cond.fieldLink "SaltFarmModel$Edict" (19 : Nat) "SaltFarmModel$Edict" "from" "[I") ∈ zALL := zin 938 (by decide +kernel) (by decide +kernel)
theorem zw939 : (Jvm.Cond.fieldLinkNest "SaltFarmModel" (232 : Nat) "SaltFarmModel$Edict" "from" "[I" "SaltFarmModel") ∈ zNest := zinN 939 (by decide +kernel) (by decide +kernel)
theorem zw940 : (Jvm.Cond.fieldLink "SaltFarmModel$Edict" (22 : Nat) "SaltFarmModel$Edict" "to" "[I") ∈ zALL := zin 940 (by decide +kernel) (by decide +kernel)
theorem zw941 : (Jvm.Cond.fieldLinkNest "SaltFarmModel" (242 : Nat) "SaltFarmModel$Edict" "to" "[I" "SaltFarmModel") ∈ zNest := zinN 941 (by decide +kernel) (by decide +kernel)
theorem zw942 : (Jvm.Cond.fieldLink "SaltFarmModel$Edict" (25 : Nat) "SaltFarmModel$Edict" "sign" "[I") ∈ zALL := zin 942 (by decide +kernel) (by decide +kernel)
theorem zw943 : (Jvm.Cond.fieldLinkNest "SaltFarmModel" (301 : Nat) "SaltFarmModel$Edict" "sign" "[I" "SaltFarmModel") ∈ zNest := zinN 943 (by decide +kernel) (by decide +kernel)
theorem zw944 : (Jvm.Cond.fieldLink "SaltFarmModel$Edict" (28 : Nat) "SaltFarmModel$Edict" "value" "[I") ∈ zALL := zin 944 (by decide +kernel) (by decide +kernel)
theorem zw945 : (Jvm.Cond.fieldLinkNest "SaltFarmModel" (303 : Nat) "SaltFarmModel$Edict" "value" "[I" "SaltFarmModel") ∈ zNest := zinN 945 (by decide +kernel) (by decide +kernel)
theorem zw967 : (Jvm.Cond.arrayClass Jvm.ClassFile.FieldType.boolean) ∈ zALL := zin 967 (by decide +kernel) (by decide +kernel)
theorem zw968 : (Jvm.Cond.classLink "SaltFarmModel" (46 : Nat) "SaltFarmModel$Stop") ∈ zALL := zin 968 (by decide +kernel) (by decide +kernel)
theorem zw969 : (Jvm.Cond.instantiable "SaltFarmModel$Stop" (8 : Nat)) ∈ zALL := zin 969 (by decide +kernel) (by decide +kernel)
theorem zw970 : (Jvm.Cond.castable "SaltFarmModel$Stop" "SaltFarmModel$Stop") ∈ zNest := zinN 970 (by decide +kernel) (by decide +kernel)
theorem zw977 : (Jvm.Cond.selects "SaltFarmModel$Stop" ({ cls := "java/lang/Throwable", name := "fillInStackTrace", desc := "(I)Ljava/lang/Throwable;" } : Jvm.MethodName) ({ cls := "java/lang/Throwable", name := "fillInStackTrace", desc := "(I)Ljava/lang/Throwable;" } : Jvm.MethodName)) ∈ zALL := zin 977 (by decide +kernel) (by decide +kernel)
theorem zw978 : (Jvm.Cond.selects "SaltFarmModel$Stop" ({ cls := "java/lang/Throwable", name := "fillInStackTrace", desc := "()Ljava/lang/Throwable;" } : Jvm.MethodName) ({ cls := "java/lang/Throwable", name := "fillInStackTrace", desc := "()Ljava/lang/Throwable;" } : Jvm.MethodName)) ∈ zALL := zin 978 (by decide +kernel) (by decide +kernel)
theorem zw989 : (Jvm.Cond.fieldLink "java/lang/Throwable" (198 : Nat) "java/lang/Throwable" "backtrace" "Ljava/lang/Object;") ∈ zALL := zin 989 (by decide +kernel) (by decide +kernel)
theorem zw991 : (Jvm.Cond.instanceMethod ({ cls := "java/lang/Throwable", name := "<init>", desc := "()V" } : Jvm.MethodName)) ∈ zALL := zin 991 (by decide +kernel) (by decide +kernel)
theorem zw992 : (Jvm.Cond.code ({ cls := "java/lang/Throwable", name := "<init>", desc := "()V" } : Jvm.MethodName) prog_24_method_1_code (1 : Nat) (Option.none : Option Jvm.ClassFile.FieldType)) ∈ zALL := zin 992 (by decide +kernel) (by decide +kernel)
theorem zw993 : (Jvm.Cond.methodLink "java/lang/Throwable" (1 : Nat) ({ cls := "java/lang/Object", name := "<init>", desc := "()V" } : Jvm.MethodName)) ∈ zALL := zin 993 (by decide +kernel) (by decide +kernel)
theorem zw994 : (Jvm.Cond.fieldLink "java/lang/Throwable" (13 : Nat) "java/lang/Throwable" "UNASSIGNED_STACK" "[Ljava/lang/StackTraceElement;") ∈ zALL := zin 994 (by decide +kernel) (by decide +kernel)
theorem zw996 : (Jvm.Cond.fieldLink "java/lang/Throwable" (20 : Nat) "java/lang/Throwable" "SUPPRESSED_SENTINEL" "Ljava/util/List;") ∈ zALL := zin 996 (by decide +kernel) (by decide +kernel)
theorem zw998 : (Jvm.Cond.methodLink "java/lang/Throwable" (27 : Nat) ({ cls := "java/lang/Throwable", name := "fillInStackTrace", desc := "()Ljava/lang/Throwable;" } : Jvm.MethodName)) ∈ zALL := zin 998 (by decide +kernel) (by decide +kernel)
theorem zw999 : (Jvm.Cond.instanceMethod ({ cls := "java/lang/Throwable", name := "fillInStackTrace", desc := "()Ljava/lang/Throwable;" } : Jvm.MethodName)) ∈ zALL := zin 999 (by decide +kernel) (by decide +kernel)
theorem zw1002 : (Jvm.Cond.methodLink "java/lang/Throwable" (202 : Nat) ({ cls := "java/lang/Throwable", name := "fillInStackTrace", desc := "(I)Ljava/lang/Throwable;" } : Jvm.MethodName)) ∈ zALL := zin 1002 (by decide +kernel) (by decide +kernel)
theorem zw1004 : (Jvm.Cond.instanceMethod ({ cls := "java/lang/Throwable", name := "fillInStackTrace", desc := "(I)Ljava/lang/Throwable;" } : Jvm.MethodName)) ∈ zALL := zin 1004 (by decide +kernel) (by decide +kernel)
theorem zw1005 : (Jvm.Cond.instantiable "java/lang/Throwable" (6 : Nat)) ∈ zALL := zin 1005 (by decide +kernel) (by decide +kernel)
theorem zw1006 : (Jvm.Cond.native ({ cls := "java/lang/Throwable", name := "fillInStackTrace", desc := "(I)Ljava/lang/Throwable;" } : Jvm.MethodName)) ∈ zALL := zin 1006 (by decide +kernel) (by decide +kernel)
theorem zw1007 : (Jvm.Cond.methodLink "SaltFarmModel" (48 : Nat) ({ cls := "SaltFarmModel$Stop", name := "<init>", desc := "()V" } : Jvm.MethodName)) ∈ zALL := zin 1007 (by decide +kernel) (by decide +kernel)
theorem zw1008 : (Jvm.Cond.instanceMethod ({ cls := "SaltFarmModel$Stop", name := "<init>", desc := "()V" } : Jvm.MethodName)) ∈ zALL := zin 1008 (by decide +kernel) (by decide +kernel)
theorem zw1009 : (Jvm.Cond.code ({ cls := "SaltFarmModel$Stop", name := "<init>", desc := "()V" } : Jvm.MethodName) prog_16_method_1_code (1 : Nat) (Option.none : Option Jvm.ClassFile.FieldType)) ∈ zALL := zin 1009 (by decide +kernel) (by decide +kernel)
theorem zw1010 : (Jvm.Cond.methodLink "SaltFarmModel$Stop" (1 : Nat) ({ cls := "java/lang/RuntimeException", name := "<init>", desc := "(Ljava/lang/String;Ljava/lang/Throwable;ZZ)V" } : Jvm.MethodName)) ∈ zALL := zin 1010 (by decide +kernel) (by decide +kernel)
theorem zw1011 : (Jvm.Cond.instanceMethod ({ cls := "java/lang/RuntimeException", name := "<init>", desc := "(Ljava/lang/String;Ljava/lang/Throwable;ZZ)V" } : Jvm.MethodName)) ∈ zALL := zin 1011 (by decide +kernel) (by decide +kernel)
theorem zw1012 : (Jvm.Cond.code ({ cls := "java/lang/RuntimeException", name := "<init>", desc := "(Ljava/lang/String;Ljava/lang/Throwable;ZZ)V" } : Jvm.MethodName) prog_19_method_5_code (5 : Nat) (Option.none : Option Jvm.ClassFile.FieldType)) ∈ zALL := zin 1012 (by decide +kernel) (by decide +kernel)
theorem zw1013 : (Jvm.Cond.methodLink "java/lang/RuntimeException" (16 : Nat) ({ cls := "java/lang/Exception", name := "<init>", desc := "(Ljava/lang/String;Ljava/lang/Throwable;ZZ)V" } : Jvm.MethodName)) ∈ zALL := zin 1013 (by decide +kernel) (by decide +kernel)
theorem zw1014 : (Jvm.Cond.instanceMethod ({ cls := "java/lang/Exception", name := "<init>", desc := "(Ljava/lang/String;Ljava/lang/Throwable;ZZ)V" } : Jvm.MethodName)) ∈ zALL := zin 1014 (by decide +kernel) (by decide +kernel)
theorem zw1015 : (Jvm.Cond.code ({ cls := "java/lang/Exception", name := "<init>", desc := "(Ljava/lang/String;Ljava/lang/Throwable;ZZ)V" } : Jvm.MethodName) prog_17_method_5_code (5 : Nat) (Option.none : Option Jvm.ClassFile.FieldType)) ∈ zALL := zin 1015 (by decide +kernel) (by decide +kernel)
theorem zw1016 : (Jvm.Cond.methodLink "java/lang/Exception" (16 : Nat) ({ cls := "java/lang/Throwable", name := "<init>", desc := "(Ljava/lang/String;Ljava/lang/Throwable;ZZ)V" } : Jvm.MethodName)) ∈ zALL := zin 1016 (by decide +kernel) (by decide +kernel)
theorem zw1017 : (Jvm.Cond.instanceMethod ({ cls := "java/lang/Throwable", name := "<init>", desc := "(Ljava/lang/String;Ljava/lang/Throwable;ZZ)V" } : Jvm.MethodName)) ∈ zALL := zin 1017 (by decide +kernel) (by decide +kernel)
theorem zw1018 : (Jvm.Cond.code ({ cls := "java/lang/Throwable", name := "<init>", desc := "(Ljava/lang/String;Ljava/lang/Throwable;ZZ)V" } : Jvm.MethodName) prog_24_method_5_code (5 : Nat) (Option.none : Option Jvm.ClassFile.FieldType)) ∈ zALL := zin 1018 (by decide +kernel) (by decide +kernel)
theorem zw1019 : (Jvm.Cond.fieldLinkNest "SaltFarmModel" (138 : Nat) "SaltFarmModel$Stop" "kind" "I" "SaltFarmModel") ∈ zNest := zinN 1019 (by decide +kernel) (by decide +kernel)
theorem zw1020 : (Jvm.Cond.fieldLinkNest "SaltFarmModel" (144 : Nat) "SaltFarmModel$Stop" "place" "I" "SaltFarmModel") ∈ zNest := zinN 1020 (by decide +kernel) (by decide +kernel)
theorem zw1021 : (Jvm.Cond.fieldLink "java/lang/Throwable" (198 : Nat) "java/lang/Throwable" "backtrace" "Ljava/lang/Object;") ∈ zALL := zin 1021 (by decide +kernel) (by decide +kernel)
theorem zw1022 : (Jvm.Cond.fieldLink "java/lang/Throwable" (31 : Nat) "java/lang/Throwable" "detailMessage" "Ljava/lang/String;") ∈ zALL := zin 1022 (by decide +kernel) (by decide +kernel)
theorem zw1023 : (Jvm.Cond.fieldLink "java/lang/Throwable" (7 : Nat) "java/lang/Throwable" "cause" "Ljava/lang/Throwable;") ∈ zALL := zin 1023 (by decide +kernel) (by decide +kernel)
theorem zw1024 : (Jvm.Cond.fieldLink "java/lang/Throwable" (17 : Nat) "java/lang/Throwable" "stackTrace" "[Ljava/lang/StackTraceElement;") ∈ zALL := zin 1024 (by decide +kernel) (by decide +kernel)
theorem zw1025 : (Jvm.Cond.fieldLink "java/lang/Throwable" (24 : Nat) "java/lang/Throwable" "suppressedExceptions" "Ljava/util/List;") ∈ zALL := zin 1025 (by decide +kernel) (by decide +kernel)
theorem zw1038 : (Jvm.Cond.fieldLink "SaltFarmModel" (100 : Nat) "SaltFarmModel" "thrown" "I") ∈ zALL := zin 1038 (by decide +kernel) (by decide +kernel)
theorem zw1039 : (Jvm.Cond.fieldLink "SaltFarmModel" (103 : Nat) "SaltFarmModel" "trouble" "I") ∈ zALL := zin 1039 (by decide +kernel) (by decide +kernel)
theorem zw1040 : (Jvm.Cond.fieldLink "SaltFarmModel" (9 : Nat) "SaltFarmModel" "where" "I") ∈ zALL := zin 1040 (by decide +kernel) (by decide +kernel)
theorem zw1041 : (Jvm.Cond.fieldLink "SaltFarmModel" (266 : Nat) "SaltFarmModel" "fault" "I") ∈ zALL := zin 1041 (by decide +kernel) (by decide +kernel)
theorem zw1042 : (Jvm.Cond.fieldLink "SaltFarmModel" (106 : Nat) "SaltFarmModel" "provinces" "I") ∈ zALL := zin 1042 (by decide +kernel) (by decide +kernel)
theorem zw1043 : (Jvm.Cond.fieldLink "SaltFarmModel" (109 : Nat) "SaltFarmModel" "borders" "I") ∈ zALL := zin 1043 (by decide +kernel) (by decide +kernel)
theorem zw1044 : (Jvm.Cond.fieldLink "SaltFarmModel" (324 : Nat) "SaltFarmModel" "year" "I") ∈ zALL := zin 1044 (by decide +kernel) (by decide +kernel)
theorem zw1045 : (Jvm.Cond.fieldLink "SaltFarmModel" (13 : Nat) "SaltFarmModel" "weight" "I") ∈ zALL := zin 1045 (by decide +kernel) (by decide +kernel)
theorem zw1046 : (Jvm.Cond.fieldLink "SaltFarmModel" (16 : Nat) "SaltFarmModel" "mouths" "[I") ∈ zALL := zin 1046 (by decide +kernel) (by decide +kernel)
theorem zw1047 : (Jvm.Cond.fieldLink "SaltFarmModel" (20 : Nat) "SaltFarmModel" "need" "[I") ∈ zALL := zin 1047 (by decide +kernel) (by decide +kernel)
theorem zw1048 : (Jvm.Cond.fieldLink "SaltFarmModel" (23 : Nat) "SaltFarmModel" "one" "[I") ∈ zALL := zin 1048 (by decide +kernel) (by decide +kernel)
theorem zw1049 : (Jvm.Cond.fieldLink "SaltFarmModel" (26 : Nat) "SaltFarmModel" "other" "[I") ∈ zALL := zin 1049 (by decide +kernel) (by decide +kernel)
theorem zw1050 : (Jvm.Cond.fieldLink "SaltFarmModel" (29 : Nat) "SaltFarmModel" "risk" "[I") ∈ zALL := zin 1050 (by decide +kernel) (by decide +kernel)
theorem zw1051 : (Jvm.Cond.fieldLink "SaltFarmModel" (32 : Nat) "SaltFarmModel" "guards" "[I") ∈ zALL := zin 1051 (by decide +kernel) (by decide +kernel)
theorem zw1052 : (Jvm.Cond.fieldLink "SaltFarmModel" (272 : Nat) "SaltFarmModel" "edicts" "I") ∈ zALL := zin 1052 (by decide +kernel) (by decide +kernel)
theorem zw1053 : (Jvm.Cond.fieldLink "SaltFarmModel" (37 : Nat) "SaltFarmModel" "edict" "[LSaltFarmModel$Edict;") ∈ zALL := zin 1053 (by decide +kernel) (by decide +kernel)
theorem zw1054 : (Jvm.Cond.fieldLink "SaltFarmModel" (42 : Nat) "SaltFarmModel" "spare" "LSaltFarmModel$Edict;") ∈ zALL := zin 1054 (by decide +kernel) (by decide +kernel)
theorem zw1055 : (Jvm.Cond.fieldLink "SaltFarmModel" (49 : Nat) "SaltFarmModel" "stop" "LSaltFarmModel$Stop;") ∈ zALL := zin 1055 (by decide +kernel) (by decide +kernel)
theorem zw1056 : (Jvm.Cond.fieldLink "SaltFarmModel" (53 : Nat) "SaltFarmModel" "tape" "[B") ∈ zALL := zin 1056 (by decide +kernel) (by decide +kernel)
theorem zw1057 : (Jvm.Cond.fieldLink "SaltFarmModel" (263 : Nat) "SaltFarmModel" "taped" "I") ∈ zALL := zin 1057 (by decide +kernel) (by decide +kernel)
theorem zw1058 : (Jvm.Cond.fieldLink "SaltFarmModel" (145 : Nat) "SaltFarmModel" "size" "I") ∈ zALL := zin 1058 (by decide +kernel) (by decide +kernel)
theorem zw1059 : (Jvm.Cond.fieldLink "SaltFarmModel" (160 : Nat) "SaltFarmModel" "at" "I") ∈ zALL := zin 1059 (by decide +kernel) (by decide +kernel)
theorem zw1060 : (Jvm.Cond.fieldLink "SaltFarmModel" (166 : Nat) "SaltFarmModel" "sort" "I") ∈ zALL := zin 1060 (by decide +kernel) (by decide +kernel)
theorem zw1061 : (Jvm.Cond.fieldLink "SaltFarmModel" (141 : Nat) "SaltFarmModel" "place" "I") ∈ zALL := zin 1061 (by decide +kernel) (by decide +kernel)
theorem zw1062 : (Jvm.Cond.fieldLink "SaltFarmModel" (169 : Nat) "SaltFarmModel" "mark" "I") ∈ zALL := zin 1062 (by decide +kernel) (by decide +kernel)
theorem zw1063 : (Jvm.Cond.fieldLink "SaltFarmModel" (182 : Nat) "SaltFarmModel" "number" "I") ∈ zALL := zin 1063 (by decide +kernel) (by decide +kernel)
theorem zw1064 : (Jvm.Cond.fieldLink "SaltFarmModel" (216 : Nat) "SaltFarmModel" "deep" "I") ∈ zALL := zin 1064 (by decide +kernel) (by decide +kernel)
theorem zw1065 : (Jvm.Cond.fieldLink "SaltFarmModel" (219 : Nat) "SaltFarmModel" "signs" "I") ∈ zALL := zin 1065 (by decide +kernel) (by decide +kernel)
theorem zw1066 : (Jvm.Cond.fieldLink "SaltFarmModel" (175 : Nat) "SaltFarmModel" "word" "J") ∈ zALL := zin 1066 (by decide +kernel) (by decide +kernel)
theorem zw1067 : (Jvm.Cond.fieldLink "SaltFarmModel" (57 : Nat) "SaltFarmModel" "pile" "[I") ∈ zALL := zin 1067 (by decide +kernel) (by decide +kernel)
theorem zw1068 : (Jvm.Cond.fieldLink "SaltFarmModel" (60 : Nat) "SaltFarmModel" "price" "[I") ∈ zALL := zin 1068 (by decide +kernel) (by decide +kernel)
theorem zw1069 : (Jvm.Cond.fieldLink "SaltFarmModel" (63 : Nat) "SaltFarmModel" "duty" "[I") ∈ zALL := zin 1069 (by decide +kernel) (by decide +kernel)
theorem zw1070 : (Jvm.Cond.fieldLink "SaltFarmModel" (66 : Nat) "SaltFarmModel" "far" "[I") ∈ zALL := zin 1070 (by decide +kernel) (by decide +kernel)
theorem zw1071 : (Jvm.Cond.fieldLink "SaltFarmModel" (69 : Nat) "SaltFarmModel" "source" "[I") ∈ zALL := zin 1071 (by decide +kernel) (by decide +kernel)
theorem zw1072 : (Jvm.Cond.fieldLink "SaltFarmModel" (72 : Nat) "SaltFarmModel" "way" "[I") ∈ zALL := zin 1072 (by decide +kernel) (by decide +kernel)
theorem zw1073 : (Jvm.Cond.fieldLink "SaltFarmModel" (352 : Nat) "SaltFarmModel" "wayMany" "I") ∈ zALL := zin 1073 (by decide +kernel) (by decide +kernel)
theorem zw1074 : (Jvm.Cond.fieldLink "SaltFarmModel" (75 : Nat) "SaltFarmModel" "tried" "[I") ∈ zALL := zin 1074 (by decide +kernel) (by decide +kernel)
theorem zw1075 : (Jvm.Cond.fieldLink "SaltFarmModel" (78 : Nat) "SaltFarmModel" "best" "[I") ∈ zALL := zin 1075 (by decide +kernel) (by decide +kernel)
theorem zw1076 : (Jvm.Cond.fieldLink "SaltFarmModel" (358 : Nat) "SaltFarmModel" "bestSum" "J") ∈ zALL := zin 1076 (by decide +kernel) (by decide +kernel)
theorem zw1077 : (Jvm.Cond.fieldLink "SaltFarmModel" (364 : Nat) "SaltFarmModel" "stands" "I") ∈ zALL := zin 1077 (by decide +kernel) (by decide +kernel)
theorem zw1078 : (Jvm.Cond.fieldLink "SaltFarmModel" (367 : Nat) "SaltFarmModel" "stores" "I") ∈ zALL := zin 1078 (by decide +kernel) (by decide +kernel)
theorem zw1079 : (Jvm.Cond.fieldLink "SaltFarmModel" (81 : Nat) "SaltFarmModel" "had" "[I") ∈ zALL := zin 1079 (by decide +kernel) (by decide +kernel)
theorem zw1080 : (Jvm.Cond.fieldLink "SaltFarmModel" (84 : Nat) "SaltFarmModel" "came" "[I") ∈ zALL := zin 1080 (by decide +kernel) (by decide +kernel)
theorem zw1081 : (Jvm.Cond.fieldLink "SaltFarmModel" (87 : Nat) "SaltFarmModel" "sold" "[I") ∈ zALL := zin 1081 (by decide +kernel) (by decide +kernel)
theorem zw1082 : (Jvm.Cond.fieldLink "SaltFarmModel" (90 : Nat) "SaltFarmModel" "counted" "[I") ∈ zALL := zin 1082 (by decide +kernel) (by decide +kernel)
theorem zw1083 : (Jvm.Cond.fieldLink "SaltFarmModel" (93 : Nat) "SaltFarmModel" "storeIn" "[I") ∈ zALL := zin 1083 (by decide +kernel) (by decide +kernel)
theorem zw1084 : (Jvm.Cond.fieldLink "SaltFarmModel" (96 : Nat) "SaltFarmModel" "missing" "[J") ∈ zALL := zin 1084 (by decide +kernel) (by decide +kernel)
theorem zw1180 : (Jvm.Cond.methodLink "SaltFarmLaw" (17 : Nat) ({ cls := "SaltFarmModel", name := "province", desc := "(II)I" } : Jvm.MethodName)) ∈ zALL := zin 1180 (by decide +kernel) (by decide +kernel)
theorem zw1181 : (Jvm.Cond.instanceMethod ({ cls := "SaltFarmModel", name := "province", desc := "(II)I" } : Jvm.MethodName)) ∈ zALL := zin 1181 (by decide +kernel) (by decide +kernel)
theorem zw1182 : (Jvm.Cond.selects "SaltFarmModel" ({ cls := "SaltFarmModel", name := "province", desc := "(II)I" } : Jvm.MethodName) ({ cls := "SaltFarmModel", name := "province", desc := "(II)I" } : Jvm.MethodName)) ∈ zALL := zin 1182 (by decide +kernel) (by decide +kernel)
theorem zw1183 : (Jvm.Cond.code ({ cls := "SaltFarmModel", name := "province", desc := "(II)I" } : Jvm.MethodName) prog_14_method_10_code (3 : Nat) (Option.some Jvm.ClassFile.FieldType.int)) ∈ zALL := zin 1183 (by decide +kernel) (by decide +kernel)
theorem zw1184 : (Jvm.Cond.constant "SaltFarmModel" (112 : Nat) (100000 : Int32)) ∈ zALL := zin 1184 (by decide +kernel) (by decide +kernel)
theorem zw1185 : (Jvm.Cond.methodLink "SaltFarmModel" (113 : Nat) ({ cls := "SaltFarmModel", name := "in", desc := "(III)Z" } : Jvm.MethodName)) ∈ zALL := zin 1185 (by decide +kernel) (by decide +kernel)
theorem zw1186 : (Jvm.Cond.static ({ cls := "SaltFarmModel", name := "in", desc := "(III)Z" } : Jvm.MethodName)) ∈ zALL := zin 1186 (by decide +kernel) (by decide +kernel)
theorem zw1187 : (Jvm.Cond.code ({ cls := "SaltFarmModel", name := "in", desc := "(III)Z" } : Jvm.MethodName) prog_14_method_7_code (3 : Nat) (Option.some Jvm.ClassFile.FieldType.boolean)) ∈ zALL := zin 1187 (by decide +kernel) (by decide +kernel)
theorem zw1188 : (Jvm.Cond.methodLink "SaltFarmModel" (117 : Nat) ({ cls := "SaltFarmModel", name := "refused", desc := "(I)I" } : Jvm.MethodName)) ∈ zALL := zin 1188 (by decide +kernel) (by decide +kernel)
theorem zw1190 : (Jvm.Cond.instanceMethod ({ cls := "SaltFarmModel", name := "refused", desc := "(I)I" } : Jvm.MethodName)) ∈ zALL := zin 1190 (by decide +kernel) (by decide +kernel)
theorem zw1191 : (Jvm.Cond.code ({ cls := "SaltFarmModel", name := "refused", desc := "(I)I" } : Jvm.MethodName) prog_14_method_3_code (2 : Nat) (Option.some Jvm.ClassFile.FieldType.int)) ∈ zALL := zin 1191 (by decide +kernel) (by decide +kernel)
theorem zw1192 : (Jvm.Cond.methodLink "SaltFarmModel" (121 : Nat) ({ cls := "SaltFarmModel", name := "done", desc := "(I)I" } : Jvm.MethodName)) ∈ zALL := zin 1192 (by decide +kernel) (by decide +kernel)
theorem zw1194 : (Jvm.Cond.instanceMethod ({ cls := "SaltFarmModel", name := "done", desc := "(I)I" } : Jvm.MethodName)) ∈ zALL := zin 1194 (by decide +kernel) (by decide +kernel)
theorem zw1195 : (Jvm.Cond.code ({ cls := "SaltFarmModel", name := "done", desc := "(I)I" } : Jvm.MethodName) prog_14_method_5_code (2 : Nat) (Option.some Jvm.ClassFile.FieldType.int)) ∈ zALL := zin 1195 (by decide +kernel) (by decide +kernel)
theorem zw1196 : (Jvm.Cond.methodLink "SaltFarmLaw" (22 : Nat) ({ cls := "SaltFarmModel", name := "people", desc := "(III)Z" } : Jvm.MethodName)) ∈ zALL := zin 1196 (by decide +kernel) (by decide +kernel)
theorem zw1197 : (Jvm.Cond.instanceMethod ({ cls := "SaltFarmModel", name := "people", desc := "(III)Z" } : Jvm.MethodName)) ∈ zALL := zin 1197 (by decide +kernel) (by decide +kernel)
theorem zw1198 : (Jvm.Cond.selects "SaltFarmModel" ({ cls := "SaltFarmModel", name := "people", desc := "(III)Z" } : Jvm.MethodName) ({ cls := "SaltFarmModel", name := "people", desc := "(III)Z" } : Jvm.MethodName)) ∈ zALL := zin 1198 (by decide +kernel) (by decide +kernel)
theorem zw1199 : (Jvm.Cond.code ({ cls := "SaltFarmModel", name := "people", desc := "(III)Z" } : Jvm.MethodName) prog_14_method_11_code (4 : Nat) (Option.some Jvm.ClassFile.FieldType.boolean)) ∈ zALL := zin 1199 (by decide +kernel) (by decide +kernel)
theorem zw1200 : (Jvm.Cond.methodLink "SaltFarmModel" (124 : Nat) ({ cls := "SaltFarmModel", name := "isProvince", desc := "(I)Z" } : Jvm.MethodName)) ∈ zALL := zin 1200 (by decide +kernel) (by decide +kernel)
theorem zw1202 : (Jvm.Cond.instanceMethod ({ cls := "SaltFarmModel", name := "isProvince", desc := "(I)Z" } : Jvm.MethodName)) ∈ zALL := zin 1202 (by decide +kernel) (by decide +kernel)
theorem zw1203 : (Jvm.Cond.code ({ cls := "SaltFarmModel", name := "isProvince", desc := "(I)Z" } : Jvm.MethodName) prog_14_method_8_code (2 : Nat) (Option.some Jvm.ClassFile.FieldType.boolean)) ∈ zALL := zin 1203 (by decide +kernel) (by decide +kernel)
theorem zw1204 : (Jvm.Cond.methodLink "SaltFarmModel" (128 : Nat) ({ cls := "SaltFarmModel", name := "denied", desc := "(I)Z" } : Jvm.MethodName)) ∈ zALL := zin 1204 (by decide +kernel) (by decide +kernel)
theorem zw1206 : (Jvm.Cond.instanceMethod ({ cls := "SaltFarmModel", name := "denied", desc := "(I)Z" } : Jvm.MethodName)) ∈ zALL := zin 1206 (by decide +kernel) (by decide +kernel)
theorem zw1207 : (Jvm.Cond.code ({ cls := "SaltFarmModel", name := "denied", desc := "(I)Z" } : Jvm.MethodName) prog_14_method_4_code (2 : Nat) (Option.some Jvm.ClassFile.FieldType.boolean)) ∈ zALL := zin 1207 (by decide +kernel) (by decide +kernel)
theorem zw1208 : (Jvm.Cond.methodLink "SaltFarmModel" (131 : Nat) ({ cls := "SaltFarmModel", name := "granted", desc := "()Z" } : Jvm.MethodName)) ∈ zALL := zin 1208 (by decide +kernel) (by decide +kernel)
theorem zw1210 : (Jvm.Cond.instanceMethod ({ cls := "SaltFarmModel", name := "granted", desc := "()Z" } : Jvm.MethodName)) ∈ zALL := zin 1210 (by decide +kernel) (by decide +kernel)
theorem zw1211 : (Jvm.Cond.code ({ cls := "SaltFarmModel", name := "granted", desc := "()Z" } : Jvm.MethodName) prog_14_method_6_code (1 : Nat) (Option.some Jvm.ClassFile.FieldType.boolean)) ∈ zALL := zin 1211 (by decide +kernel) (by decide +kernel)
theorem zw1212 : (Jvm.Cond.methodLink "SaltFarmLaw" (27 : Nat) ({ cls := "SaltFarmModel", name := "border", desc := "(III)I" } : Jvm.MethodName)) ∈ zALL := zin 1212 (by decide +kernel) (by decide +kernel)
theorem zw1213 : (Jvm.Cond.instanceMethod ({ cls := "SaltFarmModel", name := "border", desc := "(III)I" } : Jvm.MethodName)) ∈ zALL := zin 1213 (by decide +kernel) (by decide +kernel)
theorem zw1214 : (Jvm.Cond.selects "SaltFarmModel" ({ cls := "SaltFarmModel", name := "border", desc := "(III)I" } : Jvm.MethodName) ({ cls := "SaltFarmModel", name := "border", desc := "(III)I" } : Jvm.MethodName)) ∈ zALL := zin 1214 (by decide +kernel) (by decide +kernel)
theorem zw1215 : (Jvm.Cond.code ({ cls := "SaltFarmModel", name := "border", desc := "(III)I" } : Jvm.MethodName) prog_14_method_12_code (4 : Nat) (Option.some Jvm.ClassFile.FieldType.int)) ∈ zALL := zin 1215 (by decide +kernel) (by decide +kernel)
theorem zw1216 : (Jvm.Cond.methodLink "SaltFarmLaw" (32 : Nat) ({ cls := "SaltFarmModel", name := "guard", desc := "(II)Z" } : Jvm.MethodName)) ∈ zALL := zin 1216 (by decide +kernel) (by decide +kernel)
theorem zw1217 : (Jvm.Cond.instanceMethod ({ cls := "SaltFarmModel", name := "guard", desc := "(II)Z" } : Jvm.MethodName)) ∈ zALL := zin 1217 (by decide +kernel) (by decide +kernel)
theorem zw1218 : (Jvm.Cond.selects "SaltFarmModel" ({ cls := "SaltFarmModel", name := "guard", desc := "(II)Z" } : Jvm.MethodName) ({ cls := "SaltFarmModel", name := "guard", desc := "(II)Z" } : Jvm.MethodName)) ∈ zALL := zin 1218 (by decide +kernel) (by decide +kernel)
theorem zw1219 : (Jvm.Cond.code ({ cls := "SaltFarmModel", name := "guard", desc := "(II)Z" } : Jvm.MethodName) prog_14_method_13_code (3 : Nat) (Option.some Jvm.ClassFile.FieldType.boolean)) ∈ zALL := zin 1219 (by decide +kernel) (by decide +kernel)
theorem zw1220 : (Jvm.Cond.methodLink "SaltFarmModel" (135 : Nat) ({ cls := "SaltFarmModel", name := "isBorder", desc := "(I)Z" } : Jvm.MethodName)) ∈ zALL := zin 1220 (by decide +kernel) (by decide +kernel)
theorem zw1222 : (Jvm.Cond.instanceMethod ({ cls := "SaltFarmModel", name := "isBorder", desc := "(I)Z" } : Jvm.MethodName)) ∈ zALL := zin 1222 (by decide +kernel) (by decide +kernel)
theorem zw1223 : (Jvm.Cond.code ({ cls := "SaltFarmModel", name := "isBorder", desc := "(I)Z" } : Jvm.MethodName) prog_14_method_9_code (2 : Nat) (Option.some Jvm.ClassFile.FieldType.boolean)) ∈ zALL := zin 1223 (by decide +kernel) (by decide +kernel)
theorem zw1224 : (Jvm.Cond.methodLink "SaltFarmLaw" (37 : Nat) ({ cls := "SaltFarmModel", name := "weight", desc := "(I)Z" } : Jvm.MethodName)) ∈ zALL := zin 1224 (by decide +kernel) (by decide +kernel)
theorem zw1225 : (Jvm.Cond.instanceMethod ({ cls := "SaltFarmModel", name := "weight", desc := "(I)Z" } : Jvm.MethodName)) ∈ zALL := zin 1225 (by decide +kernel) (by decide +kernel)
theorem zw1226 : (Jvm.Cond.selects "SaltFarmModel" ({ cls := "SaltFarmModel", name := "weight", desc := "(I)Z" } : Jvm.MethodName) ({ cls := "SaltFarmModel", name := "weight", desc := "(I)Z" } : Jvm.MethodName)) ∈ zALL := zin 1226 (by decide +kernel) (by decide +kernel)
theorem zw1227 : (Jvm.Cond.code ({ cls := "SaltFarmModel", name := "weight", desc := "(I)Z" } : Jvm.MethodName) prog_14_method_14_code (2 : Nat) (Option.some Jvm.ClassFile.FieldType.boolean)) ∈ zALL := zin 1227 (by decide +kernel) (by decide +kernel)
theorem zw1228 : (Jvm.Cond.methodLink "SaltFarmLaw" (42 : Nat) ({ cls := "SaltFarmModel", name := "feed", desc := "(IIIII)I" } : Jvm.MethodName)) ∈ zALL := zin 1228 (by decide +kernel) (by decide +kernel)
theorem zw1229 : (Jvm.Cond.instanceMethod ({ cls := "SaltFarmModel", name := "feed", desc := "(IIIII)I" } : Jvm.MethodName)) ∈ zALL := zin 1229 (by decide +kernel) (by decide +kernel)
theorem zw1230 : (Jvm.Cond.selects "SaltFarmModel" ({ cls := "SaltFarmModel", name := "feed", desc := "(IIIII)I" } : Jvm.MethodName) ({ cls := "SaltFarmModel", name := "feed", desc := "(IIIII)I" } : Jvm.MethodName)) ∈ zALL := zin 1230 (by decide +kernel) (by decide +kernel)
theorem zw1231 : (Jvm.Cond.code ({ cls := "SaltFarmModel", name := "feed", desc := "(IIIII)I" } : Jvm.MethodName) prog_14_method_30_code (8 : Nat) (Option.some Jvm.ClassFile.FieldType.int)) ∈ zALL := zin 1231 (by decide +kernel) (by decide +kernel)
theorem zw1232 : (Jvm.Cond.methodLink "SaltFarmLaw" (46 : Nat) ({ cls := "SaltFarmModel", name := "edict", desc := "(III)I" } : Jvm.MethodName)) ∈ zALL := zin 1232 (by decide +kernel) (by decide +kernel)
theorem zw1233 : (Jvm.Cond.instanceMethod ({ cls := "SaltFarmModel", name := "edict", desc := "(III)I" } : Jvm.MethodName)) ∈ zALL := zin 1233 (by decide +kernel) (by decide +kernel)
theorem zw1234 : (Jvm.Cond.selects "SaltFarmModel" ({ cls := "SaltFarmModel", name := "edict", desc := "(III)I" } : Jvm.MethodName) ({ cls := "SaltFarmModel", name := "edict", desc := "(III)I" } : Jvm.MethodName)) ∈ zALL := zin 1234 (by decide +kernel) (by decide +kernel)
theorem zw1235 : (Jvm.Cond.codeWith ({ cls := "SaltFarmModel", name := "edict", desc := "(III)I" } : Jvm.MethodName) prog_14_method_31_code (5 : Nat) (Option.some Jvm.ClassFile.FieldType.int) [((67 : Nat), (71 : Nat), (74 : Nat), (46 : Nat))]) ∈ zALL := zin 1235 (by decide +kernel) (by decide +kernel)
theorem zw1236 : (Jvm.Cond.methodLink "SaltFarmModel" (269 : Nat) ({ cls := "SaltFarmModel", name := "reads", desc := "()V" } : Jvm.MethodName)) ∈ zALL := zin 1236 (by decide +kernel) (by decide +kernel)
theorem zw1238 : (Jvm.Cond.instanceMethod ({ cls := "SaltFarmModel", name := "reads", desc := "()V" } : Jvm.MethodName)) ∈ zALL := zin 1238 (by decide +kernel) (by decide +kernel)
theorem zw1239 : (Jvm.Cond.code ({ cls := "SaltFarmModel", name := "reads", desc := "()V" } : Jvm.MethodName) prog_14_method_24_code (4 : Nat) (Option.none : Option Jvm.ClassFile.FieldType)) ∈ zALL := zin 1239 (by decide +kernel) (by decide +kernel)
theorem zw1240 : (Jvm.Cond.methodLink "SaltFarmModel" (222 : Nat) ({ cls := "SaltFarmModel", name := "next", desc := "()V" } : Jvm.MethodName)) ∈ zALL := zin 1240 (by decide +kernel) (by decide +kernel)
theorem zw1242 : (Jvm.Cond.instanceMethod ({ cls := "SaltFarmModel", name := "next", desc := "()V" } : Jvm.MethodName)) ∈ zALL := zin 1242 (by decide +kernel) (by decide +kernel)
theorem zw1243 : (Jvm.Cond.code ({ cls := "SaltFarmModel", name := "next", desc := "()V" } : Jvm.MethodName) prog_14_method_20_code (3 : Nat) (Option.none : Option Jvm.ClassFile.FieldType)) ∈ zALL := zin 1243 (by decide +kernel) (by decide +kernel)
theorem zw1244 : (Jvm.Cond.methodLink "SaltFarmModel" (163 : Nat) ({ cls := "SaltFarmModel", name := "byteAt", desc := "(I)I" } : Jvm.MethodName)) ∈ zALL := zin 1244 (by decide +kernel) (by decide +kernel)
theorem zw1246 : (Jvm.Cond.instanceMethod ({ cls := "SaltFarmModel", name := "byteAt", desc := "(I)I" } : Jvm.MethodName)) ∈ zALL := zin 1246 (by decide +kernel) (by decide +kernel)
theorem zw1247 : (Jvm.Cond.code ({ cls := "SaltFarmModel", name := "byteAt", desc := "(I)I" } : Jvm.MethodName) prog_14_method_16_code (2 : Nat) (Option.some Jvm.ClassFile.FieldType.int)) ∈ zALL := zin 1247 (by decide +kernel) (by decide +kernel)
theorem zw1248 : (Jvm.Cond.methodLink "SaltFarmModel" (172 : Nat) ({ cls := "SaltFarmModel", name := "isLetter", desc := "(I)Z" } : Jvm.MethodName)) ∈ zALL := zin 1248 (by decide +kernel) (by decide +kernel)
theorem zw1249 : (Jvm.Cond.static ({ cls := "SaltFarmModel", name := "isLetter", desc := "(I)Z" } : Jvm.MethodName)) ∈ zALL := zin 1249 (by decide +kernel) (by decide +kernel)
theorem zw1250 : (Jvm.Cond.code ({ cls := "SaltFarmModel", name := "isLetter", desc := "(I)Z" } : Jvm.MethodName) prog_14_method_17_code (1 : Nat) (Option.some Jvm.ClassFile.FieldType.boolean)) ∈ zALL := zin 1250 (by decide +kernel) (by decide +kernel)
theorem zw1251 : (Jvm.Cond.constantLong "SaltFarmModel" (154 : Nat) (32 : Int64)) ∈ zALL := zin 1251 (by decide +kernel) (by decide +kernel)
theorem zw1252 : (Jvm.Cond.methodLink "SaltFarmModel" (179 : Nat) ({ cls := "SaltFarmModel", name := "isDigit", desc := "(I)Z" } : Jvm.MethodName)) ∈ zALL := zin 1252 (by decide +kernel) (by decide +kernel)
theorem zw1253 : (Jvm.Cond.static ({ cls := "SaltFarmModel", name := "isDigit", desc := "(I)Z" } : Jvm.MethodName)) ∈ zALL := zin 1253 (by decide +kernel) (by decide +kernel)
theorem zw1254 : (Jvm.Cond.code ({ cls := "SaltFarmModel", name := "isDigit", desc := "(I)Z" } : Jvm.MethodName) prog_14_method_18_code (1 : Nat) (Option.some Jvm.ClassFile.FieldType.boolean)) ∈ zALL := zin 1254 (by decide +kernel) (by decide +kernel)
theorem zw1256 : (Jvm.Cond.methodLink "SaltFarmModel" (190 : Nat) ({ cls := "SaltFarmModel", name := "isWord", desc := "(Ljava/lang/String;)Z" } : Jvm.MethodName)) ∈ zALL := zin 1256 (by decide +kernel) (by decide +kernel)
theorem zw1258 : (Jvm.Cond.instanceMethod ({ cls := "SaltFarmModel", name := "isWord", desc := "(Ljava/lang/String;)Z" } : Jvm.MethodName)) ∈ zALL := zin 1258 (by decide +kernel) (by decide +kernel)
theorem zw1259 : (Jvm.Cond.code ({ cls := "SaltFarmModel", name := "isWord", desc := "(Ljava/lang/String;)Z" } : Jvm.MethodName) prog_14_method_21_code (2 : Nat) (Option.some Jvm.ClassFile.FieldType.boolean)) ∈ zALL := zin 1259 (by decide +kernel) (by decide +kernel)
theorem zw1260 : (Jvm.Cond.methodLink "SaltFarmModel" (185 : Nat) ({ cls := "SaltFarmModel", name := "wordOf", desc := "(Ljava/lang/String;)J" } : Jvm.MethodName)) ∈ zALL := zin 1260 (by decide +kernel) (by decide +kernel)
theorem zw1261 : (Jvm.Cond.static ({ cls := "SaltFarmModel", name := "wordOf", desc := "(Ljava/lang/String;)J" } : Jvm.MethodName)) ∈ zALL := zin 1261 (by decide +kernel) (by decide +kernel)
theorem zw1262 : (Jvm.Cond.code ({ cls := "SaltFarmModel", name := "wordOf", desc := "(Ljava/lang/String;)J" } : Jvm.MethodName) prog_14_method_19_code (4 : Nat) (Option.some Jvm.ClassFile.FieldType.long)) ∈ zALL := zin 1262 (by decide +kernel) (by decide +kernel)
theorem zw1263 : (Jvm.Cond.methodLink "SaltFarmModel" (148 : Nat) ({ cls := "java/lang/String", name := "length", desc := "()I" } : Jvm.MethodName)) ∈ zALL := zin 1263 (by decide +kernel) (by decide +kernel)
theorem zw1264 : (Jvm.Cond.methodLink "SaltFarmModel" (156 : Nat) ({ cls := "java/lang/String", name := "charAt", desc := "(I)C" } : Jvm.MethodName)) ∈ zALL := zin 1264 (by decide +kernel) (by decide +kernel)
theorem zw1266 : (Jvm.Cond.methodLink "SaltFarmModel" (201 : Nat) ({ cls := "SaltFarmModel", name := "stop", desc := "(I)LSaltFarmModel$Stop;" } : Jvm.MethodName)) ∈ zALL := zin 1266 (by decide +kernel) (by decide +kernel)
theorem zw1268 : (Jvm.Cond.instanceMethod ({ cls := "SaltFarmModel", name := "stop", desc := "(I)LSaltFarmModel$Stop;" } : Jvm.MethodName)) ∈ zALL := zin 1268 (by decide +kernel) (by decide +kernel)
theorem zw1269 : (Jvm.Cond.code ({ cls := "SaltFarmModel", name := "stop", desc := "(I)LSaltFarmModel$Stop;" } : Jvm.MethodName) prog_14_method_15_code (2 : Nat) (Option.some (Jvm.ClassFile.FieldType.object "SaltFarmModel$Stop"))) ∈ zALL := zin 1269 (by decide +kernel) (by decide +kernel)
theorem zw1271 : (Jvm.Cond.methodLink "SaltFarmModel" (235 : Nat) ({ cls := "SaltFarmModel", name := "readTest", desc := "(I)V" } : Jvm.MethodName)) ∈ zALL := zin 1271 (by decide +kernel) (by decide +kernel)
theorem zw1273 : (Jvm.Cond.instanceMethod ({ cls := "SaltFarmModel", name := "readTest", desc := "(I)V" } : Jvm.MethodName)) ∈ zALL := zin 1273 (by decide +kernel) (by decide +kernel)
theorem zw1274 : (Jvm.Cond.code ({ cls := "SaltFarmModel", name := "readTest", desc := "(I)V" } : Jvm.MethodName) prog_14_method_25_code (3 : Nat) (Option.none : Option Jvm.ClassFile.FieldType)) ∈ zALL := zin 1274 (by decide +kernel) (by decide +kernel)
theorem zw1275 : (Jvm.Cond.methodLink "SaltFarmModel" (245 : Nat) ({ cls := "SaltFarmModel", name := "is", desc := "(I)Z" } : Jvm.MethodName)) ∈ zALL := zin 1275 (by decide +kernel) (by decide +kernel)
theorem zw1277 : (Jvm.Cond.instanceMethod ({ cls := "SaltFarmModel", name := "is", desc := "(I)Z" } : Jvm.MethodName)) ∈ zALL := zin 1277 (by decide +kernel) (by decide +kernel)
theorem zw1278 : (Jvm.Cond.code ({ cls := "SaltFarmModel", name := "is", desc := "(I)Z" } : Jvm.MethodName) prog_14_method_22_code (2 : Nat) (Option.some Jvm.ClassFile.FieldType.boolean)) ∈ zALL := zin 1278 (by decide +kernel) (by decide +kernel)
theorem zw1279 : (Jvm.Cond.methodLink "SaltFarmModel" (247 : Nat) ({ cls := "SaltFarmModel", name := "nameHere", desc := "()I" } : Jvm.MethodName)) ∈ zALL := zin 1279 (by decide +kernel) (by decide +kernel)
theorem zw1281 : (Jvm.Cond.instanceMethod ({ cls := "SaltFarmModel", name := "nameHere", desc := "()I" } : Jvm.MethodName)) ∈ zALL := zin 1281 (by decide +kernel) (by decide +kernel)
theorem zw1282 : (Jvm.Cond.code ({ cls := "SaltFarmModel", name := "nameHere", desc := "()I" } : Jvm.MethodName) prog_14_method_23_code (2 : Nat) (Option.some Jvm.ClassFile.FieldType.int)) ∈ zALL := zin 1282 (by decide +kernel) (by decide +kernel)
theorem zw1289 : (Jvm.Cond.methodLink "SaltFarmModel" (239 : Nat) ({ cls := "SaltFarmModel", name := "readSum", desc := "()V" } : Jvm.MethodName)) ∈ zALL := zin 1289 (by decide +kernel) (by decide +kernel)
theorem zw1291 : (Jvm.Cond.instanceMethod ({ cls := "SaltFarmModel", name := "readSum", desc := "()V" } : Jvm.MethodName)) ∈ zALL := zin 1291 (by decide +kernel) (by decide +kernel)
theorem zw1292 : (Jvm.Cond.code ({ cls := "SaltFarmModel", name := "readSum", desc := "()V" } : Jvm.MethodName) prog_14_method_27_code (2 : Nat) (Option.none : Option Jvm.ClassFile.FieldType)) ∈ zALL := zin 1292 (by decide +kernel) (by decide +kernel)
theorem zw1293 : (Jvm.Cond.methodLink "SaltFarmModel" (254 : Nat) ({ cls := "SaltFarmModel", name := "readTerm", desc := "()V" } : Jvm.MethodName)) ∈ zALL := zin 1293 (by decide +kernel) (by decide +kernel)
theorem zw1295 : (Jvm.Cond.instanceMethod ({ cls := "SaltFarmModel", name := "readTerm", desc := "()V" } : Jvm.MethodName)) ∈ zALL := zin 1295 (by decide +kernel) (by decide +kernel)
theorem zw1296 : (Jvm.Cond.code ({ cls := "SaltFarmModel", name := "readTerm", desc := "()V" } : Jvm.MethodName) prog_14_method_28_code (2 : Nat) (Option.none : Option Jvm.ClassFile.FieldType)) ∈ zALL := zin 1296 (by decide +kernel) (by decide +kernel)
theorem zw1297 : (Jvm.Cond.methodLink "SaltFarmModel" (260 : Nat) ({ cls := "SaltFarmModel", name := "readOne", desc := "()V" } : Jvm.MethodName)) ∈ zALL := zin 1297 (by decide +kernel) (by decide +kernel)
theorem zw1299 : (Jvm.Cond.instanceMethod ({ cls := "SaltFarmModel", name := "readOne", desc := "()V" } : Jvm.MethodName)) ∈ zALL := zin 1299 (by decide +kernel) (by decide +kernel)
theorem zw1300 : (Jvm.Cond.code ({ cls := "SaltFarmModel", name := "readOne", desc := "()V" } : Jvm.MethodName) prog_14_method_29_code (1 : Nat) (Option.none : Option Jvm.ClassFile.FieldType)) ∈ zALL := zin 1300 (by decide +kernel) (by decide +kernel)
theorem zw1301 : (Jvm.Cond.methodLink "SaltFarmModel" (250 : Nat) ({ cls := "SaltFarmModel$Edict", name := "put", desc := "(II)V" } : Jvm.MethodName)) ∈ zALL := zin 1301 (by decide +kernel) (by decide +kernel)
theorem zw1302 : (Jvm.Cond.instanceMethod ({ cls := "SaltFarmModel$Edict", name := "put", desc := "(II)V" } : Jvm.MethodName)) ∈ zALL := zin 1302 (by decide +kernel) (by decide +kernel)
theorem zw1303 : (Jvm.Cond.selects "SaltFarmModel$Edict" ({ cls := "SaltFarmModel$Edict", name := "put", desc := "(II)V" } : Jvm.MethodName) ({ cls := "SaltFarmModel$Edict", name := "put", desc := "(II)V" } : Jvm.MethodName)) ∈ zALL := zin 1303 (by decide +kernel) (by decide +kernel)
theorem zw1304 : (Jvm.Cond.code ({ cls := "SaltFarmModel$Edict", name := "put", desc := "(II)V" } : Jvm.MethodName) prog_15_method_2_code (3 : Nat) (Option.none : Option Jvm.ClassFile.FieldType)) ∈ zALL := zin 1304 (by decide +kernel) (by decide +kernel)
theorem zw1305 : (Jvm.Cond.methodLink "SaltFarmModel" (257 : Nat) ({ cls := "SaltFarmModel", name := "sign", desc := "()V" } : Jvm.MethodName)) ∈ zALL := zin 1305 (by decide +kernel) (by decide +kernel)
theorem zw1307 : (Jvm.Cond.instanceMethod ({ cls := "SaltFarmModel", name := "sign", desc := "()V" } : Jvm.MethodName)) ∈ zALL := zin 1307 (by decide +kernel) (by decide +kernel)
theorem zw1308 : (Jvm.Cond.code ({ cls := "SaltFarmModel", name := "sign", desc := "()V" } : Jvm.MethodName) prog_14_method_26_code (1 : Nat) (Option.none : Option Jvm.ClassFile.FieldType)) ∈ zALL := zin 1308 (by decide +kernel) (by decide +kernel)
theorem zw1309 : (Jvm.Cond.methodLink "SaltFarmLaw" (51 : Nat) ({ cls := "SaltFarmModel", name := "fault", desc := "()I" } : Jvm.MethodName)) ∈ zALL := zin 1309 (by decide +kernel) (by decide +kernel)
theorem zw1310 : (Jvm.Cond.instanceMethod ({ cls := "SaltFarmModel", name := "fault", desc := "()I" } : Jvm.MethodName)) ∈ zALL := zin 1310 (by decide +kernel) (by decide +kernel)
theorem zw1311 : (Jvm.Cond.selects "SaltFarmModel" ({ cls := "SaltFarmModel", name := "fault", desc := "()I" } : Jvm.MethodName) ({ cls := "SaltFarmModel", name := "fault", desc := "()I" } : Jvm.MethodName)) ∈ zALL := zin 1311 (by decide +kernel) (by decide +kernel)
theorem zw1312 : (Jvm.Cond.code ({ cls := "SaltFarmModel", name := "fault", desc := "()I" } : Jvm.MethodName) prog_14_method_32_code (1 : Nat) (Option.some Jvm.ClassFile.FieldType.int)) ∈ zALL := zin 1312 (by decide +kernel) (by decide +kernel)
theorem zw1313 : (Jvm.Cond.methodLink "SaltFarmLaw" (55 : Nat) ({ cls := "SaltFarmModel", name := "where", desc := "()I" } : Jvm.MethodName)) ∈ zALL := zin 1313 (by decide +kernel) (by decide +kernel)
theorem zw1314 : (Jvm.Cond.instanceMethod ({ cls := "SaltFarmModel", name := "where", desc := "()I" } : Jvm.MethodName)) ∈ zALL := zin 1314 (by decide +kernel) (by decide +kernel)
theorem zw1315 : (Jvm.Cond.selects "SaltFarmModel" ({ cls := "SaltFarmModel", name := "where", desc := "()I" } : Jvm.MethodName) ({ cls := "SaltFarmModel", name := "where", desc := "()I" } : Jvm.MethodName)) ∈ zALL := zin 1315 (by decide +kernel) (by decide +kernel)
theorem zw1316 : (Jvm.Cond.code ({ cls := "SaltFarmModel", name := "where", desc := "()I" } : Jvm.MethodName) prog_14_method_33_code (1 : Nat) (Option.some Jvm.ClassFile.FieldType.int)) ∈ zALL := zin 1316 (by decide +kernel) (by decide +kernel)
theorem zw1317 : (Jvm.Cond.methodLink "SaltFarmLaw" (59 : Nat) ({ cls := "SaltFarmModel", name := "force", desc := "(II)I" } : Jvm.MethodName)) ∈ zALL := zin 1317 (by decide +kernel) (by decide +kernel)
theorem zw1318 : (Jvm.Cond.instanceMethod ({ cls := "SaltFarmModel", name := "force", desc := "(II)I" } : Jvm.MethodName)) ∈ zALL := zin 1318 (by decide +kernel) (by decide +kernel)
theorem zw1319 : (Jvm.Cond.selects "SaltFarmModel" ({ cls := "SaltFarmModel", name := "force", desc := "(II)I" } : Jvm.MethodName) ({ cls := "SaltFarmModel", name := "force", desc := "(II)I" } : Jvm.MethodName)) ∈ zALL := zin 1319 (by decide +kernel) (by decide +kernel)
theorem zw1320 : (Jvm.Cond.code ({ cls := "SaltFarmModel", name := "force", desc := "(II)I" } : Jvm.MethodName) prog_14_method_35_code (3 : Nat) (Option.some Jvm.ClassFile.FieldType.int)) ∈ zALL := zin 1320 (by decide +kernel) (by decide +kernel)
theorem zw1321 : (Jvm.Cond.methodLink "SaltFarmModel" (280 : Nat) ({ cls := "SaltFarmModel", name := "forceOf", desc := "(II)I" } : Jvm.MethodName)) ∈ zALL := zin 1321 (by decide +kernel) (by decide +kernel)
theorem zw1323 : (Jvm.Cond.instanceMethod ({ cls := "SaltFarmModel", name := "forceOf", desc := "(II)I" } : Jvm.MethodName)) ∈ zALL := zin 1323 (by decide +kernel) (by decide +kernel)
theorem zw1324 : (Jvm.Cond.code ({ cls := "SaltFarmModel", name := "forceOf", desc := "(II)I" } : Jvm.MethodName) prog_14_method_34_code (5 : Nat) (Option.some Jvm.ClassFile.FieldType.int)) ∈ zALL := zin 1324 (by decide +kernel) (by decide +kernel)
theorem zw1325 : (Jvm.Cond.methodLink "SaltFarmLaw" (64 : Nat) ({ cls := "SaltFarmModel", name := "price", desc := "(IIZ)I" } : Jvm.MethodName)) ∈ zALL := zin 1325 (by decide +kernel) (by decide +kernel)
theorem zw1326 : (Jvm.Cond.instanceMethod ({ cls := "SaltFarmModel", name := "price", desc := "(IIZ)I" } : Jvm.MethodName)) ∈ zALL := zin 1326 (by decide +kernel) (by decide +kernel)
theorem zw1327 : (Jvm.Cond.selects "SaltFarmModel" ({ cls := "SaltFarmModel", name := "price", desc := "(IIZ)I" } : Jvm.MethodName) ({ cls := "SaltFarmModel", name := "price", desc := "(IIZ)I" } : Jvm.MethodName)) ∈ zALL := zin 1327 (by decide +kernel) (by decide +kernel)
theorem zw1328 : (Jvm.Cond.code ({ cls := "SaltFarmModel", name := "price", desc := "(IIZ)I" } : Jvm.MethodName) prog_14_method_40_code (4 : Nat) (Option.some Jvm.ClassFile.FieldType.int)) ∈ zALL := zin 1328 (by decide +kernel) (by decide +kernel)
theorem zw1329 : (Jvm.Cond.methodLink "SaltFarmModel" (320 : Nat) ({ cls := "SaltFarmModel", name := "priceOf", desc := "(IIZ)I" } : Jvm.MethodName)) ∈ zALL := zin 1329 (by decide +kernel) (by decide +kernel)
theorem zw1331 : (Jvm.Cond.instanceMethod ({ cls := "SaltFarmModel", name := "priceOf", desc := "(IIZ)I" } : Jvm.MethodName)) ∈ zALL := zin 1331 (by decide +kernel) (by decide +kernel)
theorem zw1332 : (Jvm.Cond.code ({ cls := "SaltFarmModel", name := "priceOf", desc := "(IIZ)I" } : Jvm.MethodName) prog_14_method_39_code (11 : Nat) (Option.some Jvm.ClassFile.FieldType.int)) ∈ zALL := zin 1332 (by decide +kernel) (by decide +kernel)
theorem zw1333 : (Jvm.Cond.methodLink "SaltFarmModel" (311 : Nat) ({ cls := "SaltFarmModel", name := "tells", desc := "(LSaltFarmModel$Edict;IIII)I" } : Jvm.MethodName)) ∈ zALL := zin 1333 (by decide +kernel) (by decide +kernel)
theorem zw1335 : (Jvm.Cond.instanceMethod ({ cls := "SaltFarmModel", name := "tells", desc := "(LSaltFarmModel$Edict;IIII)I" } : Jvm.MethodName)) ∈ zALL := zin 1335 (by decide +kernel) (by decide +kernel)
theorem zw1336 : (Jvm.Cond.code ({ cls := "SaltFarmModel", name := "tells", desc := "(LSaltFarmModel$Edict;IIII)I" } : Jvm.MethodName) prog_14_method_38_code (12 : Nat) (Option.some Jvm.ClassFile.FieldType.int)) ∈ zALL := zin 1336 (by decide +kernel) (by decide +kernel)
theorem zw1337 : (Jvm.Cond.methodLink "SaltFarmModel" (306 : Nat) ({ cls := "SaltFarmModel", name := "both", desc := "(IJJ)I" } : Jvm.MethodName)) ∈ zALL := zin 1337 (by decide +kernel) (by decide +kernel)
theorem zw1338 : (Jvm.Cond.static ({ cls := "SaltFarmModel", name := "both", desc := "(IJJ)I" } : Jvm.MethodName)) ∈ zALL := zin 1338 (by decide +kernel) (by decide +kernel)
theorem zw1339 : (Jvm.Cond.code ({ cls := "SaltFarmModel", name := "both", desc := "(IJJ)I" } : Jvm.MethodName) prog_14_method_37_code (5 : Nat) (Option.some Jvm.ClassFile.FieldType.int)) ∈ zALL := zin 1339 (by decide +kernel) (by decide +kernel)
theorem zw1340 : (Jvm.Cond.methodLink "SaltFarmModel" (297 : Nat) ({ cls := "SaltFarmModel", name := "bound", desc := "(J)I" } : Jvm.MethodName)) ∈ zALL := zin 1340 (by decide +kernel) (by decide +kernel)
theorem zw1341 : (Jvm.Cond.static ({ cls := "SaltFarmModel", name := "bound", desc := "(J)I" } : Jvm.MethodName)) ∈ zALL := zin 1341 (by decide +kernel) (by decide +kernel)
theorem zw1342 : (Jvm.Cond.code ({ cls := "SaltFarmModel", name := "bound", desc := "(J)I" } : Jvm.MethodName) prog_14_method_36_code (2 : Nat) (Option.some Jvm.ClassFile.FieldType.int)) ∈ zALL := zin 1342 (by decide +kernel) (by decide +kernel)
theorem zw1343 : (Jvm.Cond.constantLong "SaltFarmModel" (284 : Nat) (-1000000 : Int64)) ∈ zALL := zin 1343 (by decide +kernel) (by decide +kernel)
theorem zw1344 : (Jvm.Cond.constantLong "SaltFarmModel" (286 : Nat) (1000000 : Int64)) ∈ zALL := zin 1344 (by decide +kernel) (by decide +kernel)
theorem zw1345 : (Jvm.Cond.methodLink "SaltFarmModel" (288 : Nat) ({ cls := "java/lang/Math", name := "min", desc := "(JJ)J" } : Jvm.MethodName)) ∈ zALL := zin 1345 (by decide +kernel) (by decide +kernel)
theorem zw1346 : (Jvm.Cond.methodLink "SaltFarmModel" (294 : Nat) ({ cls := "java/lang/Math", name := "max", desc := "(JJ)J" } : Jvm.MethodName)) ∈ zALL := zin 1346 (by decide +kernel) (by decide +kernel)
theorem zw1347 : (Jvm.Cond.constant "SaltFarmModel" (310 : Nat) (-1000001 : Int32)) ∈ zALL := zin 1347 (by decide +kernel) (by decide +kernel)
theorem zw1348 : (Jvm.Cond.constant "SaltFarmModel" (315 : Nat) (-1000000 : Int32)) ∈ zALL := zin 1348 (by decide +kernel) (by decide +kernel)
theorem zw1349 : (Jvm.Cond.methodLink "SaltFarmModel" (316 : Nat) ({ cls := "java/lang/Math", name := "min", desc := "(II)I" } : Jvm.MethodName)) ∈ zALL := zin 1349 (by decide +kernel) (by decide +kernel)
theorem zw1350 : (Jvm.Cond.methodLink "SaltFarmModel" (318 : Nat) ({ cls := "java/lang/Math", name := "max", desc := "(II)I" } : Jvm.MethodName)) ∈ zALL := zin 1350 (by decide +kernel) (by decide +kernel)
theorem zw1351 : (Jvm.Cond.static ({ cls := "java/lang/Math", name := "max", desc := "(II)I" } : Jvm.MethodName)) ∈ zALL := zin 1351 (by decide +kernel) (by decide +kernel)
theorem zw1352 : (Jvm.Cond.code ({ cls := "java/lang/Math", name := "max", desc := "(II)I" } : Jvm.MethodName) prog_18_method_65_code (2 : Nat) (Option.some Jvm.ClassFile.FieldType.int)) ∈ zALL := zin 1352 (by decide +kernel) (by decide +kernel)
theorem zw1353 : (Jvm.Cond.methodLink "SaltFarmLaw" (68 : Nat) ({ cls := "SaltFarmModel", name := "brought", desc := "(II)I" } : Jvm.MethodName)) ∈ zALL := zin 1353 (by decide +kernel) (by decide +kernel)
theorem zw1354 : (Jvm.Cond.instanceMethod ({ cls := "SaltFarmModel", name := "brought", desc := "(II)I" } : Jvm.MethodName)) ∈ zALL := zin 1354 (by decide +kernel) (by decide +kernel)
theorem zw1355 : (Jvm.Cond.selects "SaltFarmModel" ({ cls := "SaltFarmModel", name := "brought", desc := "(II)I" } : Jvm.MethodName) ({ cls := "SaltFarmModel", name := "brought", desc := "(II)I" } : Jvm.MethodName)) ∈ zALL := zin 1355 (by decide +kernel) (by decide +kernel)
theorem zw1356 : (Jvm.Cond.code ({ cls := "SaltFarmModel", name := "brought", desc := "(II)I" } : Jvm.MethodName) prog_14_method_45_code (4 : Nat) (Option.some Jvm.ClassFile.FieldType.int)) ∈ zALL := zin 1356 (by decide +kernel) (by decide +kernel)
theorem zw1357 : (Jvm.Cond.methodLink "SaltFarmModel" (336 : Nat) ({ cls := "SaltFarmModel", name := "now", desc := "()V" } : Jvm.MethodName)) ∈ zALL := zin 1357 (by decide +kernel) (by decide +kernel)
theorem zw1359 : (Jvm.Cond.instanceMethod ({ cls := "SaltFarmModel", name := "now", desc := "()V" } : Jvm.MethodName)) ∈ zALL := zin 1359 (by decide +kernel) (by decide +kernel)
theorem zw1360 : (Jvm.Cond.code ({ cls := "SaltFarmModel", name := "now", desc := "()V" } : Jvm.MethodName) prog_14_method_44_code (1 : Nat) (Option.none : Option Jvm.ClassFile.FieldType)) ∈ zALL := zin 1360 (by decide +kernel) (by decide +kernel)
theorem zw1361 : (Jvm.Cond.methodLink "SaltFarmModel" (329 : Nat) ({ cls := "SaltFarmModel", name := "prices", desc := "()V" } : Jvm.MethodName)) ∈ zALL := zin 1361 (by decide +kernel) (by decide +kernel)
theorem zw1363 : (Jvm.Cond.instanceMethod ({ cls := "SaltFarmModel", name := "prices", desc := "()V" } : Jvm.MethodName)) ∈ zALL := zin 1363 (by decide +kernel) (by decide +kernel)
theorem zw1364 : (Jvm.Cond.code ({ cls := "SaltFarmModel", name := "prices", desc := "()V" } : Jvm.MethodName) prog_14_method_41_code (2 : Nat) (Option.none : Option Jvm.ClassFile.FieldType)) ∈ zALL := zin 1364 (by decide +kernel) (by decide +kernel)
theorem zw1365 : (Jvm.Cond.methodLink "SaltFarmModel" (332 : Nat) ({ cls := "SaltFarmModel", name := "ways", desc := "([I)V" } : Jvm.MethodName)) ∈ zALL := zin 1365 (by decide +kernel) (by decide +kernel)
theorem zw1367 : (Jvm.Cond.instanceMethod ({ cls := "SaltFarmModel", name := "ways", desc := "([I)V" } : Jvm.MethodName)) ∈ zALL := zin 1367 (by decide +kernel) (by decide +kernel)
theorem zw1368 : (Jvm.Cond.code ({ cls := "SaltFarmModel", name := "ways", desc := "([I)V" } : Jvm.MethodName) prog_14_method_43_code (5 : Nat) (Option.none : Option Jvm.ClassFile.FieldType)) ∈ zALL := zin 1368 (by decide +kernel) (by decide +kernel)
theorem zw1369 : (Jvm.Cond.constant "SaltFarmModel" (325 : Nat) (100000000 : Int32)) ∈ zALL := zin 1369 (by decide +kernel) (by decide +kernel)
theorem zw1370 : (Jvm.Cond.methodLink "SaltFarmModel" (326 : Nat) ({ cls := "SaltFarmModel", name := "costOf", desc := "(II)I" } : Jvm.MethodName)) ∈ zALL := zin 1370 (by decide +kernel) (by decide +kernel)
theorem zw1372 : (Jvm.Cond.instanceMethod ({ cls := "SaltFarmModel", name := "costOf", desc := "(II)I" } : Jvm.MethodName)) ∈ zALL := zin 1372 (by decide +kernel) (by decide +kernel)
theorem zw1373 : (Jvm.Cond.code ({ cls := "SaltFarmModel", name := "costOf", desc := "(II)I" } : Jvm.MethodName) prog_14_method_42_code (3 : Nat) (Option.some Jvm.ClassFile.FieldType.int)) ∈ zALL := zin 1373 (by decide +kernel) (by decide +kernel)
theorem zw1374 : (Jvm.Cond.methodLink "SaltFarmLaw" (73 : Nat) ({ cls := "SaltFarmModel", name := "cheap", desc := "(I)I" } : Jvm.MethodName)) ∈ zALL := zin 1374 (by decide +kernel) (by decide +kernel)
theorem zw1375 : (Jvm.Cond.instanceMethod ({ cls := "SaltFarmModel", name := "cheap", desc := "(I)I" } : Jvm.MethodName)) ∈ zALL := zin 1375 (by decide +kernel) (by decide +kernel)
theorem zw1376 : (Jvm.Cond.selects "SaltFarmModel" ({ cls := "SaltFarmModel", name := "cheap", desc := "(I)I" } : Jvm.MethodName) ({ cls := "SaltFarmModel", name := "cheap", desc := "(I)I" } : Jvm.MethodName)) ∈ zALL := zin 1376 (by decide +kernel) (by decide +kernel)
theorem zw1377 : (Jvm.Cond.code ({ cls := "SaltFarmModel", name := "cheap", desc := "(I)I" } : Jvm.MethodName) prog_14_method_46_code (2 : Nat) (Option.some Jvm.ClassFile.FieldType.int)) ∈ zALL := zin 1377 (by decide +kernel) (by decide +kernel)
theorem zw1378 : (Jvm.Cond.methodLink "SaltFarmLaw" (77 : Nat) ({ cls := "SaltFarmModel", name := "source", desc := "(I)I" } : Jvm.MethodName)) ∈ zALL := zin 1378 (by decide +kernel) (by decide +kernel)
theorem zw1379 : (Jvm.Cond.instanceMethod ({ cls := "SaltFarmModel", name := "source", desc := "(I)I" } : Jvm.MethodName)) ∈ zALL := zin 1379 (by decide +kernel) (by decide +kernel)
theorem zw1380 : (Jvm.Cond.selects "SaltFarmModel" ({ cls := "SaltFarmModel", name := "source", desc := "(I)I" } : Jvm.MethodName) ({ cls := "SaltFarmModel", name := "source", desc := "(I)I" } : Jvm.MethodName)) ∈ zALL := zin 1380 (by decide +kernel) (by decide +kernel)
theorem zw1381 : (Jvm.Cond.code ({ cls := "SaltFarmModel", name := "source", desc := "(I)I" } : Jvm.MethodName) prog_14_method_47_code (2 : Nat) (Option.some Jvm.ClassFile.FieldType.int)) ∈ zALL := zin 1381 (by decide +kernel) (by decide +kernel)
theorem zw1382 : (Jvm.Cond.methodLink "SaltFarmLaw" (82 : Nat) ({ cls := "SaltFarmModel", name := "taken", desc := "(I)J" } : Jvm.MethodName)) ∈ zALL := zin 1382 (by decide +kernel) (by decide +kernel)
theorem zw1383 : (Jvm.Cond.instanceMethod ({ cls := "SaltFarmModel", name := "taken", desc := "(I)J" } : Jvm.MethodName)) ∈ zALL := zin 1383 (by decide +kernel) (by decide +kernel)
theorem zw1384 : (Jvm.Cond.selects "SaltFarmModel" ({ cls := "SaltFarmModel", name := "taken", desc := "(I)J" } : Jvm.MethodName) ({ cls := "SaltFarmModel", name := "taken", desc := "(I)J" } : Jvm.MethodName)) ∈ zALL := zin 1384 (by decide +kernel) (by decide +kernel)
theorem zw1385 : (Jvm.Cond.code ({ cls := "SaltFarmModel", name := "taken", desc := "(I)J" } : Jvm.MethodName) prog_14_method_51_code (2 : Nat) (Option.some Jvm.ClassFile.FieldType.long)) ∈ zALL := zin 1385 (by decide +kernel) (by decide +kernel)
theorem zw1386 : (Jvm.Cond.constantLong "SaltFarmModel" (346 : Nat) (-1 : Int64)) ∈ zALL := zin 1386 (by decide +kernel) (by decide +kernel)
theorem zw1387 : (Jvm.Cond.methodLink "SaltFarmModel" (343 : Nat) ({ cls := "SaltFarmModel", name := "takenOf", desc := "(I)J" } : Jvm.MethodName)) ∈ zALL := zin 1387 (by decide +kernel) (by decide +kernel)
theorem zw1389 : (Jvm.Cond.instanceMethod ({ cls := "SaltFarmModel", name := "takenOf", desc := "(I)J" } : Jvm.MethodName)) ∈ zALL := zin 1389 (by decide +kernel) (by decide +kernel)
theorem zw1390 : (Jvm.Cond.code ({ cls := "SaltFarmModel", name := "takenOf", desc := "(I)J" } : Jvm.MethodName) prog_14_method_49_code (5 : Nat) (Option.some Jvm.ClassFile.FieldType.long)) ∈ zALL := zin 1390 (by decide +kernel) (by decide +kernel)
theorem zw1391 : (Jvm.Cond.methodLink "SaltFarmModel" (339 : Nat) ({ cls := "SaltFarmModel", name := "restOf", desc := "(I)J" } : Jvm.MethodName)) ∈ zALL := zin 1391 (by decide +kernel) (by decide +kernel)
theorem zw1393 : (Jvm.Cond.instanceMethod ({ cls := "SaltFarmModel", name := "restOf", desc := "(I)J" } : Jvm.MethodName)) ∈ zALL := zin 1393 (by decide +kernel) (by decide +kernel)
theorem zw1394 : (Jvm.Cond.code ({ cls := "SaltFarmModel", name := "restOf", desc := "(I)J" } : Jvm.MethodName) prog_14_method_48_code (2 : Nat) (Option.some Jvm.ClassFile.FieldType.long)) ∈ zALL := zin 1394 (by decide +kernel) (by decide +kernel)
theorem zw1395 : (Jvm.Cond.methodLink "SaltFarmLaw" (87 : Nat) ({ cls := "SaltFarmModel", name := "crown", desc := "()J" } : Jvm.MethodName)) ∈ zALL := zin 1395 (by decide +kernel) (by decide +kernel)
theorem zw1396 : (Jvm.Cond.instanceMethod ({ cls := "SaltFarmModel", name := "crown", desc := "()J" } : Jvm.MethodName)) ∈ zALL := zin 1396 (by decide +kernel) (by decide +kernel)
theorem zw1397 : (Jvm.Cond.selects "SaltFarmModel" ({ cls := "SaltFarmModel", name := "crown", desc := "()J" } : Jvm.MethodName) ({ cls := "SaltFarmModel", name := "crown", desc := "()J" } : Jvm.MethodName)) ∈ zALL := zin 1397 (by decide +kernel) (by decide +kernel)
theorem zw1398 : (Jvm.Cond.code ({ cls := "SaltFarmModel", name := "crown", desc := "()J" } : Jvm.MethodName) prog_14_method_52_code (1 : Nat) (Option.some Jvm.ClassFile.FieldType.long)) ∈ zALL := zin 1398 (by decide +kernel) (by decide +kernel)
theorem zw1399 : (Jvm.Cond.methodLink "SaltFarmModel" (348 : Nat) ({ cls := "SaltFarmModel", name := "crownOf", desc := "()J" } : Jvm.MethodName)) ∈ zALL := zin 1399 (by decide +kernel) (by decide +kernel)
theorem zw1401 : (Jvm.Cond.instanceMethod ({ cls := "SaltFarmModel", name := "crownOf", desc := "()J" } : Jvm.MethodName)) ∈ zALL := zin 1401 (by decide +kernel) (by decide +kernel)
theorem zw1402 : (Jvm.Cond.code ({ cls := "SaltFarmModel", name := "crownOf", desc := "()J" } : Jvm.MethodName) prog_14_method_50_code (4 : Nat) (Option.some Jvm.ClassFile.FieldType.long)) ∈ zALL := zin 1402 (by decide +kernel) (by decide +kernel)
theorem zw1403 : (Jvm.Cond.methodLink "SaltFarmLaw" (91 : Nat) ({ cls := "SaltFarmModel", name := "lost", desc := "()J" } : Jvm.MethodName)) ∈ zALL := zin 1403 (by decide +kernel) (by decide +kernel)
theorem zw1404 : (Jvm.Cond.instanceMethod ({ cls := "SaltFarmModel", name := "lost", desc := "()J" } : Jvm.MethodName)) ∈ zALL := zin 1404 (by decide +kernel) (by decide +kernel)
theorem zw1405 : (Jvm.Cond.selects "SaltFarmModel" ({ cls := "SaltFarmModel", name := "lost", desc := "()J" } : Jvm.MethodName) ({ cls := "SaltFarmModel", name := "lost", desc := "()J" } : Jvm.MethodName)) ∈ zALL := zin 1405 (by decide +kernel) (by decide +kernel)
theorem zw1406 : (Jvm.Cond.code ({ cls := "SaltFarmModel", name := "lost", desc := "()J" } : Jvm.MethodName) prog_14_method_53_code (4 : Nat) (Option.some Jvm.ClassFile.FieldType.long)) ∈ zALL := zin 1406 (by decide +kernel) (by decide +kernel)
theorem zw1407 : (Jvm.Cond.methodLink "SaltFarmLaw" (95 : Nat) ({ cls := "SaltFarmModel", name := "carried", desc := "(I)J" } : Jvm.MethodName)) ∈ zALL := zin 1407 (by decide +kernel) (by decide +kernel)
theorem zw1408 : (Jvm.Cond.instanceMethod ({ cls := "SaltFarmModel", name := "carried", desc := "(I)J" } : Jvm.MethodName)) ∈ zALL := zin 1408 (by decide +kernel) (by decide +kernel)
theorem zw1409 : (Jvm.Cond.selects "SaltFarmModel" ({ cls := "SaltFarmModel", name := "carried", desc := "(I)J" } : Jvm.MethodName) ({ cls := "SaltFarmModel", name := "carried", desc := "(I)J" } : Jvm.MethodName)) ∈ zALL := zin 1409 (by decide +kernel) (by decide +kernel)
theorem zw1410 : (Jvm.Cond.code ({ cls := "SaltFarmModel", name := "carried", desc := "(I)J" } : Jvm.MethodName) prog_14_method_55_code (6 : Nat) (Option.some Jvm.ClassFile.FieldType.long)) ∈ zALL := zin 1410 (by decide +kernel) (by decide +kernel)
theorem zw1411 : (Jvm.Cond.methodLink "SaltFarmModel" (355 : Nat) ({ cls := "SaltFarmModel", name := "walks", desc := "(I)V" } : Jvm.MethodName)) ∈ zALL := zin 1411 (by decide +kernel) (by decide +kernel)
theorem zw1413 : (Jvm.Cond.instanceMethod ({ cls := "SaltFarmModel", name := "walks", desc := "(I)V" } : Jvm.MethodName)) ∈ zALL := zin 1413 (by decide +kernel) (by decide +kernel)
theorem zw1414 : (Jvm.Cond.code ({ cls := "SaltFarmModel", name := "walks", desc := "(I)V" } : Jvm.MethodName) prog_14_method_54_code (6 : Nat) (Option.none : Option Jvm.ClassFile.FieldType)) ∈ zALL := zin 1414 (by decide +kernel) (by decide +kernel)
theorem zw1415 : (Jvm.Cond.methodLink "SaltFarmLaw" (99 : Nat) ({ cls := "SaltFarmModel", name := "way", desc := "(I)I" } : Jvm.MethodName)) ∈ zALL := zin 1415 (by decide +kernel) (by decide +kernel)
theorem zw1416 : (Jvm.Cond.instanceMethod ({ cls := "SaltFarmModel", name := "way", desc := "(I)I" } : Jvm.MethodName)) ∈ zALL := zin 1416 (by decide +kernel) (by decide +kernel)
theorem zw1417 : (Jvm.Cond.selects "SaltFarmModel" ({ cls := "SaltFarmModel", name := "way", desc := "(I)I" } : Jvm.MethodName) ({ cls := "SaltFarmModel", name := "way", desc := "(I)I" } : Jvm.MethodName)) ∈ zALL := zin 1417 (by decide +kernel) (by decide +kernel)
theorem zw1418 : (Jvm.Cond.code ({ cls := "SaltFarmModel", name := "way", desc := "(I)I" } : Jvm.MethodName) prog_14_method_56_code (2 : Nat) (Option.some Jvm.ClassFile.FieldType.int)) ∈ zALL := zin 1418 (by decide +kernel) (by decide +kernel)
theorem zw1419 : (Jvm.Cond.methodLink "SaltFarmLaw" (103 : Nat) ({ cls := "SaltFarmModel", name := "wayAt", desc := "(II)I" } : Jvm.MethodName)) ∈ zALL := zin 1419 (by decide +kernel) (by decide +kernel)
theorem zw1420 : (Jvm.Cond.instanceMethod ({ cls := "SaltFarmModel", name := "wayAt", desc := "(II)I" } : Jvm.MethodName)) ∈ zALL := zin 1420 (by decide +kernel) (by decide +kernel)
theorem zw1421 : (Jvm.Cond.selects "SaltFarmModel" ({ cls := "SaltFarmModel", name := "wayAt", desc := "(II)I" } : Jvm.MethodName) ({ cls := "SaltFarmModel", name := "wayAt", desc := "(II)I" } : Jvm.MethodName)) ∈ zALL := zin 1421 (by decide +kernel) (by decide +kernel)
theorem zw1422 : (Jvm.Cond.code ({ cls := "SaltFarmModel", name := "wayAt", desc := "(II)I" } : Jvm.MethodName) prog_14_method_57_code (3 : Nat) (Option.some Jvm.ClassFile.FieldType.int)) ∈ zALL := zin 1422 (by decide +kernel) (by decide +kernel)
theorem zw1423 : (Jvm.Cond.methodLink "SaltFarmLaw" (107 : Nat) ({ cls := "SaltFarmModel", name := "best", desc := "(I)J" } : Jvm.MethodName)) ∈ zALL := zin 1423 (by decide +kernel) (by decide +kernel)
theorem zw1424 : (Jvm.Cond.instanceMethod ({ cls := "SaltFarmModel", name := "best", desc := "(I)J" } : Jvm.MethodName)) ∈ zALL := zin 1424 (by decide +kernel) (by decide +kernel)
theorem zw1425 : (Jvm.Cond.selects "SaltFarmModel" ({ cls := "SaltFarmModel", name := "best", desc := "(I)J" } : Jvm.MethodName) ({ cls := "SaltFarmModel", name := "best", desc := "(I)J" } : Jvm.MethodName)) ∈ zALL := zin 1425 (by decide +kernel) (by decide +kernel)
theorem zw1426 : (Jvm.Cond.code ({ cls := "SaltFarmModel", name := "best", desc := "(I)J" } : Jvm.MethodName) prog_14_method_59_code (2 : Nat) (Option.some Jvm.ClassFile.FieldType.long)) ∈ zALL := zin 1426 (by decide +kernel) (by decide +kernel)
theorem zw1427 : (Jvm.Cond.methodLink "SaltFarmModel" (361 : Nat) ({ cls := "SaltFarmModel", name := "tries", desc := "(II)V" } : Jvm.MethodName)) ∈ zALL := zin 1427 (by decide +kernel) (by decide +kernel)
theorem zw1429 : (Jvm.Cond.instanceMethod ({ cls := "SaltFarmModel", name := "tries", desc := "(II)V" } : Jvm.MethodName)) ∈ zALL := zin 1429 (by decide +kernel) (by decide +kernel)
theorem zw1430 : (Jvm.Cond.code ({ cls := "SaltFarmModel", name := "tries", desc := "(II)V" } : Jvm.MethodName) prog_14_method_58_code (6 : Nat) (Option.none : Option Jvm.ClassFile.FieldType)) ∈ zALL := zin 1430 (by decide +kernel) (by decide +kernel)
theorem zw1431 : (Jvm.Cond.methodLink "SaltFarmLaw" (111 : Nat) ({ cls := "SaltFarmModel", name := "stand", desc := "(I)I" } : Jvm.MethodName)) ∈ zALL := zin 1431 (by decide +kernel) (by decide +kernel)
theorem zw1432 : (Jvm.Cond.instanceMethod ({ cls := "SaltFarmModel", name := "stand", desc := "(I)I" } : Jvm.MethodName)) ∈ zALL := zin 1432 (by decide +kernel) (by decide +kernel)
theorem zw1433 : (Jvm.Cond.selects "SaltFarmModel" ({ cls := "SaltFarmModel", name := "stand", desc := "(I)I" } : Jvm.MethodName) ({ cls := "SaltFarmModel", name := "stand", desc := "(I)I" } : Jvm.MethodName)) ∈ zALL := zin 1433 (by decide +kernel) (by decide +kernel)
theorem zw1434 : (Jvm.Cond.code ({ cls := "SaltFarmModel", name := "stand", desc := "(I)I" } : Jvm.MethodName) prog_14_method_60_code (2 : Nat) (Option.some Jvm.ClassFile.FieldType.int)) ∈ zALL := zin 1434 (by decide +kernel) (by decide +kernel)
theorem zw1435 : (Jvm.Cond.methodLink "SaltFarmLaw" (115 : Nat) ({ cls := "SaltFarmModel", name := "pass", desc := "()I" } : Jvm.MethodName)) ∈ zALL := zin 1435 (by decide +kernel) (by decide +kernel)
theorem zw1436 : (Jvm.Cond.instanceMethod ({ cls := "SaltFarmModel", name := "pass", desc := "()I" } : Jvm.MethodName)) ∈ zALL := zin 1436 (by decide +kernel) (by decide +kernel)
theorem zw1437 : (Jvm.Cond.selects "SaltFarmModel" ({ cls := "SaltFarmModel", name := "pass", desc := "()I" } : Jvm.MethodName) ({ cls := "SaltFarmModel", name := "pass", desc := "()I" } : Jvm.MethodName)) ∈ zALL := zin 1437 (by decide +kernel) (by decide +kernel)
theorem zw1438 : (Jvm.Cond.code ({ cls := "SaltFarmModel", name := "pass", desc := "()I" } : Jvm.MethodName) prog_14_method_63_code (3 : Nat) (Option.some Jvm.ClassFile.FieldType.int)) ∈ zALL := zin 1438 (by decide +kernel) (by decide +kernel)
theorem zw1439 : (Jvm.Cond.methodLink "SaltFarmModel" (370 : Nat) ({ cls := "SaltFarmModel", name := "missingNow", desc := "(I)I" } : Jvm.MethodName)) ∈ zALL := zin 1439 (by decide +kernel) (by decide +kernel)
theorem zw1441 : (Jvm.Cond.instanceMethod ({ cls := "SaltFarmModel", name := "missingNow", desc := "(I)I" } : Jvm.MethodName)) ∈ zALL := zin 1441 (by decide +kernel) (by decide +kernel)
theorem zw1442 : (Jvm.Cond.code ({ cls := "SaltFarmModel", name := "missingNow", desc := "(I)I" } : Jvm.MethodName) prog_14_method_62_code (2 : Nat) (Option.some Jvm.ClassFile.FieldType.int)) ∈ zALL := zin 1442 (by decide +kernel) (by decide +kernel)
theorem zw1443 : (Jvm.Cond.methodLink "SaltFarmLaw" (119 : Nat) ({ cls := "SaltFarmModel", name := "store", desc := "(II)I" } : Jvm.MethodName)) ∈ zALL := zin 1443 (by decide +kernel) (by decide +kernel)
theorem zw1444 : (Jvm.Cond.instanceMethod ({ cls := "SaltFarmModel", name := "store", desc := "(II)I" } : Jvm.MethodName)) ∈ zALL := zin 1444 (by decide +kernel) (by decide +kernel)
theorem zw1445 : (Jvm.Cond.selects "SaltFarmModel" ({ cls := "SaltFarmModel", name := "store", desc := "(II)I" } : Jvm.MethodName) ({ cls := "SaltFarmModel", name := "store", desc := "(II)I" } : Jvm.MethodName)) ∈ zALL := zin 1445 (by decide +kernel) (by decide +kernel)
theorem zw1446 : (Jvm.Cond.code ({ cls := "SaltFarmModel", name := "store", desc := "(II)I" } : Jvm.MethodName) prog_14_method_64_code (3 : Nat) (Option.some Jvm.ClassFile.FieldType.int)) ∈ zALL := zin 1446 (by decide +kernel) (by decide +kernel)
theorem zw1447 : (Jvm.Cond.constant "SaltFarmModel" (373 : Nat) (1000000 : Int32)) ∈ zALL := zin 1447 (by decide +kernel) (by decide +kernel)
theorem zw1448 : (Jvm.Cond.methodLink "SaltFarmLaw" (123 : Nat) ({ cls := "SaltFarmModel", name := "moves", desc := "(IIZ)I" } : Jvm.MethodName)) ∈ zALL := zin 1448 (by decide +kernel) (by decide +kernel)
theorem zw1449 : (Jvm.Cond.instanceMethod ({ cls := "SaltFarmModel", name := "moves", desc := "(IIZ)I" } : Jvm.MethodName)) ∈ zALL := zin 1449 (by decide +kernel) (by decide +kernel)
theorem zw1450 : (Jvm.Cond.selects "SaltFarmModel" ({ cls := "SaltFarmModel", name := "moves", desc := "(IIZ)I" } : Jvm.MethodName) ({ cls := "SaltFarmModel", name := "moves", desc := "(IIZ)I" } : Jvm.MethodName)) ∈ zALL := zin 1450 (by decide +kernel) (by decide +kernel)
theorem zw1451 : (Jvm.Cond.code ({ cls := "SaltFarmModel", name := "moves", desc := "(IIZ)I" } : Jvm.MethodName) prog_14_method_65_code (5 : Nat) (Option.some Jvm.ClassFile.FieldType.int)) ∈ zALL := zin 1451 (by decide +kernel) (by decide +kernel)
theorem zw1452 : (Jvm.Cond.methodLink "SaltFarmModel" (374 : Nat) ({ cls := "SaltFarmModel", name := "isStore", desc := "(I)Z" } : Jvm.MethodName)) ∈ zALL := zin 1452 (by decide +kernel) (by decide +kernel)
theorem zw1454 : (Jvm.Cond.instanceMethod ({ cls := "SaltFarmModel", name := "isStore", desc := "(I)Z" } : Jvm.MethodName)) ∈ zALL := zin 1454 (by decide +kernel) (by decide +kernel)
theorem zw1455 : (Jvm.Cond.code ({ cls := "SaltFarmModel", name := "isStore", desc := "(I)Z" } : Jvm.MethodName) prog_14_method_61_code (2 : Nat) (Option.some Jvm.ClassFile.FieldType.boolean)) ∈ zALL := zin 1455 (by decide +kernel) (by decide +kernel)
theorem zw1456 : (Jvm.Cond.constant "SaltFarmModel" (377 : Nat) (1000000000 : Int32)) ∈ zALL := zin 1456 (by decide +kernel) (by decide +kernel)
theorem zw1457 : (Jvm.Cond.methodLink "SaltFarmLaw" (127 : Nat) ({ cls := "SaltFarmModel", name := "counted", desc := "(II)I" } : Jvm.MethodName)) ∈ zALL := zin 1457 (by decide +kernel) (by decide +kernel)
theorem zw1458 : (Jvm.Cond.instanceMethod ({ cls := "SaltFarmModel", name := "counted", desc := "(II)I" } : Jvm.MethodName)) ∈ zALL := zin 1458 (by decide +kernel) (by decide +kernel)
theorem zw1459 : (Jvm.Cond.selects "SaltFarmModel" ({ cls := "SaltFarmModel", name := "counted", desc := "(II)I" } : Jvm.MethodName) ({ cls := "SaltFarmModel", name := "counted", desc := "(II)I" } : Jvm.MethodName)) ∈ zALL := zin 1459 (by decide +kernel) (by decide +kernel)
theorem zw1460 : (Jvm.Cond.code ({ cls := "SaltFarmModel", name := "counted", desc := "(II)I" } : Jvm.MethodName) prog_14_method_66_code (3 : Nat) (Option.some Jvm.ClassFile.FieldType.int)) ∈ zALL := zin 1460 (by decide +kernel) (by decide +kernel)
theorem zw1461 : (Jvm.Cond.methodLink "SaltFarmLaw" (131 : Nat) ({ cls := "SaltFarmModel", name := "missing", desc := "(I)J" } : Jvm.MethodName)) ∈ zALL := zin 1461 (by decide +kernel) (by decide +kernel)
theorem zw1462 : (Jvm.Cond.instanceMethod ({ cls := "SaltFarmModel", name := "missing", desc := "(I)J" } : Jvm.MethodName)) ∈ zALL := zin 1462 (by decide +kernel) (by decide +kernel)
theorem zw1463 : (Jvm.Cond.selects "SaltFarmModel" ({ cls := "SaltFarmModel", name := "missing", desc := "(I)J" } : Jvm.MethodName) ({ cls := "SaltFarmModel", name := "missing", desc := "(I)J" } : Jvm.MethodName)) ∈ zALL := zin 1463 (by decide +kernel) (by decide +kernel)
theorem zw1464 : (Jvm.Cond.code ({ cls := "SaltFarmModel", name := "missing", desc := "(I)J" } : Jvm.MethodName) prog_14_method_67_code (2 : Nat) (Option.some Jvm.ClassFile.FieldType.long)) ∈ zALL := zin 1464 (by decide +kernel) (by decide +kernel)
theorem zw1465 : (Jvm.Cond.methodLink "SaltFarmLaw" (135 : Nat) ({ cls := "SaltFarmModel", name := "worst", desc := "()I" } : Jvm.MethodName)) ∈ zALL := zin 1465 (by decide +kernel) (by decide +kernel)
theorem zw1466 : (Jvm.Cond.instanceMethod ({ cls := "SaltFarmModel", name := "worst", desc := "()I" } : Jvm.MethodName)) ∈ zALL := zin 1466 (by decide +kernel) (by decide +kernel)
theorem zw1467 : (Jvm.Cond.selects "SaltFarmModel" ({ cls := "SaltFarmModel", name := "worst", desc := "()I" } : Jvm.MethodName) ({ cls := "SaltFarmModel", name := "worst", desc := "()I" } : Jvm.MethodName)) ∈ zALL := zin 1467 (by decide +kernel) (by decide +kernel)
theorem zw1468 : (Jvm.Cond.code ({ cls := "SaltFarmModel", name := "worst", desc := "()I" } : Jvm.MethodName) prog_14_method_68_code (3 : Nat) (Option.some Jvm.ClassFile.FieldType.int)) ∈ zALL := zin 1468 (by decide +kernel) (by decide +kernel)
theorem zw1469 : (Jvm.Cond.methodLink "SaltFarmLaw" (139 : Nat) ({ cls := "SaltFarmModel", name := "count", desc := "(I)I" } : Jvm.MethodName)) ∈ zALL := zin 1469 (by decide +kernel) (by decide +kernel)
theorem zw1470 : (Jvm.Cond.instanceMethod ({ cls := "SaltFarmModel", name := "count", desc := "(I)I" } : Jvm.MethodName)) ∈ zALL := zin 1470 (by decide +kernel) (by decide +kernel)
theorem zw1471 : (Jvm.Cond.selects "SaltFarmModel" ({ cls := "SaltFarmModel", name := "count", desc := "(I)I" } : Jvm.MethodName) ({ cls := "SaltFarmModel", name := "count", desc := "(I)I" } : Jvm.MethodName)) ∈ zALL := zin 1471 (by decide +kernel) (by decide +kernel)
theorem zw1472 : (Jvm.Cond.code ({ cls := "SaltFarmModel", name := "count", desc := "(I)I" } : Jvm.MethodName) prog_14_method_69_code (4 : Nat) (Option.some Jvm.ClassFile.FieldType.int)) ∈ zALL := zin 1472 (by decide +kernel) (by decide +kernel)
theorem zw1473 : (Jvm.Cond.methodLink "SaltFarmLaw" (143 : Nat) ({ cls := "SaltFarmModel", name := "trouble", desc := "()I" } : Jvm.MethodName)) ∈ zALL := zin 1473 (by decide +kernel) (by decide +kernel)
theorem zw1474 : (Jvm.Cond.instanceMethod ({ cls := "SaltFarmModel", name := "trouble", desc := "()I" } : Jvm.MethodName)) ∈ zALL := zin 1474 (by decide +kernel) (by decide +kernel)
theorem zw1475 : (Jvm.Cond.selects "SaltFarmModel" ({ cls := "SaltFarmModel", name := "trouble", desc := "()I" } : Jvm.MethodName) ({ cls := "SaltFarmModel", name := "trouble", desc := "()I" } : Jvm.MethodName)) ∈ zALL := zin 1475 (by decide +kernel) (by decide +kernel)
theorem zw1476 : (Jvm.Cond.code ({ cls := "SaltFarmModel", name := "trouble", desc := "()I" } : Jvm.MethodName) prog_14_method_70_code (1 : Nat) (Option.some Jvm.ClassFile.FieldType.int)) ∈ zALL := zin 1476 (by decide +kernel) (by decide +kernel)
theorem zw1478 : (Jvm.Cond.fieldLink "java/lang/String" (9 : Nat) "java/lang/String" "value" "[B") ∈ zALL := zin 1478 (by decide +kernel) (by decide +kernel)
theorem zw1479 : (Jvm.Cond.fieldLink "java/lang/String" (15 : Nat) "java/lang/String" "coder" "B") ∈ zALL := zin 1479 (by decide +kernel) (by decide +kernel)
end
section
-- the shape of a site: below 100 an object of that class of zcl; 100 int[], 101 long[], 102 byte[], 103 boolean[]; 110 + c: an array of class c
def zshp : Nat → Nat
  | 0 => 11
  | 1 => 14
  | 10 => 100
  | 11 => 100
  | 12 => 100
  | 13 => 100
  | 14 => 100
  | 15 => 100
  | 16 => 122
  | 17 => 12
  | 18 => 13
  | 19 => 102
  | 20 => 100
  | 21 => 100
  | 22 => 100
  | 23 => 100
  | 24 => 100
  | 25 => 100
  | 26 => 100
  | 27 => 100
  | 28 => 100
  | 29 => 100
  | 30 => 100
  | 31 => 100
  | 32 => 100
  | 33 => 101
  | 34 => 12
  | 35 => 103
  | 36 => 100
  | 37 => 100
  | 38 => 100
  | 39 => 100
  | 40 => 100
  | 50 => 115
  | 51 => 110
  | 52 => 117
  | 53 => 8
  | 54 => 4
  | 55 => 2
  | 56 => 3
  | 57 => 10
  | 58 => 5
  | 59 => 0
  | 60 => 1
  | 61 => 7
  | 62 => 111
  | 63 => 6
  | 64 => 100
  | 65 => 101
  | 66 => 101
  | 67 => 100
  | 68 => 100
  | 69 => 100
  | 70 => 100
  | 71 => 100
  | 72 => 100
  | 73 => 9
  | 74 => 100
  | 75 => 100
  | 76 => 100
  | 77 => 100
  | 78 => 100
  | 79 => 102
  | 80 => 100
  | 81 => 100
  | 82 => 100
  | 83 => 100
  | _ => 999
end
section
-- THE ABSTRACT HEAP: a cell is (site, number of its making at that site)
abbrev zRf : Type := Nat × Nat
abbrev zV : Type := Int32 ⊕ (Int64 ⊕ Option (Nat × Nat))
abbrev Vi (x : Int32) : zV := Sum.inl x
abbrev Vj (x : Int64) : zV := Sum.inr (Sum.inl x)
abbrev Vq (q : Option (Nat × Nat)) : zV := Sum.inr (Sum.inr q)
def zenc (ad : zRf → Nat) (v : zV) : Value := match v with
  | .inl x => .int x
  | .inr (.inl x) => .long x
  | .inr (.inr q) => va_rf (q.map ad)
/-- ints; longs; references; lengths; how many made at a site; cells made; slots made -/
abbrev zH : Type := (Nat → Nat → Nat → Int32) × (Nat → Nat → Nat → Int64) × (Nat → Nat → Nat → Option (Nat × Nat)) × (Nat → Nat → Nat) × (Nat → Nat) × Nat × Nat
def zI (h : zH) : Nat → Nat → Nat → Int32 := h.1
def zL (h : zH) : Nat → Nat → Nat → Int64 := h.2.1
def zR (h : zH) : Nat → Nat → Nat → Option (Nat × Nat) := h.2.2.1
def zN (h : zH) : Nat → Nat → Nat := h.2.2.2.1
def zC (h : zH) : Nat → Nat := h.2.2.2.2.1
def zc (h : zH) : Nat := h.2.2.2.2.2.1
def zs (h : zH) : Nat := h.2.2.2.2.2.2
def zsI (h : zH) (k i j : Nat) (v : Int32) : zH := (fun a b c => if a = k ∧ b = i ∧ c = j then v else h.1 a b c, h.2)
def zsL (h : zH) (k i j : Nat) (v : Int64) : zH := (h.1, fun a b c => if a = k ∧ b = i ∧ c = j then v else h.2.1 a b c, h.2.2)
def zsR (h : zH) (k i j : Nat) (v : Option (Nat × Nat)) : zH := (h.1, h.2.1, fun a b c => if a = k ∧ b = i ∧ c = j then v else h.2.2.1 a b c, h.2.2.2)
/-- a run of ints copied: from (k, i) at sp to (k2, i2) at dp, n of them -/
def zcp (h : zH) (k i sp k2 i2 dp n : Nat) : zH := (fun a b => if a = k2 ∧ b = i2 then va_cpy (h.1 k i) (h.1 k2 i2) sp dp n else h.1 a b, h.2)
/-- a new cell at site k, of length n (arrays), of w slots -/
def znew (h : zH) (k n w : Nat) : zH :=
  (fun a b c => if a = k ∧ b = zC h k then 0 else h.1 a b c, fun a b c => if a = k ∧ b = zC h k then 0 else h.2.1 a b c, fun a b c => if a = k ∧ b = zC h k then none else h.2.2.1 a b c,
   fun a b => if a = k ∧ b = zC h k then n else h.2.2.2.1 a b, fun a => if a = k then h.2.2.2.2.1 a + 1 else h.2.2.2.2.1 a, h.2.2.2.2.2.1 + 1, h.2.2.2.2.2.2 + w)
abbrev zO : Type := Option zV ⊕ zRf
def zencO (ad : zRf → Nat) (o : zO) : Outcome := match o with
  | .inl v => .returned (v.map (zenc ad))
  | .inr r => .threw (ad r)
def zal (h : zH) (r : zRf) : Prop := r.2 < zC h r.1 ∨ 900 ≤ r.1
def zalV (h : zH) (v : zV) : Prop := match v with
  | .inr (.inr (some r)) => zal h r
  | _ => True
def zalO (h : zH) (o : zO) : Prop := match o with
  | .inl (some v) => zalV h v
  | .inl none => True
  | .inr r => zal h r
/-- classes' numbers, their slots; which cells may change; the addresses of what is outside; the script's length and ints -/
abbrev zEv : Type := (Nat → ClassId) × (Nat → Nat → Nat) × (Nat → Prop) × (zRf → Nat) × Nat × (Nat → Int32) × (Nat → Option (Nat × Nat))
abbrev zD (E : zEv) : va_G := (E.1, E.2.1)
abbrev zA (E : zEv) : Nat → Prop := E.2.2.1
abbrev zX (E : zEv) : zRf → Nat := E.2.2.2.1
abbrev zSL (E : zEv) : Nat := E.2.2.2.2.1
abbrev zSx (E : zEv) : Nat → Int32 := E.2.2.2.2.2.1
/-- the JDK's three static references -/
abbrev zSu (E : zEv) : Nat → Option (Nat × Nat) := E.2.2.2.2.2.2
/-- the texts of the string constants: class, entry, text, number of the text -/
def zstr : List (String × Nat × String × Nat) := [("SaltFarm$Tokens", 50, "price", 0), ("SaltFarm$Tokens", 56, "duty", 1), ("SaltFarm$Tokens", 58, "when", 2), ("SaltFarm$Tokens", 60, "and", 3), ("SaltFarm$Tokens", 62, "is", 4), ("SaltFarm$Tokens", 67, "year", 5), ("SaltFarm$Tokens", 69, "mouths", 6), ("SaltFarm$Tokens", 71, "need", 7), ("SaltFarm$Tokens", 73, "old", 8),
  ("SaltFarmModel", 189, "price", 0), ("SaltFarmModel", 194, "duty", 1), ("SaltFarmModel", 195, "when", 2), ("SaltFarmModel", 197, "and", 3), ("SaltFarmModel", 199, "is", 4), ("SaltFarmModel", 204, "year", 5), ("SaltFarmModel", 206, "mouths", 6), ("SaltFarmModel", 207, "need", 7), ("SaltFarmModel", 208, "old", 8)]
def zbyt : List (List Int32) := [[112, 114, 105, 99, 101], [100, 117, 116, 121], [119, 104, 101, 110], [97, 110, 100], [105, 115], [121, 101, 97, 114], [109, 111, 117, 116, 104, 115], [110, 101, 101, 100], [111, 108, 100]]
def zlen : List Nat := [5, 4, 4, 3, 2, 4, 6, 4, 3]
/-- what holds of the world outside, at a state -/
def zEnv (E : zEv) (U : State) (H : Heap) : Prop :=
  (∀ w ∈ zNest, va_Nw w U) ∧ (∀ C : String, Cond.arrayOver (.object C) ∈ zAO → va_AO C U) ∧ vk_S 9 zlen zbyt (fun j => zX E (1000 + j, 0)) (fun j => zX E (1100 + j, 0)) (zA E) U H ∧
  (∀ q ∈ zstr, vk_R q.1 q.2.1 q.2.2.1 (zX E (1000 + q.2.2.2, 0)) U) ∧ va_Z "java/lang/String" "COMPACT_STRINGS" "Z" (.int 1) (zA E) U H ∧
  va_Z "java/lang/Throwable" "UNASSIGNED_STACK" "[Ljava/lang/StackTraceElement;" (va_rf ((zSu E 0).map (zX E))) (zA E) U H ∧ va_Z "java/lang/Throwable" "SUPPRESSED_SENTINEL" "Ljava/util/List;" (va_rf ((zSu E 1).map (zX E))) (zA E) U H ∧ va_Z "jdk/internal/util/Preconditions" "SIOOBE_FORMATTER" "Ljava/util/function/BiFunction;" (va_rf ((zSu E 2).map (zX E))) (zA E) U H ∧
  va_X (zX E (999, 0)) (zSL E) (zSx E) U H ∧ ¬ zA E (zX E (999, 0)) ∧ zX E (999, 0) < H.size
def zel (n : Nat) : FieldType := match n with
  | 100 => .int
  | 101 => .long
  | 102 => .byte
  | 103 => .boolean
  | n => .object ((zcl[n - 110]?.map (fun q => q.1)).getD "")
def zfv (ad : zRf → Nat) (h : zH) (r : zRf) (ty : FieldType) (j : Nat) : Value := match ty with
  | .long => .long (zL h r.1 r.2 j)
  | .object _ => va_rf ((zR h r.1 r.2 j).map ad)
  | .array _ => va_rf ((zR h r.1 r.2 j).map ad)
  | _ => .int (zI h r.1 r.2 j)
def znf (ci : Nat) : Nat := (zcl[ci]?.map (fun q => q.2.2)).getD 0
def zfs (ad : zRf → Nat) (h : zH) (r : zRf) (ci : Nat) : List Value := (List.range (znf ci)).map (fun j => zfv ad h r (zty ci j) j)
def zcell (ad : zRf → Nat) (ca : zRf → ClassId) (h : zH) (r : zRf) : va_E :=
  if zshp r.1 < 100 then .inr (zshp r.1, zfs ad h r (zshp r.1))
  else if zshp r.1 = 101 then .inl (ca r, zN h r.1 r.2, .inr (.inl (zL h r.1 r.2)))
  else if zshp r.1 < 110 then .inl (ca r, zN h r.1 r.2, .inl (zI h r.1 r.2))
  else .inl (ca r, zN h r.1 r.2, .inr (.inr (.inr (.inr (fun j => (zR h r.1 r.2 j).map ad)))))
def zws (ns : List zRf) (ad : zRf → Nat) (ca : zRf → ClassId) (h : zH) : va_W := ns.map (fun r => (ad r, zcell ad ca h r))
/-- the heap H holds the abstract heap h, by the addresses ad -/
def zHp (E : zEv) (ad : zRf → Nat) (U : State) (h : zH) (H : Heap) : Prop :=
  (∀ r : zRf, 900 ≤ r.1 → ad r = zX E r) ∧ (zN h 999 0 = zSL E ∧ zI h 999 0 = zSx E ∧ zR h 998 0 = zSu E ∧ ∀ (j : Nat) (r : zRf), zSu E j = some r → 900 ≤ r.1) ∧ (∀ k, 900 ≤ k → zC h k = 0) ∧
  ∃ (ns : List zRf) (ca : zRf → ClassId) (tys : List (ClassId × FieldType)), ns.Nodup ∧ (∀ r : zRf, r ∈ ns ↔ r.2 < zC h r.1) ∧ va_K (zD E) zcl tys U ∧ va_P (zD E) zcl (zws ns ad ca h) H ∧ va_D (zA E) (zws ns ad ca h) ∧
    (∀ r ∈ ns, 100 ≤ zshp r.1 → ∃ t0 : Nat, tys[t0]? = some (ca r, zel (zshp r.1))) ∧ ∀ r ∈ ns, ∀ (j : Nat) (r' : zRf), zR h r.1 r.2 j = some r' → zal h r'
-- METHODS
abbrev zM : Type := MethodName × ByteArray × Nat × Option FieldType × List (Nat × Nat × Nat × Nat)
abbrev zMy (M : zM) : MethodName := M.1
abbrev zMc (M : zM) : ByteArray := M.2.1
abbrev zMn (M : zM) : Nat := M.2.2.1
abbrev zMr (M : zM) : Option FieldType := M.2.2.2.1
abbrev zMh (M : zM) : List (Nat × Nat × Nat × Nat) := M.2.2.2.2
def zMw (M : zM) : Cond := match zMh M with
  | [] => .code (zMy M) (zMc M) (zMn M) (zMr M)
  | h :: t => .codeWith (zMy M) (zMc M) (zMn M) (zMr M) (h :: t)
def zLo (ad : zRf → Nat) (nL : Nat) (ls : List (Option zV)) (la : Array Slot) : Prop :=
  la.size = nL ∧ lv_wf la ∧ ∀ (i : Nat) (v : zV), ls[i]? = some (some v) → la[i]? = some (.val (zenc ad v))
def zCx (l : Launch) (M : zM) (d : Nat) (E : zEv) (p : Program) (e : Env) (R : Room) (s : State) (m : MethodId) (args : Array Value) (below : List Frame) (meth : Method) (c : Code) : Prop :=
  p.tables.exec = Jvm.exec ∧ c.code = zMc M ∧ meth.sig.returnType = zMr M ∧ c.maxLocals = zMn M ∧ s.vm.findClass (zMy M).cls = some m.cls ∧ (∀ w ∈ zALL, w.before args s = true) ∧ meth.locks = false ∧ meth.name = (zMy M).name ∧
  c.exceptionTable.toList.map (fun h => (h.startPc, h.endPc, h.handlerPc, h.catchType)) = zMh M ∧ d ≤ R.frames ∧ 40 * d ≤ R.locals ∧ (∀ q, s.heap.size ≤ q → zA E q) ∧ zEnv E s s.heap
def zFin (E : zEv) (ad : zRf → Nat) (h : zH) (s : State) (below : List Frame) (cells slots : Nat) (o : zO) (h' : zH) (t : State) : Prop :=
  t.status = .running ∧ ∃ ad' : zRf → Nat, (∀ r, zal h r → ad' r = ad r) ∧ Ended t below (zencO ad' o) ∧ zalO h' o ∧ zHp E ad' t h' t.heap ∧ va_F (zA E) s t ∧ s.WarmedH t.vm ∧
    ∃ L : List Loc, s.sameButNew ({ t with vm := s.vm } : State) L (cells + (zc h' - zc h)) (slots + (zs h' - zs h)) ∧ ∀ q ∈ L, zA E q.base
/-- sites only grow -/
def zLe (h h2 : zH) : Prop := (∀ k, zC h k ≤ zC h2 k) ∧ zc h ≤ zc h2 ∧ zs h ≤ zs h2
/-- FROM HERE the method M, at pc with these locals, stack and heap, ends with o and h' -/
def zRn (l : Launch) (M : zM) (d pc : Nat) (ls : List (Option zV)) (st : List zV) (h : zH) (o : zO) (h' : zH) : Prop :=
  zLe h h' ∧ ∀ (E : zEv) (p : Program) (e : Env) (R : Room) (s : State) (m : MethodId) (args : Array Value) (below : List Frame) (meth : Method) (c : Code) (H : Heap) (locs : List Loc) (cells slots : Nat) (ad : zRf → Nat) (la : Array Slot),
    zCx l M d E p e R s m args below meth c → zHp E ad s h H → va_S (zA E) s.heap H locs → zLo ad (zMn M) ls la → (∀ v ∈ st, zalV h v) → (∀ v, some v ∈ ls → zalV h v) →
    cells + (zc h' - zc h) ≤ R.cells → slots + (zs h' - zs h) ≤ R.slots →
    W p l e R s m args below meth c H locs cells slots (zFin E ad h s below cells slots o h') (F0 m pc la (st.map (zenc ad)))
def zPc (E : zEv) (ad : zRf → Nat) (as : List zV) (h : zH) : Array Value → State → Prop := fun v U =>
  v = (as.map (zenc ad)).toArray ∧ zEnv E U U.heap ∧ zHp E ad U h U.heap ∧ (∀ q, U.heap.size ≤ q → zA E q) ∧ ∀ v ∈ as, zalV h v
def zQc (E : zEv) (ad : zRf → Nat) (h : zH) (o : zO) (h' : zH) : Array Value → State → Outcome → State → Prop := fun _ st oc t =>
  ∃ ad' : zRf → Nat, (∀ r, zal h r → ad' r = ad r) ∧ oc = zencO ad' o ∧ zalO h' o ∧ zHp E ad' t h' t.heap ∧ va_F (zA E) st t
def zrm (d : Nat) (h h' : zH) : Room := { frames := d, cells := zc h' - zc h, slots := zs h' - zs h, locals := 40 * d }
/-- CALLED with these arguments on h, the method ends with o and h' -/
def zCl (l : Launch) (d : Nat) (M : zM) (as : List zV) (h : zH) (o : zO) (h' : zH) : Prop :=
  zLe h h' ∧ ∀ (E : zEv) (ad : zRf → Nat), MetFree l (zMy M) (headSpec (zMw M :: zALL) (zrm d h h')) (zPc E ad as h) (fun _ _ _ _ _ => True)
    (fun a st oc t => zQc E ad h o h' a st oc t ∧ st.WarmedH t.vm ∧ ∃ L : List Loc, st.sameButNew ({ t with vm := st.vm } : State) L (zc h' - zc h) (zs h' - zs h) ∧ ∀ q ∈ L, zA E q.base)
-- FIRST LAWS
theorem zLe.rf (h : zH) : zLe h h := ⟨fun _ => Nat.le_refl _, Nat.le_refl _, Nat.le_refl _⟩
theorem zLe.tr {a b c : zH} (x : zLe a b) (y : zLe b c) : zLe a c := ⟨fun k => Nat.le_trans (x.1 k) (y.1 k), Nat.le_trans x.2.1 y.2.1, Nat.le_trans x.2.2 y.2.2⟩
theorem zal.le {h h2 : zH} (x : zLe h h2) {r : zRf} (a : zal h r) : zal h2 r := a.imp (fun q => Nat.lt_of_lt_of_le q (x.1 r.1)) id
theorem zalV.le {h h2 : zH} (x : zLe h h2) {v : zV} (a : zalV h v) : zalV h2 v := by
  rcases v with i | j | q
  · trivial
  · trivial
  · cases q with
    | none => trivial
    | some r => exact zal.le x a
theorem zenc_same {ad ad2 : zRf → Nat} {h : zH} (e : ∀ r, zal h r → ad2 r = ad r) {v : zV} (a : zalV h v) : zenc ad2 v = zenc ad v := by
  rcases v with i | j | q
  · rfl
  · rfl
  · cases q with
    | none => rfl
    | some r => show va_rf (some (ad2 r)) = va_rf (some (ad r)); rw [e r a]
theorem zenc_list {ad ad2 : zRf → Nat} {h : zH} (e : ∀ r, zal h r → ad2 r = ad r) {st : List zV} (a : ∀ v ∈ st, zalV h v) : st.map (zenc ad2) = st.map (zenc ad) :=
  List.map_congr_left (fun v hv => zenc_same e (a v hv))
theorem zLo.same {ad ad2 : zRf → Nat} {h : zH} {nL : Nat} {ls : List (Option zV)} {la : Array Slot} (e : ∀ r, zal h r → ad2 r = ad r) (a : ∀ v, some v ∈ ls → zalV h v) (x : zLo ad nL ls la) : zLo ad2 nL ls la :=
  ⟨x.1, x.2.1, fun i v hi => by rw [zenc_same e (a v (List.mem_of_getElem? hi))]; exact x.2.2 i v hi⟩
theorem zFin.back {E : zEv} {ad ad2 : zRf → Nat} {h h2 h' : zH} {s : State} {below : List Frame} {cells slots : Nat} {o : zO} {t : State} (x : zLe h h2) (y : zLe h2 h') (e : ∀ r, zal h r → ad2 r = ad r)
    (f : zFin E ad2 h2 s below (cells + (zc h2 - zc h)) (slots + (zs h2 - zs h)) o h' t) : zFin E ad h s below cells slots o h' t := by
  obtain ⟨f1, ad', f2, f3, f4, f5, f6, f7, L, f8, f9⟩ := f
  have e1 : cells + (zc h2 - zc h) + (zc h' - zc h2) = cells + (zc h' - zc h) := by have := x.2.1; have := y.2.1; omega
  have e2 : slots + (zs h2 - zs h) + (zs h' - zs h2) = slots + (zs h' - zs h) := by have := x.2.2; have := y.2.2; omega
  rw [e1, e2] at f8
  exact ⟨f1, ad', fun r hr => (f2 r (hr.le x)).trans (e r hr), f3, f4, f5, f6, f7, L, f8, f9⟩
/-- a step, in general -/
theorem zRn.step {l : Launch} {M : zM} {d pc pc2 : Nat} {ls ls2 : List (Option zV)} {st st2 : List zV} {h h2 h' : zH} {o : zO} (le : zLe h h2) (k : zRn l M d pc2 ls2 st2 h2 o h')
    (row : ∀ (E : zEv) (p : Program) (e : Env) (R : Room) (s : State) (m : MethodId) (args : Array Value) (below : List Frame) (meth : Method) (c : Code) (H : Heap) (locs : List Loc) (cells slots : Nat) (ad : zRf → Nat) (la : Array Slot) (Q : State → Prop),
      zCx l M d E p e R s m args below meth c → zHp E ad s h H → va_S (zA E) s.heap H locs → zLo ad (zMn M) ls la → (∀ v ∈ st, zalV h v) → (∀ v, some v ∈ ls → zalV h v) → cells + (zc h2 - zc h) ≤ R.cells → slots + (zs h2 - zs h) ≤ R.slots →
      (∀ (ad2 : zRf → Nat) (H2 : Heap) (locs2 : List Loc) (la2 : Array Slot), (∀ r, zal h r → ad2 r = ad r) → zHp E ad2 s h2 H2 → va_S (zA E) s.heap H2 locs2 → zLo ad2 (zMn M) ls2 la2 → (∀ v ∈ st2, zalV h2 v) → (∀ v, some v ∈ ls2 → zalV h2 v) →
        W p l e R s m args below meth c H2 locs2 (cells + (zc h2 - zc h)) (slots + (zs h2 - zs h)) Q (F0 m pc2 la2 (st2.map (zenc ad2)))) →
      W p l e R s m args below meth c H locs cells slots Q (F0 m pc la (st.map (zenc ad)))) : zRn l M d pc ls st h o h' := by
  refine ⟨le.tr k.1, ?_⟩
  intro E p e R s m args below meth c H locs cells slots ad la cx hp hs hl ha hb hc hd
  have q1 := le.2.1; have q2 := le.2.2; have q3 := k.1.2.1; have q4 := k.1.2.2
  refine row E p e R s m args below meth c H locs cells slots ad la _ cx hp hs hl ha hb (by omega) (by omega) ?_
  intro ad2 H2 locs2 la2 he hp2 hs2 hl2 ha2 hb2
  have kk := k.2 E p e R s m args below meth c H2 locs2 (cells + (zc h2 - zc h)) (slots + (zs h2 - zs h)) ad2 la2 cx hp2 hs2 hl2 ha2 hb2 (by omega) (by omega)
  intro T hT X
  obtain ⟨t, a, b⟩ := kk T hT X
  exact ⟨t, a, b.back le k.1 he⟩
/-- a step that leaves the heap -/
theorem zRn.pure {l : Launch} {M : zM} {d pc pc2 : Nat} {ls ls2 : List (Option zV)} {st st2 : List zV} {h h' : zH} {o : zO} (k : zRn l M d pc2 ls2 st2 h o h')
    (al : (∀ v ∈ st, zalV h v) → (∀ v, some v ∈ ls → zalV h v) → (∀ v ∈ st2, zalV h v) ∧ ∀ v, some v ∈ ls2 → zalV h v)
    (row : ∀ (E : zEv) (p : Program) (e : Env) (R : Room) (s : State) (m : MethodId) (args : Array Value) (below : List Frame) (meth : Method) (c : Code) (H : Heap) (locs : List Loc) (cells slots : Nat) (ad : zRf → Nat) (la : Array Slot) (Q : State → Prop),
      zCx l M d E p e R s m args below meth c → zHp E ad s h H → va_S (zA E) s.heap H locs → zLo ad (zMn M) ls la → cells ≤ R.cells → slots ≤ R.slots →
      (∀ la2 : Array Slot, zLo ad (zMn M) ls2 la2 → W p l e R s m args below meth c H locs cells slots Q (F0 m pc2 la2 (st2.map (zenc ad)))) →
      W p l e R s m args below meth c H locs cells slots Q (F0 m pc la (st.map (zenc ad)))) : zRn l M d pc ls st h o h' := by
  refine zRn.step (zLe.rf h) k ?_
  intro E p e R s m args below meth c H locs cells slots ad la Q cx hp hs hl ha hb hc hd kk
  rw [Nat.sub_self, Nat.add_zero] at hc hd kk
  refine row E p e R s m args below meth c H locs cells slots ad la Q cx hp hs hl hc hd (fun la2 hl2 => ?_)
  rw [Nat.sub_self, Nat.add_zero] at kk
  exact kk ad H locs la2 (fun _ _ => rfl) hp hs hl2 (al ha hb).1 (al ha hb).2
end
section
-- ROWS THAT LEAVE THE HEAP
def zcat (v : zV) : Nat := match v with
  | .inr (.inl _) => 2
  | _ => 1
theorem zcat_enc (ad : zRf → Nat) (v : zV) : (zenc ad v).category = zcat v := by
  rcases v with i | j | q
  · rfl
  · rfl
  · cases q <;> rfl
def zlv (ad : zRf → Nat) (nL : Nat) (ls : List (Option zV)) : List (Nat × Value) := (List.range nL).filterMap (fun i => (ls[i]?.join).map (fun v => (i, zenc ad v)))
theorem zlv_mem {ad : zRf → Nat} {nL i : Nat} {ls : List (Option zV)} {v : zV} (hi : i < nL) (h : ls[i]? = some (some v)) : (i, zenc ad v) ∈ zlv ad nL ls :=
  List.mem_filterMap.mpr ⟨i, List.mem_range.mpr hi, by rw [h]; rfl⟩
theorem zlv_of {ad : zRf → Nat} {nL : Nat} {ls : List (Option zV)} {q : Nat × Value} (h : q ∈ zlv ad nL ls) : ∃ v, ls[q.1]? = some (some v) ∧ q.2 = zenc ad v := by
  obtain ⟨i, -, hi⟩ := List.mem_filterMap.mp h
  cases hj : ls[i]? with
  | none => rw [hj] at hi; cases hi
  | some o =>
    cases o with
    | none => rw [hj] at hi; cases hi
    | some v => rw [hj] at hi; cases hi; exact ⟨v, hj, rfl⟩
theorem zLo.has {ad : zRf → Nat} {nL : Nat} {ls : List (Option zV)} {la : Array Slot} (x : zLo ad nL ls la) : lv_has la nL (zlv ad nL ls) :=
  ⟨x.1, x.2.1, fun q hq => by obtain ⟨v, h1, h2⟩ := zlv_of hq; rw [h2]; exact x.2.2 _ v h1⟩
/-- locals behind a store: a long ahead of the place is gone, and what a long lies over -/
def zput (ls : List (Option zV)) (i : Nat) (v : zV) : List (Option zV) :=
  let l1 := ls.set i (some v)
  let l2 := if zcat v = 2 then l1.set (i + 1) none else l1
  match i with
  | 0 => l2
  | j + 1 => match ls[j]? with
    | some (some w) => if zcat w = 2 then l2.set j none else l2
    | _ => l2
theorem zput_get {ls : List (Option zV)} {i : Nat} {v : zV} {k : Nat} {w : zV} (h : (zput ls i v)[k]? = some (some w)) : (k = i ∧ w = v) ∨ (k ≠ i ∧ ls[k]? = some (some w) ∧ ¬ (k + 1 = i ∧ zcat w = 2) ∧ ¬ (k = i + 1 ∧ zcat v = 2)) := by
  have key : ∀ l2 : List (Option zV), (l2 = if zcat v = 2 then (ls.set i (some v)).set (i + 1) none else ls.set i (some v)) → l2[k]? = some (some w) → (k = i ∧ w = v) ∨ (k ≠ i ∧ ls[k]? = some (some w) ∧ ¬ (k = i + 1 ∧ zcat v = 2)) := by
    intro l2 e hk
    by_cases hv : zcat v = 2
    · rw [if_pos hv] at e
      subst e
      by_cases h1 : k = i + 1
      · subst h1
        rw [List.getElem?_set] at hk
        simp at hk
      · rw [List.getElem?_set_ne (fun q => h1 q.symm)] at hk
        by_cases h2 : k = i
        · subst h2
          rw [List.getElem?_set] at hk
          simp at hk
          exact Or.inl ⟨rfl, hk.2.symm⟩
        · rw [List.getElem?_set_ne (fun q => h2 q.symm)] at hk
          exact Or.inr ⟨h2, hk, fun q => h1 q.1⟩
    · rw [if_neg hv] at e
      subst e
      by_cases h2 : k = i
      · subst h2
        rw [List.getElem?_set] at hk
        simp at hk
        exact Or.inl ⟨rfl, hk.2.symm⟩
      · rw [List.getElem?_set_ne (fun q => h2 q.symm)] at hk
        exact Or.inr ⟨h2, hk, fun q => hv q.2⟩
  cases i with
  | zero =>
    rcases key _ rfl h with q | ⟨q1, q2, q3⟩
    · exact Or.inl q
    · exact Or.inr ⟨q1, q2, fun z => by omega, q3⟩
  | succ j =>
    unfold zput at h
    dsimp only at h
    cases hj : ls[j]? with
    | none =>
      rw [hj] at h
      rcases key _ rfl h with q | ⟨q1, q2, q3⟩
      · exact Or.inl q
      · refine Or.inr ⟨q1, q2, fun z => ?_, q3⟩
        have : k = j := by omega
        subst this
        rw [hj] at q2; cases q2
    | some ow =>
      cases ow with
      | none =>
        rw [hj] at h
        rcases key _ rfl h with q | ⟨q1, q2, q3⟩
        · exact Or.inl q
        · refine Or.inr ⟨q1, q2, fun z => ?_, q3⟩
          have : k = j := by omega
          subst this
          rw [hj] at q2; cases q2
      | some w' =>
        rw [hj] at h
        dsimp only at h
        by_cases hw : zcat w' = 2
        · rw [if_pos hw] at h
          by_cases hkj : k = j
          · subst hkj
            rw [List.getElem?_set] at h
            simp at h
          · rw [List.getElem?_set_ne (fun q => hkj q.symm)] at h
            rcases key _ rfl h with q | ⟨q1, q2, q3⟩
            · exact Or.inl q
            · exact Or.inr ⟨q1, q2, fun z => hkj (by omega), q3⟩
        · rw [if_neg hw] at h
          rcases key _ rfl h with q | ⟨q1, q2, q3⟩
          · exact Or.inl q
          · refine Or.inr ⟨q1, q2, fun z => ?_, q3⟩
            have : k = j := by omega
            subst this
            rw [hj] at q2; cases q2
            exact hw z.2
theorem zput_al {h : zH} {ls : List (Option zV)} {i : Nat} {v : zV} (a : ∀ w, some w ∈ ls → zalV h w) (b : zalV h v) : ∀ w, some w ∈ zput ls i v → zalV h w := by
  intro w hw
  obtain ⟨k, hk⟩ := List.getElem?_of_mem hw
  rcases zput_get hk with ⟨-, rfl⟩ | ⟨-, q, -⟩
  · exact b
  · exact a w (List.mem_of_getElem? q)
theorem zLo.lt {ad : zRf → Nat} {nL i : Nat} {ls : List (Option zV)} {la : Array Slot} {v : zV} (x : zLo ad nL ls la) (h : ls[i]? = some (some v)) : i < nL := by
  have h1 := x.2.2 i v h
  rw [← x.1]
  exact (Array.getElem?_eq_some_iff.mp h1).1
theorem zLo.put1 {ad : zRf → Nat} {nL i : Nat} {ls : List (Option zV)} {la la' : Array Slot} {v : zV} (x0 : zLo ad nL ls la) (x : lv_has la' nL ((i, zenc ad v) :: (zlv ad nL ls).filter (fun q => !(q.1 == i) && !(q.1 + 1 == i && q.2.category == 2)))) : zLo ad nL (zput ls i v) la' := by
  refine ⟨x.1, x.2.1, fun k w hk => ?_⟩
  rcases zput_get hk with ⟨rfl, rfl⟩ | ⟨q1, q2, q3, -⟩
  · exact x.2.2 _ List.mem_cons_self
  · refine x.2.2 (k, zenc ad w) (List.mem_cons_of_mem _ (List.mem_filter.mpr ⟨zlv_mem (x0.lt q2) q2, ?_⟩))
    simp only [zcat_enc]
    simp only [Bool.and_eq_true, Bool.not_eq_true', beq_eq_false_iff_ne, ne_eq, Bool.and_eq_false_iff]
    refine ⟨q1, ?_⟩
    by_cases h1 : k + 1 = i
    · exact Or.inr (fun h2 => q3 ⟨h1, h2⟩)
    · exact Or.inl h1
theorem zLo.put2 {ad : zRf → Nat} {nL i : Nat} {ls : List (Option zV)} {la la' : Array Slot} {v : zV} (x0 : zLo ad nL ls la) (hv : zcat v = 2) (x : lv_has la' nL ((i, zenc ad v) :: (zlv ad nL ls).filter (fun q => !(q.1 == i) && (!(q.1 == i + 1) && !(q.1 + 1 == i && q.2.category == 2))))) : zLo ad nL (zput ls i v) la' := by
  refine ⟨x.1, x.2.1, fun k w hk => ?_⟩
  rcases zput_get hk with ⟨rfl, rfl⟩ | ⟨q1, q2, q3, q4⟩
  · exact x.2.2 _ List.mem_cons_self
  · refine x.2.2 (k, zenc ad w) (List.mem_cons_of_mem _ (List.mem_filter.mpr ⟨zlv_mem (x0.lt q2) q2, ?_⟩))
    simp only [zcat_enc]
    simp only [Bool.and_eq_true, Bool.not_eq_true', beq_eq_false_iff_ne, ne_eq, Bool.and_eq_false_iff]
    refine ⟨q1, fun h => q4 ⟨h, hv⟩, ?_⟩
    by_cases h1 : k + 1 = i
    · exact Or.inr (fun h2 => q3 ⟨h1, h2⟩)
    · exact Or.inl h1
end
section
-- ROWS THAT LEAVE THE HEAP, by program (wip/gen/rows.py)
/-- instruction ins of length len stands at pc, the next one at nx -/
def zAt (M : zM) (pc : Nat) (ins : Instr) (len nx : Nat) : Prop := decode (zMc M) pc = .ok (ins, len) ∧ nx = pc + len
def zchk (c : ByteArray) (T : List (Nat × Instr × Nat × Nat)) : Bool := T.all (fun q => decide (decode c q.1 = .ok (q.2.1, q.2.2.1)) && (q.2.2.2 == q.1 + q.2.2.1))
theorem zat {M : zM} {T : List (Nat × Instr × Nat × Nat)} (h : zchk (zMc M) T = true) (i : Nat) {pc len nx : Nat} {ins : Instr} (hi : T[i]? = some (pc, ins, len, nx)) : zAt M pc ins len nx := by
  have h1 := List.all_eq_true.mp h _ (List.mem_of_getElem? hi)
  rw [Bool.and_eq_true] at h1
  exact ⟨of_decide_eq_true h1.1, eq_of_beq h1.2⟩
/-- from here the method ends so that Q holds of its outcome and heap -/
def Wp (l : Launch) (M : zM) (d pc : Nat) (ls : List (Option zV)) (st : List zV) (h : zH) (Q : zO → zH → Prop) : Prop := ∃ (o : zO) (h' : zH), zRn l M d pc ls st h o h' ∧ Q o h'
theorem zk_cons {h : zH} {st : List zV} {v : zV} (a : ∀ v ∈ st, zalV h v) (b : zalV h v) : ∀ w ∈ v :: st, zalV h w := fun w hw => (List.mem_cons.mp hw).elim (fun e => e ▸ b) (a w)
theorem zk_tl {h : zH} {st : List zV} {v : zV} (a : ∀ w ∈ v :: st, zalV h w) : ∀ w ∈ st, zalV h w := fun w hw => a w (List.mem_cons_of_mem _ hw)
theorem zk_tl2 {h : zH} {st : List zV} {v v2 : zV} (a : ∀ w ∈ v :: v2 :: st, zalV h w) : ∀ w ∈ st, zalV h w := zk_tl (zk_tl a)
theorem zal_i (h : zH) (x : Int32) : zalV h (Vi x) := trivial
theorem zal_j (h : zH) (x : Int64) : zalV h (Vj x) := trivial
theorem zal_n (h : zH) : zalV h (Vq none) := trivial
section zROWS
variable {l : Launch} {M : zM} {d pc nx : Nat} {ls : List (Option zV)} {st : List zV} {h h' : zH} {o : zO} {Q : zO → zH → Prop}
theorem wst {pc2 : Nat} {ls2 : List (Option zV)} {st2 : List zV} {h2 : zH} (row : ∀ o h', zRn l M d pc2 ls2 st2 h2 o h' → zRn l M d pc ls st h o h') (k : Wp l M d pc2 ls2 st2 h2 Q) : Wp l M d pc ls st h Q := by
  obtain ⟨o, h', a, b⟩ := k
  exact ⟨o, h', row o h' a, b⟩
theorem R_iconst {n : Int} {v : Int32} (hd : zAt M pc (.iconst n) 1 nx) (hv : Int32.ofInt n = v) (k : zRn l M d nx ls (Vi v :: st) h o h') : zRn l M d pc ls (st) h o h' := by
  obtain ⟨hd, rfl⟩ := hd
  exact zRn.pure k (fun a b => ⟨zk_cons a (zal_i h v), b⟩) (fun E p e R s m args below meth c H locs cells slots ad la Q cx hp hs hl hc hd' kk => lv_iconst (v := v) cx.1 cx.2.1 hd hv (kk la hl))
theorem w_iconst {n : Int} {v : Int32} (hd : zAt M pc (.iconst n) 1 nx) (hv : Int32.ofInt n = v) (k : Wp l M d nx ls (Vi v :: st) h Q) : Wp l M d pc ls (st) h Q := wst (fun o h' a => R_iconst hd hv a) k
theorem R_bipush {n : Int} {v : Int32} (hd : zAt M pc (.bipush n) 2 nx) (hv : (Int8.ofInt n).toInt32 = v) (k : zRn l M d nx ls (Vi v :: st) h o h') : zRn l M d pc ls (st) h o h' := by
  obtain ⟨hd, rfl⟩ := hd
  exact zRn.pure k (fun a b => ⟨zk_cons a (zal_i h v), b⟩) (fun E p e R s m args below meth c H locs cells slots ad la Q cx hp hs hl hc hd' kk => lv_bipush (v := v) cx.1 cx.2.1 hd hv (kk la hl))
theorem w_bipush {n : Int} {v : Int32} (hd : zAt M pc (.bipush n) 2 nx) (hv : (Int8.ofInt n).toInt32 = v) (k : Wp l M d nx ls (Vi v :: st) h Q) : Wp l M d pc ls (st) h Q := wst (fun o h' a => R_bipush hd hv a) k
theorem R_sipush {n : Int} {v : Int32} (hd : zAt M pc (.sipush n) 3 nx) (hv : (Int16.ofInt n).toInt32 = v) (k : zRn l M d nx ls (Vi v :: st) h o h') : zRn l M d pc ls (st) h o h' := by
  obtain ⟨hd, rfl⟩ := hd
  exact zRn.pure k (fun a b => ⟨zk_cons a (zal_i h v), b⟩) (fun E p e R s m args below meth c H locs cells slots ad la Q cx hp hs hl hc hd' kk => lv_sipush (v := v) cx.1 cx.2.1 hd hv (kk la hl))
theorem w_sipush {n : Int} {v : Int32} (hd : zAt M pc (.sipush n) 3 nx) (hv : (Int16.ofInt n).toInt32 = v) (k : Wp l M d nx ls (Vi v :: st) h Q) : Wp l M d pc ls (st) h Q := wst (fun o h' a => R_sipush hd hv a) k
theorem R_lconst {n : Fin 2} {v : Int64} (hd : zAt M pc (.lconst n) 1 nx) (hv : Int64.ofNat (n : Nat) = v) (k : zRn l M d nx ls (Vj v :: st) h o h') : zRn l M d pc ls (st) h o h' := by
  obtain ⟨hd, rfl⟩ := hd
  exact zRn.pure k (fun a b => ⟨zk_cons a (zal_j h v), b⟩) (fun E p e R s m args below meth c H locs cells slots ad la Q cx hp hs hl hc hd' kk => lv_lconst (v := v) cx.1 cx.2.1 hd hv (kk la hl))
theorem w_lconst {n : Fin 2} {v : Int64} (hd : zAt M pc (.lconst n) 1 nx) (hv : Int64.ofNat (n : Nat) = v) (k : Wp l M d nx ls (Vj v :: st) h Q) : Wp l M d pc ls (st) h Q := wst (fun o h' a => R_lconst hd hv a) k
theorem R_null  (hd : zAt M pc .aconst_null 1 nx)  (k : zRn l M d nx ls (Vq none :: st) h o h') : zRn l M d pc ls (st) h o h' := by
  obtain ⟨hd, rfl⟩ := hd
  exact zRn.pure k (fun a b => ⟨zk_cons a (zal_n h), b⟩) (fun E p e R s m args below meth c H locs cells slots ad la Q cx hp hs hl hc hd' kk => lv_null cx.1 cx.2.1 hd (kk la hl))
theorem w_null  (hd : zAt M pc .aconst_null 1 nx)  (k : Wp l M d nx ls (Vq none :: st) h Q) : Wp l M d pc ls (st) h Q := wst (fun o h' a => R_null hd  a) k
theorem R_ldc {index : Nat} {v : Int32} (hd : zAt M pc (.ldc index) 2 nx) (hw : Cond.constant (zMy M).cls index v ∈ zALL) (k : zRn l M d nx ls (Vi v :: st) h o h') : zRn l M d pc ls (st) h o h' := by
  obtain ⟨hd, rfl⟩ := hd
  exact zRn.pure k (fun a b => ⟨zk_cons a (zal_i h v), b⟩) (fun E p e R s m args below meth c H locs cells slots ad la Q cx hp hs hl hc hd' kk => lv_ldc cx.1 cx.2.1 cx.2.2.2.2.1 (cx.2.2.2.2.2.1 _ hw) hd (kk la hl))
theorem w_ldc {index : Nat} {v : Int32} (hd : zAt M pc (.ldc index) 2 nx) (hw : Cond.constant (zMy M).cls index v ∈ zALL) (k : Wp l M d nx ls (Vi v :: st) h Q) : Wp l M d pc ls (st) h Q := wst (fun o h' a => R_ldc hd hw a) k
theorem R_ldcw {index : Nat} {v : Int32} (hd : zAt M pc (.ldc_w index) 3 nx) (hw : Cond.constant (zMy M).cls index v ∈ zALL) (k : zRn l M d nx ls (Vi v :: st) h o h') : zRn l M d pc ls (st) h o h' := by
  obtain ⟨hd, rfl⟩ := hd
  exact zRn.pure k (fun a b => ⟨zk_cons a (zal_i h v), b⟩) (fun E p e R s m args below meth c H locs cells slots ad la Q cx hp hs hl hc hd' kk => lv_ldcw cx.1 cx.2.1 cx.2.2.2.2.1 (cx.2.2.2.2.2.1 _ hw) hd (kk la hl))
theorem w_ldcw {index : Nat} {v : Int32} (hd : zAt M pc (.ldc_w index) 3 nx) (hw : Cond.constant (zMy M).cls index v ∈ zALL) (k : Wp l M d nx ls (Vi v :: st) h Q) : Wp l M d pc ls (st) h Q := wst (fun o h' a => R_ldcw hd hw a) k
theorem R_ldc2 {index : Nat} {v : Int64} (hd : zAt M pc (.ldc2_w index) 3 nx) (hw : Cond.constantLong (zMy M).cls index v ∈ zALL) (k : zRn l M d nx ls (Vj v :: st) h o h') : zRn l M d pc ls (st) h o h' := by
  obtain ⟨hd, rfl⟩ := hd
  exact zRn.pure k (fun a b => ⟨zk_cons a (zal_j h v), b⟩) (fun E p e R s m args below meth c H locs cells slots ad la Q cx hp hs hl hc hd' kk => lv_ldc2 cx.1 cx.2.1 cx.2.2.2.2.1 (cx.2.2.2.2.2.1 _ hw) hd (kk la hl))
theorem w_ldc2 {index : Nat} {v : Int64} (hd : zAt M pc (.ldc2_w index) 3 nx) (hw : Cond.constantLong (zMy M).cls index v ∈ zALL) (k : Wp l M d nx ls (Vj v :: st) h Q) : Wp l M d pc ls (st) h Q := wst (fun o h' a => R_ldc2 hd hw a) k
theorem R_iload_n {k : Fin 4} {x : Int32} (hd : zAt M pc (.iload_n k) 1 nx) (hx : ls[(k : Nat)]? = some (some (Vi x))) (k : zRn l M d nx ls (Vi x :: st) h o h') : zRn l M d pc ls (st) h o h' := by
  obtain ⟨hd, rfl⟩ := hd
  exact zRn.pure k (fun a b => ⟨zk_cons a (zal_i h x), b⟩) (fun E p e R s m args below meth c H locs cells slots ad la Q cx hp hs hl hc hd' kk => lv_iload_n cx.1 cx.2.1 hd rfl (hl.2.2 _ _ hx) (kk la hl))
theorem w_iload_n {k : Fin 4} {x : Int32} (hd : zAt M pc (.iload_n k) 1 nx) (hx : ls[(k : Nat)]? = some (some (Vi x))) (k : Wp l M d nx ls (Vi x :: st) h Q) : Wp l M d pc ls (st) h Q := wst (fun o h' a => R_iload_n hd hx a) k
theorem R_iload {i : Nat} {x : Int32} (hd : zAt M pc (.iload i) 2 nx) (hx : ls[i]? = some (some (Vi x))) (k : zRn l M d nx ls (Vi x :: st) h o h') : zRn l M d pc ls (st) h o h' := by
  obtain ⟨hd, rfl⟩ := hd
  exact zRn.pure k (fun a b => ⟨zk_cons a (zal_i h x), b⟩) (fun E p e R s m args below meth c H locs cells slots ad la Q cx hp hs hl hc hd' kk => lv_iload cx.1 cx.2.1 hd (hl.2.2 _ _ hx) (kk la hl))
theorem w_iload {i : Nat} {x : Int32} (hd : zAt M pc (.iload i) 2 nx) (hx : ls[i]? = some (some (Vi x))) (k : Wp l M d nx ls (Vi x :: st) h Q) : Wp l M d pc ls (st) h Q := wst (fun o h' a => R_iload hd hx a) k
theorem R_lload_n {k : Fin 4} {x : Int64} (hd : zAt M pc (.lload_n k) 1 nx) (hx : ls[(k : Nat)]? = some (some (Vj x))) (k : zRn l M d nx ls (Vj x :: st) h o h') : zRn l M d pc ls (st) h o h' := by
  obtain ⟨hd, rfl⟩ := hd
  exact zRn.pure k (fun a b => ⟨zk_cons a (zal_j h x), b⟩) (fun E p e R s m args below meth c H locs cells slots ad la Q cx hp hs hl hc hd' kk => lv_lload_n cx.1 cx.2.1 hd rfl (hl.2.2 _ _ hx) (kk la hl))
theorem w_lload_n {k : Fin 4} {x : Int64} (hd : zAt M pc (.lload_n k) 1 nx) (hx : ls[(k : Nat)]? = some (some (Vj x))) (k : Wp l M d nx ls (Vj x :: st) h Q) : Wp l M d pc ls (st) h Q := wst (fun o h' a => R_lload_n hd hx a) k
theorem R_lload {i : Nat} {x : Int64} (hd : zAt M pc (.lload i) 2 nx) (hx : ls[i]? = some (some (Vj x))) (k : zRn l M d nx ls (Vj x :: st) h o h') : zRn l M d pc ls (st) h o h' := by
  obtain ⟨hd, rfl⟩ := hd
  exact zRn.pure k (fun a b => ⟨zk_cons a (zal_j h x), b⟩) (fun E p e R s m args below meth c H locs cells slots ad la Q cx hp hs hl hc hd' kk => lv_lload cx.1 cx.2.1 hd (hl.2.2 _ _ hx) (kk la hl))
theorem w_lload {i : Nat} {x : Int64} (hd : zAt M pc (.lload i) 2 nx) (hx : ls[i]? = some (some (Vj x))) (k : Wp l M d nx ls (Vj x :: st) h Q) : Wp l M d pc ls (st) h Q := wst (fun o h' a => R_lload hd hx a) k
theorem R_aload_n {k : Fin 4} {q : Option zRf} (hd : zAt M pc (.aload_n k) 1 nx) (hx : ls[(k : Nat)]? = some (some (Vq q))) (k : zRn l M d nx ls (Vq q :: st) h o h') : zRn l M d pc ls (st) h o h' := by
  obtain ⟨hd, rfl⟩ := hd
  exact zRn.pure k (fun a b => ⟨zk_cons a (b _ (List.mem_of_getElem? hx)), b⟩) (fun E p e R s m args below meth c H locs cells slots ad la Q cx hp hs hl hc hd' kk => by
    have hv := hl.2.2 _ _ hx
    cases q with
    | none => exact lv_aload_nN cx.1 cx.2.1 hd rfl hv (kk la hl)
    | some r => exact lv_aload_n cx.1 cx.2.1 hd rfl hv (kk la hl))
theorem w_aload_n {k : Fin 4} {q : Option zRf} (hd : zAt M pc (.aload_n k) 1 nx) (hx : ls[(k : Nat)]? = some (some (Vq q))) (k : Wp l M d nx ls (Vq q :: st) h Q) : Wp l M d pc ls (st) h Q := wst (fun o h' a => R_aload_n hd hx a) k
theorem R_aload {i : Nat} {q : Option zRf} (hd : zAt M pc (.aload i) 2 nx) (hx : ls[i]? = some (some (Vq q))) (k : zRn l M d nx ls (Vq q :: st) h o h') : zRn l M d pc ls (st) h o h' := by
  obtain ⟨hd, rfl⟩ := hd
  exact zRn.pure k (fun a b => ⟨zk_cons a (b _ (List.mem_of_getElem? hx)), b⟩) (fun E p e R s m args below meth c H locs cells slots ad la Q cx hp hs hl hc hd' kk => by
    have hv := hl.2.2 _ _ hx
    cases q with
    | none => exact lv_aloadN cx.1 cx.2.1 hd hv (kk la hl)
    | some r => exact lv_aload cx.1 cx.2.1 hd hv (kk la hl))
theorem w_aload {i : Nat} {q : Option zRf} (hd : zAt M pc (.aload i) 2 nx) (hx : ls[i]? = some (some (Vq q))) (k : Wp l M d nx ls (Vq q :: st) h Q) : Wp l M d pc ls (st) h Q := wst (fun o h' a => R_aload hd hx a) k
theorem R_istore_n {k : Fin 4} {x : Int32} (hd : zAt M pc (.istore_n k) 1 nx) (hn : (k : Nat) < zMn M) (k : zRn l M d nx (zput ls (k : Nat) (Vi x)) (st) h o h') : zRn l M d pc ls (Vi x :: st) h o h' := by
  obtain ⟨hd, rfl⟩ := hd
  exact zRn.pure k (fun a b => ⟨zk_tl a, zput_al b (zal_i h x)⟩) (fun E p e R s m args below meth c H locs cells slots ad la Q cx hp hs hl hc hd' kk => lv_istore_n cx.1 cx.2.1 hd rfl hl.has hn rfl (fun la2 hl2 => kk la2 (zLo.put1 (v := Vi x) hl hl2)))
theorem w_istore_n {k : Fin 4} {x : Int32} (hd : zAt M pc (.istore_n k) 1 nx) (hn : (k : Nat) < zMn M) (k : Wp l M d nx (zput ls (k : Nat) (Vi x)) (st) h Q) : Wp l M d pc ls (Vi x :: st) h Q := wst (fun o h' a => R_istore_n hd hn a) k
theorem R_istore {i : Nat} {x : Int32} (hd : zAt M pc (.istore i) 2 nx) (hn : i < zMn M) (k : zRn l M d nx (zput ls i (Vi x)) (st) h o h') : zRn l M d pc ls (Vi x :: st) h o h' := by
  obtain ⟨hd, rfl⟩ := hd
  exact zRn.pure k (fun a b => ⟨zk_tl a, zput_al b (zal_i h x)⟩) (fun E p e R s m args below meth c H locs cells slots ad la Q cx hp hs hl hc hd' kk => lv_istore cx.1 cx.2.1 hd hl.has hn rfl (fun la2 hl2 => kk la2 (zLo.put1 (v := Vi x) hl hl2)))
theorem w_istore {i : Nat} {x : Int32} (hd : zAt M pc (.istore i) 2 nx) (hn : i < zMn M) (k : Wp l M d nx (zput ls i (Vi x)) (st) h Q) : Wp l M d pc ls (Vi x :: st) h Q := wst (fun o h' a => R_istore hd hn a) k
theorem R_lstore_n {k : Fin 4} {x : Int64} (hd : zAt M pc (.lstore_n k) 1 nx) (hn : (k : Nat) + 1 < zMn M) (k : zRn l M d nx (zput ls (k : Nat) (Vj x)) (st) h o h') : zRn l M d pc ls (Vj x :: st) h o h' := by
  obtain ⟨hd, rfl⟩ := hd
  exact zRn.pure k (fun a b => ⟨zk_tl a, zput_al b (zal_j h x)⟩) (fun E p e R s m args below meth c H locs cells slots ad la Q cx hp hs hl hc hd' kk => lv_lstore_n cx.1 cx.2.1 hd rfl hl.has hn rfl (fun la2 hl2 => kk la2 (zLo.put2 (v := Vj x) hl rfl hl2)))
theorem w_lstore_n {k : Fin 4} {x : Int64} (hd : zAt M pc (.lstore_n k) 1 nx) (hn : (k : Nat) + 1 < zMn M) (k : Wp l M d nx (zput ls (k : Nat) (Vj x)) (st) h Q) : Wp l M d pc ls (Vj x :: st) h Q := wst (fun o h' a => R_lstore_n hd hn a) k
theorem R_lstore {i : Nat} {x : Int64} (hd : zAt M pc (.lstore i) 2 nx) (hn : i + 1 < zMn M) (k : zRn l M d nx (zput ls i (Vj x)) (st) h o h') : zRn l M d pc ls (Vj x :: st) h o h' := by
  obtain ⟨hd, rfl⟩ := hd
  exact zRn.pure k (fun a b => ⟨zk_tl a, zput_al b (zal_j h x)⟩) (fun E p e R s m args below meth c H locs cells slots ad la Q cx hp hs hl hc hd' kk => lv_lstore cx.1 cx.2.1 hd hl.has hn rfl (fun la2 hl2 => kk la2 (zLo.put2 (v := Vj x) hl rfl hl2)))
theorem w_lstore {i : Nat} {x : Int64} (hd : zAt M pc (.lstore i) 2 nx) (hn : i + 1 < zMn M) (k : Wp l M d nx (zput ls i (Vj x)) (st) h Q) : Wp l M d pc ls (Vj x :: st) h Q := wst (fun o h' a => R_lstore hd hn a) k
theorem R_astore_n {k : Fin 4} {q : Option zRf} (hd : zAt M pc (.astore_n k) 1 nx) (hn : (k : Nat) < zMn M) (k : zRn l M d nx (zput ls (k : Nat) (Vq q)) (st) h o h') : zRn l M d pc ls (Vq q :: st) h o h' := by
  obtain ⟨hd, rfl⟩ := hd
  exact zRn.pure k (fun a b => ⟨zk_tl a, zput_al b (a _ List.mem_cons_self)⟩) (fun E p e R s m args below meth c H locs cells slots ad la Q cx hp hs hl hc hd' kk => by
    cases q with
    | none => exact lv_astore_nN cx.1 cx.2.1 hd rfl hl.has hn rfl (fun la2 hl2 => kk la2 (zLo.put1 (v := Vq none) hl hl2))
    | some r => exact lv_astore_n cx.1 cx.2.1 hd rfl hl.has hn rfl (fun la2 hl2 => kk la2 (zLo.put1 (v := Vq (some r)) hl hl2)))
theorem w_astore_n {k : Fin 4} {q : Option zRf} (hd : zAt M pc (.astore_n k) 1 nx) (hn : (k : Nat) < zMn M) (k : Wp l M d nx (zput ls (k : Nat) (Vq q)) (st) h Q) : Wp l M d pc ls (Vq q :: st) h Q := wst (fun o h' a => R_astore_n hd hn a) k
theorem R_astore {i : Nat} {q : Option zRf} (hd : zAt M pc (.astore i) 2 nx) (hn : i < zMn M) (k : zRn l M d nx (zput ls i (Vq q)) (st) h o h') : zRn l M d pc ls (Vq q :: st) h o h' := by
  obtain ⟨hd, rfl⟩ := hd
  exact zRn.pure k (fun a b => ⟨zk_tl a, zput_al b (a _ List.mem_cons_self)⟩) (fun E p e R s m args below meth c H locs cells slots ad la Q cx hp hs hl hc hd' kk => by
    cases q with
    | none => exact lv_astoreN cx.1 cx.2.1 hd hl.has hn rfl (fun la2 hl2 => kk la2 (zLo.put1 (v := Vq none) hl hl2))
    | some r => exact lv_astore cx.1 cx.2.1 hd hl.has hn rfl (fun la2 hl2 => kk la2 (zLo.put1 (v := Vq (some r)) hl hl2)))
theorem w_astore {i : Nat} {q : Option zRf} (hd : zAt M pc (.astore i) 2 nx) (hn : i < zMn M) (k : Wp l M d nx (zput ls i (Vq q)) (st) h Q) : Wp l M d pc ls (Vq q :: st) h Q := wst (fun o h' a => R_astore hd hn a) k
theorem R_iinc {i : Nat} {n : Int} {x v : Int32} (hd : zAt M pc (.iinc i n) 3 nx) (hx : ls[i]? = some (some (Vi x))) (hv : x + Int32.ofInt n = v) (k : zRn l M d nx (zput ls i (Vi v)) (st) h o h') : zRn l M d pc ls (st) h o h' := by
  obtain ⟨hd, rfl⟩ := hd
  exact zRn.pure k (fun a b => ⟨a, zput_al b (zal_i h v)⟩) (fun E p e R s m args below meth c H locs cells slots ad la Q cx hp hs hl hc hd' kk => by
    have hi := hl.lt hx
    obtain ⟨k, hk⟩ := List.getElem?_of_mem (zlv_mem (ad := ad) hi hx)
    exact lv_iinc cx.1 cx.2.1 hd hl.has hk hv hi rfl (fun la2 hl2 => kk la2 (zLo.put1 (v := Vi v) hl hl2)))
theorem w_iinc {i : Nat} {n : Int} {x v : Int32} (hd : zAt M pc (.iinc i n) 3 nx) (hx : ls[i]? = some (some (Vi x))) (hv : x + Int32.ofInt n = v) (k : Wp l M d nx (zput ls i (Vi v)) (st) h Q) : Wp l M d pc ls (st) h Q := wst (fun o h' a => R_iinc hd hx hv a) k
theorem R_iadd {x y : Int32} (hd : zAt M pc .iadd 1 nx)  (k : zRn l M d nx ls (Vi (x + y) :: st) h o h') : zRn l M d pc ls (Vi y :: Vi x :: st) h o h' := by
  obtain ⟨hd, rfl⟩ := hd
  exact zRn.pure k (fun a b => ⟨zk_cons (zk_tl2 a) (zal_i h _), b⟩) (fun E p e R s m args below meth c H locs cells slots ad la Q cx hp hs hl hc hd' kk => lv_iadd cx.1 cx.2.1 hd (kk la hl))
theorem w_iadd {x y : Int32} (hd : zAt M pc .iadd 1 nx)  (k : Wp l M d nx ls (Vi (x + y) :: st) h Q) : Wp l M d pc ls (Vi y :: Vi x :: st) h Q := wst (fun o h' a => R_iadd hd  a) k
theorem R_isub {x y : Int32} (hd : zAt M pc .isub 1 nx)  (k : zRn l M d nx ls (Vi (x - y) :: st) h o h') : zRn l M d pc ls (Vi y :: Vi x :: st) h o h' := by
  obtain ⟨hd, rfl⟩ := hd
  exact zRn.pure k (fun a b => ⟨zk_cons (zk_tl2 a) (zal_i h _), b⟩) (fun E p e R s m args below meth c H locs cells slots ad la Q cx hp hs hl hc hd' kk => lv_isub cx.1 cx.2.1 hd (kk la hl))
theorem w_isub {x y : Int32} (hd : zAt M pc .isub 1 nx)  (k : Wp l M d nx ls (Vi (x - y) :: st) h Q) : Wp l M d pc ls (Vi y :: Vi x :: st) h Q := wst (fun o h' a => R_isub hd  a) k
theorem R_imul {x y : Int32} (hd : zAt M pc .imul 1 nx)  (k : zRn l M d nx ls (Vi (x * y) :: st) h o h') : zRn l M d pc ls (Vi y :: Vi x :: st) h o h' := by
  obtain ⟨hd, rfl⟩ := hd
  exact zRn.pure k (fun a b => ⟨zk_cons (zk_tl2 a) (zal_i h _), b⟩) (fun E p e R s m args below meth c H locs cells slots ad la Q cx hp hs hl hc hd' kk => lv_imul cx.1 cx.2.1 hd (kk la hl))
theorem w_imul {x y : Int32} (hd : zAt M pc .imul 1 nx)  (k : Wp l M d nx ls (Vi (x * y) :: st) h Q) : Wp l M d pc ls (Vi y :: Vi x :: st) h Q := wst (fun o h' a => R_imul hd  a) k
theorem R_iand {x y : Int32} (hd : zAt M pc .iand 1 nx)  (k : zRn l M d nx ls (Vi (x &&& y) :: st) h o h') : zRn l M d pc ls (Vi y :: Vi x :: st) h o h' := by
  obtain ⟨hd, rfl⟩ := hd
  exact zRn.pure k (fun a b => ⟨zk_cons (zk_tl2 a) (zal_i h _), b⟩) (fun E p e R s m args below meth c H locs cells slots ad la Q cx hp hs hl hc hd' kk => lv_iand cx.1 cx.2.1 hd (kk la hl))
theorem w_iand {x y : Int32} (hd : zAt M pc .iand 1 nx)  (k : Wp l M d nx ls (Vi (x &&& y) :: st) h Q) : Wp l M d pc ls (Vi y :: Vi x :: st) h Q := wst (fun o h' a => R_iand hd  a) k
theorem R_ior {x y : Int32} (hd : zAt M pc .ior 1 nx)  (k : zRn l M d nx ls (Vi (x ||| y) :: st) h o h') : zRn l M d pc ls (Vi y :: Vi x :: st) h o h' := by
  obtain ⟨hd, rfl⟩ := hd
  exact zRn.pure k (fun a b => ⟨zk_cons (zk_tl2 a) (zal_i h _), b⟩) (fun E p e R s m args below meth c H locs cells slots ad la Q cx hp hs hl hc hd' kk => lv_ior cx.1 cx.2.1 hd (kk la hl))
theorem w_ior {x y : Int32} (hd : zAt M pc .ior 1 nx)  (k : Wp l M d nx ls (Vi (x ||| y) :: st) h Q) : Wp l M d pc ls (Vi y :: Vi x :: st) h Q := wst (fun o h' a => R_ior hd  a) k
theorem R_ishl {x y : Int32} (hd : zAt M pc .ishl 1 nx)  (k : zRn l M d nx ls (Vi (x <<< (y &&& 31)) :: st) h o h') : zRn l M d pc ls (Vi y :: Vi x :: st) h o h' := by
  obtain ⟨hd, rfl⟩ := hd
  exact zRn.pure k (fun a b => ⟨zk_cons (zk_tl2 a) (zal_i h _), b⟩) (fun E p e R s m args below meth c H locs cells slots ad la Q cx hp hs hl hc hd' kk => lv_ishl cx.1 cx.2.1 hd (kk la hl))
theorem w_ishl {x y : Int32} (hd : zAt M pc .ishl 1 nx)  (k : Wp l M d nx ls (Vi (x <<< (y &&& 31)) :: st) h Q) : Wp l M d pc ls (Vi y :: Vi x :: st) h Q := wst (fun o h' a => R_ishl hd  a) k
theorem R_ishr {x y : Int32} (hd : zAt M pc .ishr 1 nx)  (k : zRn l M d nx ls (Vi (x >>> (y &&& 31)) :: st) h o h') : zRn l M d pc ls (Vi y :: Vi x :: st) h o h' := by
  obtain ⟨hd, rfl⟩ := hd
  exact zRn.pure k (fun a b => ⟨zk_cons (zk_tl2 a) (zal_i h _), b⟩) (fun E p e R s m args below meth c H locs cells slots ad la Q cx hp hs hl hc hd' kk => lv_ishr cx.1 cx.2.1 hd (kk la hl))
theorem w_ishr {x y : Int32} (hd : zAt M pc .ishr 1 nx)  (k : Wp l M d nx ls (Vi (x >>> (y &&& 31)) :: st) h Q) : Wp l M d pc ls (Vi y :: Vi x :: st) h Q := wst (fun o h' a => R_ishr hd  a) k
theorem R_idiv {x y : Int32} (hd : zAt M pc .idiv 1 nx) (hne : ¬ y = 0) (k : zRn l M d nx ls (Vi (x / y) :: st) h o h') : zRn l M d pc ls (Vi y :: Vi x :: st) h o h' := by
  obtain ⟨hd, rfl⟩ := hd
  exact zRn.pure k (fun a b => ⟨zk_cons (zk_tl2 a) (zal_i h _), b⟩) (fun E p e R s m args below meth c H locs cells slots ad la Q cx hp hs hl hc hd' kk => lv_idiv cx.1 cx.2.1 hd hne (kk la hl))
theorem w_idiv {x y : Int32} (hd : zAt M pc .idiv 1 nx) (hne : ¬ y = 0) (k : Wp l M d nx ls (Vi (x / y) :: st) h Q) : Wp l M d pc ls (Vi y :: Vi x :: st) h Q := wst (fun o h' a => R_idiv hd hne a) k
theorem R_irem {x y : Int32} (hd : zAt M pc .irem 1 nx) (hne : ¬ y = 0) (k : zRn l M d nx ls (Vi (x - x / y * y) :: st) h o h') : zRn l M d pc ls (Vi y :: Vi x :: st) h o h' := by
  obtain ⟨hd, rfl⟩ := hd
  exact zRn.pure k (fun a b => ⟨zk_cons (zk_tl2 a) (zal_i h _), b⟩) (fun E p e R s m args below meth c H locs cells slots ad la Q cx hp hs hl hc hd' kk => lv_irem cx.1 cx.2.1 hd hne (kk la hl))
theorem w_irem {x y : Int32} (hd : zAt M pc .irem 1 nx) (hne : ¬ y = 0) (k : Wp l M d nx ls (Vi (x - x / y * y) :: st) h Q) : Wp l M d pc ls (Vi y :: Vi x :: st) h Q := wst (fun o h' a => R_irem hd hne a) k
theorem R_ineg {x : Int32} (hd : zAt M pc .ineg 1 nx)  (k : zRn l M d nx ls (Vi (-x) :: st) h o h') : zRn l M d pc ls (Vi x :: st) h o h' := by
  obtain ⟨hd, rfl⟩ := hd
  exact zRn.pure k (fun a b => ⟨zk_cons (zk_tl a) (zal_i h _), b⟩) (fun E p e R s m args below meth c H locs cells slots ad la Q cx hp hs hl hc hd' kk => lv_ineg cx.1 cx.2.1 hd (kk la hl))
theorem w_ineg {x : Int32} (hd : zAt M pc .ineg 1 nx)  (k : Wp l M d nx ls (Vi (-x) :: st) h Q) : Wp l M d pc ls (Vi x :: st) h Q := wst (fun o h' a => R_ineg hd  a) k
theorem R_ladd {x y : Int64} (hd : zAt M pc .ladd 1 nx)  (k : zRn l M d nx ls (Vj (x + y) :: st) h o h') : zRn l M d pc ls (Vj y :: Vj x :: st) h o h' := by
  obtain ⟨hd, rfl⟩ := hd
  exact zRn.pure k (fun a b => ⟨zk_cons (zk_tl2 a) (zal_j h _), b⟩) (fun E p e R s m args below meth c H locs cells slots ad la Q cx hp hs hl hc hd' kk => lv_ladd cx.1 cx.2.1 hd (kk la hl))
theorem w_ladd {x y : Int64} (hd : zAt M pc .ladd 1 nx)  (k : Wp l M d nx ls (Vj (x + y) :: st) h Q) : Wp l M d pc ls (Vj y :: Vj x :: st) h Q := wst (fun o h' a => R_ladd hd  a) k
theorem R_lsub {x y : Int64} (hd : zAt M pc .lsub 1 nx)  (k : zRn l M d nx ls (Vj (x - y) :: st) h o h') : zRn l M d pc ls (Vj y :: Vj x :: st) h o h' := by
  obtain ⟨hd, rfl⟩ := hd
  exact zRn.pure k (fun a b => ⟨zk_cons (zk_tl2 a) (zal_j h _), b⟩) (fun E p e R s m args below meth c H locs cells slots ad la Q cx hp hs hl hc hd' kk => lv_lsub cx.1 cx.2.1 hd (kk la hl))
theorem w_lsub {x y : Int64} (hd : zAt M pc .lsub 1 nx)  (k : Wp l M d nx ls (Vj (x - y) :: st) h Q) : Wp l M d pc ls (Vj y :: Vj x :: st) h Q := wst (fun o h' a => R_lsub hd  a) k
theorem R_lmul {x y : Int64} (hd : zAt M pc .lmul 1 nx)  (k : zRn l M d nx ls (Vj (x * y) :: st) h o h') : zRn l M d pc ls (Vj y :: Vj x :: st) h o h' := by
  obtain ⟨hd, rfl⟩ := hd
  exact zRn.pure k (fun a b => ⟨zk_cons (zk_tl2 a) (zal_j h _), b⟩) (fun E p e R s m args below meth c H locs cells slots ad la Q cx hp hs hl hc hd' kk => lv_lmul cx.1 cx.2.1 hd (kk la hl))
theorem w_lmul {x y : Int64} (hd : zAt M pc .lmul 1 nx)  (k : Wp l M d nx ls (Vj (x * y) :: st) h Q) : Wp l M d pc ls (Vj y :: Vj x :: st) h Q := wst (fun o h' a => R_lmul hd  a) k
theorem R_ldiv {x y : Int64} (hd : zAt M pc .ldiv 1 nx) (hne : ¬ y = 0) (k : zRn l M d nx ls (Vj (x / y) :: st) h o h') : zRn l M d pc ls (Vj y :: Vj x :: st) h o h' := by
  obtain ⟨hd, rfl⟩ := hd
  exact zRn.pure k (fun a b => ⟨zk_cons (zk_tl2 a) (zal_j h _), b⟩) (fun E p e R s m args below meth c H locs cells slots ad la Q cx hp hs hl hc hd' kk => lv_ldiv cx.1 cx.2.1 hd hne (kk la hl))
theorem w_ldiv {x y : Int64} (hd : zAt M pc .ldiv 1 nx) (hne : ¬ y = 0) (k : Wp l M d nx ls (Vj (x / y) :: st) h Q) : Wp l M d pc ls (Vj y :: Vj x :: st) h Q := wst (fun o h' a => R_ldiv hd hne a) k
theorem R_lcmp {x y : Int64} (hd : zAt M pc .lcmp 1 nx)  (k : zRn l M d nx ls (Vi (lg_cmp x y) :: st) h o h') : zRn l M d pc ls (Vj y :: Vj x :: st) h o h' := by
  obtain ⟨hd, rfl⟩ := hd
  exact zRn.pure k (fun a b => ⟨zk_cons (zk_tl2 a) (zal_i h _), b⟩) (fun E p e R s m args below meth c H locs cells slots ad la Q cx hp hs hl hc hd' kk => W.lcmp cx.1 cx.2.1 hd (kk la hl))
theorem w_lcmp {x y : Int64} (hd : zAt M pc .lcmp 1 nx)  (k : Wp l M d nx ls (Vi (lg_cmp x y) :: st) h Q) : Wp l M d pc ls (Vj y :: Vj x :: st) h Q := wst (fun o h' a => R_lcmp hd  a) k
theorem R_i2l {x : Int32} (hd : zAt M pc .i2l 1 nx)  (k : zRn l M d nx ls (Vj x.toInt64 :: st) h o h') : zRn l M d pc ls (Vi x :: st) h o h' := by
  obtain ⟨hd, rfl⟩ := hd
  exact zRn.pure k (fun a b => ⟨zk_cons (zk_tl a) (zal_j h _), b⟩) (fun E p e R s m args below meth c H locs cells slots ad la Q cx hp hs hl hc hd' kk => lv_i2l cx.1 cx.2.1 hd rfl (kk la hl))
theorem w_i2l {x : Int32} (hd : zAt M pc .i2l 1 nx)  (k : Wp l M d nx ls (Vj x.toInt64 :: st) h Q) : Wp l M d pc ls (Vi x :: st) h Q := wst (fun o h' a => R_i2l hd  a) k
theorem R_l2i {x : Int64} (hd : zAt M pc .l2i 1 nx)  (k : zRn l M d nx ls (Vi x.toInt32 :: st) h o h') : zRn l M d pc ls (Vj x :: st) h o h' := by
  obtain ⟨hd, rfl⟩ := hd
  exact zRn.pure k (fun a b => ⟨zk_cons (zk_tl a) (zal_i h _), b⟩) (fun E p e R s m args below meth c H locs cells slots ad la Q cx hp hs hl hc hd' kk => lv_l2i cx.1 cx.2.1 hd rfl (kk la hl))
theorem w_l2i {x : Int64} (hd : zAt M pc .l2i 1 nx)  (k : Wp l M d nx ls (Vi x.toInt32 :: st) h Q) : Wp l M d pc ls (Vj x :: st) h Q := wst (fun o h' a => R_l2i hd  a) k
theorem R_i2b {x : Int32} (hd : zAt M pc .i2b 1 nx)  (k : zRn l M d nx ls (Vi x.toInt8.toInt32 :: st) h o h') : zRn l M d pc ls (Vi x :: st) h o h' := by
  obtain ⟨hd, rfl⟩ := hd
  exact zRn.pure k (fun a b => ⟨zk_cons (zk_tl a) (zal_i h _), b⟩) (fun E p e R s m args below meth c H locs cells slots ad la Q cx hp hs hl hc hd' kk => lv_i2b cx.1 cx.2.1 hd rfl (kk la hl))
theorem w_i2b {x : Int32} (hd : zAt M pc .i2b 1 nx)  (k : Wp l M d nx ls (Vi x.toInt8.toInt32 :: st) h Q) : Wp l M d pc ls (Vi x :: st) h Q := wst (fun o h' a => R_i2b hd  a) k
theorem R_i2c {x : Int32} (hd : zAt M pc .i2c 1 nx)  (k : zRn l M d nx ls (Vi (x.toUInt32 % 65536).toInt32 :: st) h o h') : zRn l M d pc ls (Vi x :: st) h o h' := by
  obtain ⟨hd, rfl⟩ := hd
  exact zRn.pure k (fun a b => ⟨zk_cons (zk_tl a) (zal_i h _), b⟩) (fun E p e R s m args below meth c H locs cells slots ad la Q cx hp hs hl hc hd' kk => lv_i2c cx.1 cx.2.1 hd rfl (kk la hl))
theorem w_i2c {x : Int32} (hd : zAt M pc .i2c 1 nx)  (k : Wp l M d nx ls (Vi (x.toUInt32 % 65536).toInt32 :: st) h Q) : Wp l M d pc ls (Vi x :: st) h Q := wst (fun o h' a => R_i2c hd  a) k
theorem R_dup {v : zV} (hd : zAt M pc .dup 1 nx) (hv : zcat v = 1) (k : zRn l M d nx ls (v :: v :: st) h o h') : zRn l M d pc ls (v :: st) h o h' := by
  obtain ⟨hd, rfl⟩ := hd
  exact zRn.pure k (fun a b => ⟨zk_cons a (a _ List.mem_cons_self), b⟩) (fun E p e R s m args below meth c H locs cells slots ad la Q cx hp hs hl hc hd' kk => lv_dup cx.1 cx.2.1 hd ((zcat_enc ad v).trans hv) (kk la hl))
theorem w_dup {v : zV} (hd : zAt M pc .dup 1 nx) (hv : zcat v = 1) (k : Wp l M d nx ls (v :: v :: st) h Q) : Wp l M d pc ls (v :: st) h Q := wst (fun o h' a => R_dup hd hv a) k
theorem R_pop {v : zV} (hd : zAt M pc .pop 1 nx) (hv : zcat v = 1) (k : zRn l M d nx ls (st) h o h') : zRn l M d pc ls (v :: st) h o h' := by
  obtain ⟨hd, rfl⟩ := hd
  exact zRn.pure k (fun a b => ⟨zk_tl a, b⟩) (fun E p e R s m args below meth c H locs cells slots ad la Q cx hp hs hl hc hd' kk => lv_pop cx.1 cx.2.1 hd ((zcat_enc ad v).trans hv) (kk la hl))
theorem w_pop {v : zV} (hd : zAt M pc .pop 1 nx) (hv : zcat v = 1) (k : Wp l M d nx ls (st) h Q) : Wp l M d pc ls (v :: st) h Q := wst (fun o h' a => R_pop hd hv a) k
theorem R_dup2 {v w : zV} (hd : zAt M pc .dup2 1 nx) (hv : zcat v = 1) (hw : zcat w = 1) (k : zRn l M d nx ls (v :: w :: v :: w :: st) h o h') : zRn l M d pc ls (v :: w :: st) h o h' := by
  obtain ⟨hd, rfl⟩ := hd
  exact zRn.pure k (fun a b => ⟨zk_cons (zk_cons a (a _ (List.mem_cons_of_mem _ List.mem_cons_self))) (a _ List.mem_cons_self), b⟩) (fun E p e R s m args below meth c H locs cells slots ad la Q cx hp hs hl hc hd' kk => lv_dup2_11 cx.1 cx.2.1 hd ((zcat_enc ad v).trans hv) ((zcat_enc ad w).trans hw) (kk la hl))
theorem w_dup2 {v w : zV} (hd : zAt M pc .dup2 1 nx) (hv : zcat v = 1) (hw : zcat w = 1) (k : Wp l M d nx ls (v :: w :: v :: w :: st) h Q) : Wp l M d pc ls (v :: w :: st) h Q := wst (fun o h' a => R_dup2 hd hv hw a) k
theorem R_goto {off : Int} {len tgt : Nat} (hd : zAt M pc (.goto off) 3 len) (ht : (pc : Int) + off = (tgt : Int)) (k : zRn l M d tgt ls st h o h') : zRn l M d pc ls st h o h' :=
  zRn.pure k (fun a b => ⟨a, b⟩) (fun E p e R s m args below meth c H locs cells slots ad la Q cx hp hs hl hc hd' kk => lv_goto cx.1 cx.2.1 hd.1 ht (kk la hl))
theorem w_goto {off : Int} {len : Nat} (tgt : Nat) (hd : zAt M pc (.goto off) 3 len) (ht : (pc : Int) + off = (tgt : Int)) (k : Wp l M d tgt ls st h Q) : Wp l M d pc ls st h Q := wst (fun o h' a => R_goto hd ht a) k
theorem w_if_eq {x : Int32} {off : Int} (tgt : Nat) (hd : zAt M pc (.ifCond .eq off) 3 nx) (ht : (pc : Int) + off = (tgt : Int)) (kt : x = 0 → Wp l M d tgt ls st h Q) (kf : ¬ (x = 0) → Wp l M d nx ls st h Q) : Wp l M d pc ls (Vi x :: st) h Q := by
  obtain ⟨hd, rfl⟩ := hd
  by_cases hc : x = 0
  · exact wst (fun o h' k => zRn.pure k (fun a b => ⟨zk_tl a, b⟩) (fun E p e R s m args below meth c H locs cells slots ad la Q cx hp hs hl hc' hd' kk => lv_if_eq cx.1 cx.2.1 hd ht (fun _ => kk la hl) (fun z => absurd hc z))) (kt hc)
  · exact wst (fun o h' k => zRn.pure k (fun a b => ⟨zk_tl a, b⟩) (fun E p e R s m args below meth c H locs cells slots ad la Q cx hp hs hl hc' hd' kk => lv_if_eq cx.1 cx.2.1 hd ht (fun z => absurd z hc) (fun _ => kk la hl))) (kf hc)
theorem w_icmp_eq {x y : Int32} {off : Int} (tgt : Nat) (hd : zAt M pc (.if_icmp .eq off) 3 nx) (ht : (pc : Int) + off = (tgt : Int)) (kt : x = y → Wp l M d tgt ls st h Q) (kf : ¬ (x = y) → Wp l M d nx ls st h Q) : Wp l M d pc ls (Vi y :: Vi x :: st) h Q := by
  obtain ⟨hd, rfl⟩ := hd
  by_cases hc : x = y
  · exact wst (fun o h' k => zRn.pure k (fun a b => ⟨zk_tl2 a, b⟩) (fun E p e R s m args below meth c H locs cells slots ad la Q cx hp hs hl hc' hd' kk => lv_icmp_eq cx.1 cx.2.1 hd ht (fun _ => kk la hl) (fun z => absurd hc z))) (kt hc)
  · exact wst (fun o h' k => zRn.pure k (fun a b => ⟨zk_tl2 a, b⟩) (fun E p e R s m args below meth c H locs cells slots ad la Q cx hp hs hl hc' hd' kk => lv_icmp_eq cx.1 cx.2.1 hd ht (fun z => absurd z hc) (fun _ => kk la hl))) (kf hc)
theorem w_if_lt {x : Int32} {off : Int} (tgt : Nat) (hd : zAt M pc (.ifCond .lt off) 3 nx) (ht : (pc : Int) + off = (tgt : Int)) (kt : x < 0 → Wp l M d tgt ls st h Q) (kf : ¬ (x < 0) → Wp l M d nx ls st h Q) : Wp l M d pc ls (Vi x :: st) h Q := by
  obtain ⟨hd, rfl⟩ := hd
  by_cases hc : x < 0
  · exact wst (fun o h' k => zRn.pure k (fun a b => ⟨zk_tl a, b⟩) (fun E p e R s m args below meth c H locs cells slots ad la Q cx hp hs hl hc' hd' kk => lv_if_lt cx.1 cx.2.1 hd ht (fun _ => kk la hl) (fun z => absurd hc z))) (kt hc)
  · exact wst (fun o h' k => zRn.pure k (fun a b => ⟨zk_tl a, b⟩) (fun E p e R s m args below meth c H locs cells slots ad la Q cx hp hs hl hc' hd' kk => lv_if_lt cx.1 cx.2.1 hd ht (fun z => absurd z hc) (fun _ => kk la hl))) (kf hc)
theorem w_icmp_lt {x y : Int32} {off : Int} (tgt : Nat) (hd : zAt M pc (.if_icmp .lt off) 3 nx) (ht : (pc : Int) + off = (tgt : Int)) (kt : x < y → Wp l M d tgt ls st h Q) (kf : ¬ (x < y) → Wp l M d nx ls st h Q) : Wp l M d pc ls (Vi y :: Vi x :: st) h Q := by
  obtain ⟨hd, rfl⟩ := hd
  by_cases hc : x < y
  · exact wst (fun o h' k => zRn.pure k (fun a b => ⟨zk_tl2 a, b⟩) (fun E p e R s m args below meth c H locs cells slots ad la Q cx hp hs hl hc' hd' kk => lv_icmp_lt cx.1 cx.2.1 hd ht (fun _ => kk la hl) (fun z => absurd hc z))) (kt hc)
  · exact wst (fun o h' k => zRn.pure k (fun a b => ⟨zk_tl2 a, b⟩) (fun E p e R s m args below meth c H locs cells slots ad la Q cx hp hs hl hc' hd' kk => lv_icmp_lt cx.1 cx.2.1 hd ht (fun z => absurd z hc) (fun _ => kk la hl))) (kf hc)
theorem w_if_ge {x : Int32} {off : Int} (tgt : Nat) (hd : zAt M pc (.ifCond .ge off) 3 nx) (ht : (pc : Int) + off = (tgt : Int)) (kt : 0 ≤ x → Wp l M d tgt ls st h Q) (kf : ¬ (0 ≤ x) → Wp l M d nx ls st h Q) : Wp l M d pc ls (Vi x :: st) h Q := by
  obtain ⟨hd, rfl⟩ := hd
  by_cases hc : 0 ≤ x
  · exact wst (fun o h' k => zRn.pure k (fun a b => ⟨zk_tl a, b⟩) (fun E p e R s m args below meth c H locs cells slots ad la Q cx hp hs hl hc' hd' kk => lv_if_ge cx.1 cx.2.1 hd ht (fun _ => kk la hl) (fun z => absurd hc z))) (kt hc)
  · exact wst (fun o h' k => zRn.pure k (fun a b => ⟨zk_tl a, b⟩) (fun E p e R s m args below meth c H locs cells slots ad la Q cx hp hs hl hc' hd' kk => lv_if_ge cx.1 cx.2.1 hd ht (fun z => absurd z hc) (fun _ => kk la hl))) (kf hc)
theorem w_icmp_ge {x y : Int32} {off : Int} (tgt : Nat) (hd : zAt M pc (.if_icmp .ge off) 3 nx) (ht : (pc : Int) + off = (tgt : Int)) (kt : y ≤ x → Wp l M d tgt ls st h Q) (kf : ¬ (y ≤ x) → Wp l M d nx ls st h Q) : Wp l M d pc ls (Vi y :: Vi x :: st) h Q := by
  obtain ⟨hd, rfl⟩ := hd
  by_cases hc : y ≤ x
  · exact wst (fun o h' k => zRn.pure k (fun a b => ⟨zk_tl2 a, b⟩) (fun E p e R s m args below meth c H locs cells slots ad la Q cx hp hs hl hc' hd' kk => lv_icmp_ge cx.1 cx.2.1 hd ht (fun _ => kk la hl) (fun z => absurd hc z))) (kt hc)
  · exact wst (fun o h' k => zRn.pure k (fun a b => ⟨zk_tl2 a, b⟩) (fun E p e R s m args below meth c H locs cells slots ad la Q cx hp hs hl hc' hd' kk => lv_icmp_ge cx.1 cx.2.1 hd ht (fun z => absurd z hc) (fun _ => kk la hl))) (kf hc)
theorem w_if_gt {x : Int32} {off : Int} (tgt : Nat) (hd : zAt M pc (.ifCond .gt off) 3 nx) (ht : (pc : Int) + off = (tgt : Int)) (kt : 0 < x → Wp l M d tgt ls st h Q) (kf : ¬ (0 < x) → Wp l M d nx ls st h Q) : Wp l M d pc ls (Vi x :: st) h Q := by
  obtain ⟨hd, rfl⟩ := hd
  by_cases hc : 0 < x
  · exact wst (fun o h' k => zRn.pure k (fun a b => ⟨zk_tl a, b⟩) (fun E p e R s m args below meth c H locs cells slots ad la Q cx hp hs hl hc' hd' kk => lv_if_gt cx.1 cx.2.1 hd ht (fun _ => kk la hl) (fun z => absurd hc z))) (kt hc)
  · exact wst (fun o h' k => zRn.pure k (fun a b => ⟨zk_tl a, b⟩) (fun E p e R s m args below meth c H locs cells slots ad la Q cx hp hs hl hc' hd' kk => lv_if_gt cx.1 cx.2.1 hd ht (fun z => absurd z hc) (fun _ => kk la hl))) (kf hc)
theorem w_icmp_gt {x y : Int32} {off : Int} (tgt : Nat) (hd : zAt M pc (.if_icmp .gt off) 3 nx) (ht : (pc : Int) + off = (tgt : Int)) (kt : y < x → Wp l M d tgt ls st h Q) (kf : ¬ (y < x) → Wp l M d nx ls st h Q) : Wp l M d pc ls (Vi y :: Vi x :: st) h Q := by
  obtain ⟨hd, rfl⟩ := hd
  by_cases hc : y < x
  · exact wst (fun o h' k => zRn.pure k (fun a b => ⟨zk_tl2 a, b⟩) (fun E p e R s m args below meth c H locs cells slots ad la Q cx hp hs hl hc' hd' kk => lv_icmp_gt cx.1 cx.2.1 hd ht (fun _ => kk la hl) (fun z => absurd hc z))) (kt hc)
  · exact wst (fun o h' k => zRn.pure k (fun a b => ⟨zk_tl2 a, b⟩) (fun E p e R s m args below meth c H locs cells slots ad la Q cx hp hs hl hc' hd' kk => lv_icmp_gt cx.1 cx.2.1 hd ht (fun z => absurd z hc) (fun _ => kk la hl))) (kf hc)
theorem w_if_le {x : Int32} {off : Int} (tgt : Nat) (hd : zAt M pc (.ifCond .le off) 3 nx) (ht : (pc : Int) + off = (tgt : Int)) (kt : x ≤ 0 → Wp l M d tgt ls st h Q) (kf : ¬ (x ≤ 0) → Wp l M d nx ls st h Q) : Wp l M d pc ls (Vi x :: st) h Q := by
  obtain ⟨hd, rfl⟩ := hd
  by_cases hc : x ≤ 0
  · exact wst (fun o h' k => zRn.pure k (fun a b => ⟨zk_tl a, b⟩) (fun E p e R s m args below meth c H locs cells slots ad la Q cx hp hs hl hc' hd' kk => lv_if_le cx.1 cx.2.1 hd ht (fun _ => kk la hl) (fun z => absurd hc z))) (kt hc)
  · exact wst (fun o h' k => zRn.pure k (fun a b => ⟨zk_tl a, b⟩) (fun E p e R s m args below meth c H locs cells slots ad la Q cx hp hs hl hc' hd' kk => lv_if_le cx.1 cx.2.1 hd ht (fun z => absurd z hc) (fun _ => kk la hl))) (kf hc)
theorem w_icmp_le {x y : Int32} {off : Int} (tgt : Nat) (hd : zAt M pc (.if_icmp .le off) 3 nx) (ht : (pc : Int) + off = (tgt : Int)) (kt : x ≤ y → Wp l M d tgt ls st h Q) (kf : ¬ (x ≤ y) → Wp l M d nx ls st h Q) : Wp l M d pc ls (Vi y :: Vi x :: st) h Q := by
  obtain ⟨hd, rfl⟩ := hd
  by_cases hc : x ≤ y
  · exact wst (fun o h' k => zRn.pure k (fun a b => ⟨zk_tl2 a, b⟩) (fun E p e R s m args below meth c H locs cells slots ad la Q cx hp hs hl hc' hd' kk => lv_icmp_le cx.1 cx.2.1 hd ht (fun _ => kk la hl) (fun z => absurd hc z))) (kt hc)
  · exact wst (fun o h' k => zRn.pure k (fun a b => ⟨zk_tl2 a, b⟩) (fun E p e R s m args below meth c H locs cells slots ad la Q cx hp hs hl hc' hd' kk => lv_icmp_le cx.1 cx.2.1 hd ht (fun z => absurd z hc) (fun _ => kk la hl))) (kf hc)
theorem w_if_ne {x : Int32} {off : Int} (tgt : Nat) (hd : zAt M pc (.ifCond .ne off) 3 nx) (ht : (pc : Int) + off = (tgt : Int)) (kt : ¬ x = 0 → Wp l M d tgt ls st h Q) (kf : x = 0 → Wp l M d nx ls st h Q) : Wp l M d pc ls (Vi x :: st) h Q := by
  obtain ⟨hd, rfl⟩ := hd
  by_cases hc : x = 0
  · exact wst (fun o h' k => zRn.pure k (fun a b => ⟨zk_tl a, b⟩) (fun E p e R s m args below meth c H locs cells slots ad la Q cx hp hs hl hc' hd' kk => lv_if_ne cx.1 cx.2.1 hd ht (fun z => absurd hc z) (fun _ => kk la hl))) (kf hc)
  · exact wst (fun o h' k => zRn.pure k (fun a b => ⟨zk_tl a, b⟩) (fun E p e R s m args below meth c H locs cells slots ad la Q cx hp hs hl hc' hd' kk => lv_if_ne cx.1 cx.2.1 hd ht (fun _ => kk la hl) (fun z => absurd z hc))) (kt hc)
theorem w_icmp_ne {x y : Int32} {off : Int} (tgt : Nat) (hd : zAt M pc (.if_icmp .ne off) 3 nx) (ht : (pc : Int) + off = (tgt : Int)) (kt : ¬ x = y → Wp l M d tgt ls st h Q) (kf : x = y → Wp l M d nx ls st h Q) : Wp l M d pc ls (Vi y :: Vi x :: st) h Q := by
  obtain ⟨hd, rfl⟩ := hd
  by_cases hc : x = y
  · exact wst (fun o h' k => zRn.pure k (fun a b => ⟨zk_tl2 a, b⟩) (fun E p e R s m args below meth c H locs cells slots ad la Q cx hp hs hl hc' hd' kk => lv_icmp_ne cx.1 cx.2.1 hd ht (fun z => absurd hc z) (fun _ => kk la hl))) (kf hc)
  · exact wst (fun o h' k => zRn.pure k (fun a b => ⟨zk_tl2 a, b⟩) (fun E p e R s m args below meth c H locs cells slots ad la Q cx hp hs hl hc' hd' kk => lv_icmp_ne cx.1 cx.2.1 hd ht (fun _ => kk la hl) (fun z => absurd z hc))) (kt hc)
theorem w_ifnull_t {off : Int} (tgt : Nat) (hd : zAt M pc (.ifnull off) 3 nx) (ht : (pc : Int) + off = (tgt : Int)) (k : Wp l M d tgt ls st h Q) : Wp l M d pc ls (Vq none :: st) h Q := by
  obtain ⟨hd, rfl⟩ := hd
  exact wst (fun o h' k => zRn.pure k (fun a b => ⟨zk_tl a, b⟩) (fun E p e R s m args below meth c H locs cells slots ad la Q cx hp hs hl hc' hd' kk => lv_ifnullN cx.1 cx.2.1 hd ht (kk la hl))) k
theorem w_ifnull_f {off : Int} {r : zRf} (hd : zAt M pc (.ifnull off) 3 nx) (k : Wp l M d nx ls st h Q) : Wp l M d pc ls (Vq (some r) :: st) h Q := by
  obtain ⟨hd, rfl⟩ := hd
  exact wst (fun o h' k => zRn.pure k (fun a b => ⟨zk_tl a, b⟩) (fun E p e R s m args below meth c H locs cells slots ad la Q cx hp hs hl hc' hd' kk => lv_ifnull cx.1 cx.2.1 hd (kk la hl))) k
theorem w_ifnonnull_f {off : Int} (hd : zAt M pc (.ifnonnull off) 3 nx) (k : Wp l M d nx ls st h Q) : Wp l M d pc ls (Vq none :: st) h Q := by
  obtain ⟨hd, rfl⟩ := hd
  exact wst (fun o h' k => zRn.pure k (fun a b => ⟨zk_tl a, b⟩) (fun E p e R s m args below meth c H locs cells slots ad la Q cx hp hs hl hc' hd' kk => lv_ifnonnullN cx.1 cx.2.1 hd (kk la hl))) k
theorem w_ifnonnull_t {off : Int} {r : zRf} (tgt : Nat) (hd : zAt M pc (.ifnonnull off) 3 nx) (ht : (pc : Int) + off = (tgt : Int)) (k : Wp l M d tgt ls st h Q) : Wp l M d pc ls (Vq (some r) :: st) h Q := by
  obtain ⟨hd, rfl⟩ := hd
  exact wst (fun o h' k => zRn.pure k (fun a b => ⟨zk_tl a, b⟩) (fun E p e R s m args below meth c H locs cells slots ad la Q cx hp hs hl hc' hd' kk => lv_ifnonnull cx.1 cx.2.1 hd ht (kk la hl))) k
theorem w_tableIn {dflt lo hi : Int} {offs : Array Int} {len : Nat} {x : Int32} {off : Int} (tgt : Nat) (hd : zAt M pc (.tableswitch dflt lo hi offs) len nx) (h1 : ¬ x.toInt < lo) (h2 : ¬ hi < x.toInt) (ho : offs[(x.toInt - lo).toNat]? = some off) (ht : (pc : Int) + off = (tgt : Int)) (k : Wp l M d tgt ls st h Q) : Wp l M d pc ls (Vi x :: st) h Q := by
  obtain ⟨hd, rfl⟩ := hd
  exact wst (fun o h' k => zRn.pure k (fun a b => ⟨zk_tl a, b⟩) (fun E p e R s m args below meth c H locs cells slots ad la Q cx hp hs hl hc' hd' kk => lv_tableIn cx.1 cx.2.1 hd h1 h2 ho ht (kk la hl))) k
theorem w_tableOut {dflt lo hi : Int} {offs : Array Int} {len : Nat} {x : Int32} (tgt : Nat) (hd : zAt M pc (.tableswitch dflt lo hi offs) len nx) (h1 : x.toInt < lo ∨ hi < x.toInt) (ht : (pc : Int) + dflt = (tgt : Int)) (k : Wp l M d tgt ls st h Q) : Wp l M d pc ls (Vi x :: st) h Q := by
  obtain ⟨hd, rfl⟩ := hd
  exact wst (fun o h' k => zRn.pure k (fun a b => ⟨zk_tl a, b⟩) (fun E p e R s m args below meth c H locs cells slots ad la Q cx hp hs hl hc' hd' kk => lv_tableOut cx.1 cx.2.1 hd h1 ht (kk la hl))) k
theorem w_lookup {dflt : Int} {ps : Array (Int × Int)} {len : Nat} {x : Int32} {off : Int} (tgt : Nat) (hd : zAt M pc (.lookupswitch dflt ps) len nx) (hp : (ps.toList.zip (ps.toList.drop 1)).all (fun (a, next) => a.1 < next.1) = true) (ho : Op.lookupswitch.offset ps.toList dflt x.toInt = off) (ht : (pc : Int) + off = (tgt : Int)) (k : Wp l M d tgt ls st h Q) : Wp l M d pc ls (Vi x :: st) h Q := by
  obtain ⟨hd, rfl⟩ := hd
  exact wst (fun o h' k => zRn.pure k (fun a b => ⟨zk_tl a, b⟩) (fun E p e R s m args below meth c H locs cells slots ad la Q cx hp' hs hl hc' hd' kk => lv_lookup cx.1 cx.2.1 hd hp ho ht (kk la hl))) k
theorem Wp.imp {Q' : zO → zH → Prop} (k : Wp l M d pc ls st h Q) (i : ∀ o h', Q o h' → Q' o h') : Wp l M d pc ls st h Q' := by
  obtain ⟨o, h', a, b⟩ := k
  exact ⟨o, h', a, i o h' b⟩
end zROWS
end
section
-- THE HEAP'S ROWS
/-- which of the three tables a type's values stand in: 0 ints, 1 longs, 2 references -/
def zkd (ty : FieldType) : Nat := match ty with
  | .long => 1
  | .object _ => 2
  | .array _ => 2
  | _ => 0
theorem zfv_0 {ad : zRf → Nat} {h : zH} {r : zRf} {ty : FieldType} {j : Nat} (e : zkd ty = 0) : zfv ad h r ty j = .int (zI h r.1 r.2 j) := by
  cases ty <;> first | rfl | cases e
theorem zfv_1 {ad : zRf → Nat} {h : zH} {r : zRf} {ty : FieldType} {j : Nat} (e : zkd ty = 1) : zfv ad h r ty j = .long (zL h r.1 r.2 j) := by
  cases ty <;> first | rfl | cases e
theorem zfv_2 {ad : zRf → Nat} {h : zH} {r : zRf} {ty : FieldType} {j : Nat} (e : zkd ty = 2) : zfv ad h r ty j = va_rf ((zR h r.1 r.2 j).map ad) := by
  cases ty <;> first | rfl | cases e
theorem zfv_same {ad ad2 : zRf → Nat} {h h2 : zH} {r : zRf} {ty : FieldType} {j : Nat} (e1 : zI h2 r.1 r.2 j = zI h r.1 r.2 j) (e2 : zL h2 r.1 r.2 j = zL h r.1 r.2 j) (e3 : (zR h2 r.1 r.2 j).map ad2 = (zR h r.1 r.2 j).map ad) : zfv ad2 h2 r ty j = zfv ad h r ty j := by
  cases ty <;> simp only [zfv, e1, e2, e3]
theorem zfs_len (ad : zRf → Nat) (h : zH) (r : zRf) (ci : Nat) : (zfs ad h r ci).length = znf ci := by simp [zfs]
theorem zfs_get (ad : zRf → Nat) (h : zH) (r : zRf) (ci : Nat) {j : Nat} (hj : j < znf ci) : (zfs ad h r ci)[j]? = some (zfv ad h r (zty ci j) j) := by simp [zfs, hj]
theorem zfs_set {ad : zRf → Nat} {h h2 : zH} {r : zRf} {ci j : Nat} {v : Value} (hj : j < znf ci) (hv : zfv ad h2 r (zty ci j) j = v) (ho : ∀ i, i < znf ci → i ≠ j → zfv ad h2 r (zty ci i) i = zfv ad h r (zty ci i) i) : (zfs ad h r ci).set j v = zfs ad h2 r ci := by
  apply List.ext_getElem?
  intro i
  by_cases hi : i < znf ci
  · rw [zfs_get ad h2 r ci hi]
    by_cases e : j = i
    · subst e
      rw [List.getElem?_set_self (by rw [zfs_len]; exact hi), hv]
    · rw [List.getElem?_set_ne e, zfs_get ad h r ci hi, ho i hi (fun q => e q.symm)]
  · rw [List.getElem?_eq_none (by rw [List.length_set, zfs_len]; omega), List.getElem?_eq_none (by rw [zfs_len]; omega)]
theorem zws_get {ns : List zRf} {ad : zRf → Nat} {ca : zRf → ClassId} {h : zH} {q0 : Nat} {r : zRf} (hq : ns[q0]? = some r) : (zws ns ad ca h)[q0]? = some (ad r, zcell ad ca h r) := by simp [zws, hq]
theorem zws_set {ns : List zRf} {ad : zRf → Nat} {ca : zRf → ClassId} {h h2 : zH} {q0 : Nat} {r : zRf} (hn : ns.Nodup) (hq : ns[q0]? = some r) (hc : ∀ r' ∈ ns, r' ≠ r → zcell ad ca h2 r' = zcell ad ca h r') : (zws ns ad ca h).set q0 (ad r, zcell ad ca h2 r) = zws ns ad ca h2 := by
  have hlt : q0 < ns.length := (List.getElem?_eq_some_iff.mp hq).1
  apply List.ext_getElem?
  intro i
  by_cases e : q0 = i
  · subst e
    rw [List.getElem?_set_self (by simp [zws]; exact hlt), zws_get hq]
  · rw [List.getElem?_set_ne e]
    cases hi : ns[i]? with
    | none => simp [zws, hi]
    | some r' =>
      rw [zws_get hi, zws_get hi, hc r' (List.mem_of_getElem? hi) (fun z => e ((List.getElem?_inj hlt hn).mp (by rw [hq, hi, z])))]
/-- two heaps that agree at r hold the same cell there -/
theorem zcell_same {ad ad2 : zRf → Nat} {ca ca2 : zRf → ClassId} {h h2 : zH} {r : zRf} (e0 : ca2 r = ca r) (e1 : zI h2 r.1 r.2 = zI h r.1 r.2) (e2 : zL h2 r.1 r.2 = zL h r.1 r.2) (e3 : ∀ j, (zR h2 r.1 r.2 j).map ad2 = (zR h r.1 r.2 j).map ad) (e4 : zN h2 r.1 r.2 = zN h r.1 r.2) : zcell ad2 ca2 h2 r = zcell ad ca h r := by
  unfold zcell
  have ef : zfs ad2 h2 r (zshp r.1) = zfs ad h r (zshp r.1) := List.map_congr_left (fun j _ => zfv_same (by rw [e1]) (by rw [e2]) (e3 j))
  have eg : (fun j => (zR h2 r.1 r.2 j).map ad2) = fun j => (zR h r.1 r.2 j).map ad := funext e3
  rw [ef, eg, e0, e1, e2, e4]
theorem zcell_o {ad : zRf → Nat} {ca : zRf → ClassId} {h : zH} {r : zRf} {ci : Nat} (hs : zshp r.1 = ci) (hc : ci < 100) : zcell ad ca h r = .inr (ci, zfs ad h r ci) := by
  unfold zcell; rw [hs, if_pos hc]
theorem zcell_i {ad : zRf → Nat} {ca : zRf → ClassId} {h : zH} {r : zRf} (h1 : 100 ≤ zshp r.1) (h2 : zshp r.1 ≠ 101) (h3 : zshp r.1 < 110) : zcell ad ca h r = .inl (ca r, zN h r.1 r.2, .inl (zI h r.1 r.2)) := by
  unfold zcell; rw [if_neg (by omega), if_neg h2, if_pos h3]
theorem zcell_l {ad : zRf → Nat} {ca : zRf → ClassId} {h : zH} {r : zRf} (h2 : zshp r.1 = 101) : zcell ad ca h r = .inl (ca r, zN h r.1 r.2, .inr (.inl (zL h r.1 r.2))) := by
  unfold zcell; rw [if_neg (by omega), if_pos h2]
theorem zcell_q {ad : zRf → Nat} {ca : zRf → ClassId} {h : zH} {r : zRf} (h3 : 110 ≤ zshp r.1) : zcell ad ca h r = .inl (ca r, zN h r.1 r.2, .inr (.inr (.inr (.inr (fun j => (zR h r.1 r.2 j).map ad))))) := by
  unfold zcell; rw [if_neg (by omega), if_neg (by omega), if_neg (by omega)]
/-- the parts of a held heap, at a living cell -/
def zHold (E : zEv) (ad : zRf → Nat) (U : State) (h : zH) (H : Heap) (ns : List zRf) (ca : zRf → ClassId) (tys : List (ClassId × FieldType)) : Prop :=
  ns.Nodup ∧ (∀ r : zRf, r ∈ ns ↔ r.2 < zC h r.1) ∧ va_K (zD E) zcl tys U ∧ va_P (zD E) zcl (zws ns ad ca h) H ∧ va_D (zA E) (zws ns ad ca h) ∧
    (∀ r ∈ ns, 100 ≤ zshp r.1 → ∃ t0 : Nat, tys[t0]? = some (ca r, zel (zshp r.1))) ∧ ∀ r ∈ ns, ∀ (j : Nat) (r' : zRf), zR h r.1 r.2 j = some r' → zal h r'
theorem zHp.at {E : zEv} {ad : zRf → Nat} {U : State} {h : zH} {H : Heap} {r : zRf} (hp : zHp E ad U h H) (hr : r.2 < zC h r.1) : r.1 < 900 ∧ ∃ (ns : List zRf) (ca : zRf → ClassId) (tys : List (ClassId × FieldType)) (q0 : Nat), zHold E ad U h H ns ca tys ∧ ns[q0]? = some r := by
  obtain ⟨h1, h2, h3, ns, ca, tys, h4⟩ := hp
  obtain ⟨q0, hq⟩ := List.getElem?_of_mem ((h4.2.1 r).mpr hr)
  refine ⟨?_, ns, ca, tys, q0, h4, hq⟩
  rcases Nat.lt_or_ge r.1 900 with q | q
  · exact q
  · rw [h3 _ q] at hr; omega
/-- a held heap with one cell rewritten -/
theorem zHp.upd {E : zEv} {ad : zRf → Nat} {U : State} {h h2 : zH} {H H1 : Heap} {r : zRf} {ns : List zRf} {ca : zRf → ClassId} {tys : List (ClassId × FieldType)} {q0 : Nat} (hp : zHp E ad U h H) (hh : zHold E ad U h H ns ca tys) (hq : ns[q0]? = some r) (hr : r.1 < 900)
    (eC : zC h2 = zC h) (eN : zN h2 = zN h) (e1 : ∀ r' : zRf, r' ≠ r → zI h2 r'.1 r'.2 = zI h r'.1 r'.2) (e2 : ∀ r' : zRf, r' ≠ r → zL h2 r'.1 r'.2 = zL h r'.1 r'.2) (e3 : ∀ r' : zRf, r' ≠ r → zR h2 r'.1 r'.2 = zR h r'.1 r'.2) (e4 : ∀ (j : Nat) (r' : zRf), zR h2 r.1 r.2 j = some r' → zal h r')
    (hP : va_P (zD E) zcl ((zws ns ad ca h).set q0 (ad r, zcell ad ca h2 r)) H1) (hD : va_D (zA E) ((zws ns ad ca h).set q0 (ad r, zcell ad ca h2 r))) : zHp E ad U h2 H1 := by
  obtain ⟨g1, g2, g3, -⟩ := hp
  obtain ⟨k1, k2, k3, k4, k5, k6, k7⟩ := hh
  have he := zws_set (ad := ad) (ca := ca) (h := h) (h2 := h2) k1 hq (fun r' _ hne => zcell_same rfl (e1 r' hne) (e2 r' hne) (fun j => by rw [e3 r' hne]) (by rw [eN]))
  rw [he] at hP hD
  refine ⟨g1, ⟨by rw [eN]; exact g2.1, ?_, ?_, g2.2.2.2⟩, fun k hk => by rw [eC]; exact g3 k hk, ns, ca, tys, k1, fun r' => by rw [eC]; exact k2 r', k3, hP, hD, k6, fun r' hr' j r'' hj => ?_⟩
  · rw [show zI h2 999 0 = zI h 999 0 from e1 (999, 0) (fun z => by rw [← z] at hr; exact absurd hr (by decide))]
    exact g2.2.1
  · rw [show zR h2 998 0 = zR h 998 0 from e3 (998, 0) (fun z => by rw [← z] at hr; exact absurd hr (by decide))]
    exact g2.2.2.1
  · have key : zal h r'' := by
      by_cases hne : r' = r
      · subst hne; exact e4 j r'' hj
      · rw [e3 r' hne] at hj; exact k7 r' hr' j r'' hj
    exact key.imp (fun q => by rw [eC]; exact q) id
/-- a living cell is a living cell -/
theorem zal.lt {h : zH} {r : zRf} (a : zal h r) (hr : r.1 < 900) : r.2 < zC h r.1 := a.elim id (fun q => by omega)
theorem zal.st {h : zH} {r : zRf} {st : List zV} (a : ∀ v ∈ Vq (some r) :: st, zalV h v) : zal h r := a _ List.mem_cons_self
-- FIELDS
/-- entry index of class own is the field in slot j of class ci -/
def zFld (own : String) (index ci j : Nat) : Prop := ∃ (C : String) (T : u_T) (N : Nat), zcl[ci]? = some (C, T, N) ∧ j < N ∧ ((Cond.fieldLink own index (T j).1 (T j).2.1 (T j).2.2.1 ∈ zALL) ∨ ∃ host : String, Cond.fieldLinkNest own index (T j).1 (T j).2.1 (T j).2.2.1 host ∈ zNest)
/-- .. and may be written by method M -/
def zFldW (M : zM) (index ci j : Nat) : Prop := ∃ (C : String) (T : u_T) (N : Nat), zcl[ci]? = some (C, T, N) ∧ j < N ∧ (((Cond.fieldLink (zMy M).cls index (T j).1 (T j).2.1 (T j).2.2.1 ∈ zALL) ∧ ((T j).2.2.2 = false ∨ ((T j).2.2.2 = true ∧ (zMy M).name = "<init>" ∧ (T j).1 = (zMy M).cls))) ∨ ∃ host : String, Cond.fieldLinkNest (zMy M).cls index (T j).1 (T j).2.1 (T j).2.2.1 host ∈ zNest ∧ (T j).2.2.2 = false)
theorem znf_of {ci : Nat} {C : String} {T : u_T} {N : Nat} (h : zcl[ci]? = some (C, T, N)) : znf ci = N := by unfold znf; rw [h]; rfl
section zROWS
variable {l : Launch} {M : zM} {d pc nx : Nat} {ls : List (Option zV)} {st : List zV} {h h' : zH} {o : zO} {Q : zO → zH → Prop}
theorem R_get {index ci j : Nat} {r : zRf} {v : zV} (hd : zAt M pc (.getfield index) 3 nx) (hf : zFld (zMy M).cls index ci j) (hs : zshp r.1 = ci) (hc : ci < 100) (hr : r.1 < 900) (hv : ∀ ad, zfv ad h r (zty ci j) j = zenc ad v) (hva : (∀ (j : Nat) (r' : zRf), zR h r.1 r.2 j = some r' → zal h r') → zalV h v)
    (k : zRn l M d nx ls (v :: st) h o h') : zRn l M d pc ls (Vq (some r) :: st) h o h' := by
  obtain ⟨hd, rfl⟩ := hd
  refine zRn.step (zLe.rf h) k ?_
  intro E p e R s m args below meth c H locs cells slots ad la Q cx hp hS hl ha hb hcc hdd kk
  rw [Nat.sub_self, Nat.add_zero] at kk
  rw [Nat.sub_self, Nat.add_zero] at kk
  have hlive : r.2 < zC h r.1 := (zal.st ha).lt hr
  obtain ⟨-, ns, ca, tys, q0, hh, hq⟩ := hp.at hlive
  have hva' := hva (hh.2.2.2.2.2.2 r (List.mem_of_getElem? hq))
  have kk := kk ad H locs la (fun _ _ => rfl) hp hS hl (zk_cons (zk_tl ha) hva') hb
  have hwf := cx.2.2.2.2.2.1
  have hE := cx.2.2.2.2.2.2.2.2.2.2.2.2
  obtain ⟨C, T, N, hcl, hj, hw⟩ := hf
  have he := zws_get (ad := ad) (ca := ca) (h := h) hq
  rw [zcell_o hs hc] at he
  have hfj := zfs_get ad h r ci (j := j) (by rw [znf_of hcl]; exact hj)
  rw [hv ad] at hfj
  rcases hw with hw | ⟨host, hw⟩
  · exact va_get cx.1 cx.2.1 hwf (zcl_in hcl) cx.2.2.2.2.1 hh.2.2.1 hh.2.2.2.1 q0 he hcl j hj (hwf _ hw) (fun x hx => hx) hfj hd kk
  · exact va_getN cx.1 cx.2.1 hwf (zcl_in hcl) cx.2.2.2.2.1 hh.2.2.1 hh.2.2.2.1 q0 he hcl j hj (va_Nw.use rfl (hE.1 _ hw)) (fun x hx => hx) hfj hd kk
theorem w_getI {index ci j k i : Nat} (hd : zAt M pc (.getfield index) 3 nx) (hf : zFld (zMy M).cls index ci j) (hs : zshp k = ci) (hc : ci < 100) (hr : k < 900) (ht : zkd (zty ci j) = 0) (kk : Wp l M d nx ls (Vi (zI h k i j) :: st) h Q) : Wp l M d pc ls (Vq (some (k, i)) :: st) h Q :=
  wst (fun o h' a => R_get (r := (k, i)) (v := Vi (zI h k i j)) hd hf hs hc hr (fun ad => zfv_0 ht) (fun _ => trivial) a) kk
theorem w_getL {index ci j k i : Nat} (hd : zAt M pc (.getfield index) 3 nx) (hf : zFld (zMy M).cls index ci j) (hs : zshp k = ci) (hc : ci < 100) (hr : k < 900) (ht : zkd (zty ci j) = 1) (kk : Wp l M d nx ls (Vj (zL h k i j) :: st) h Q) : Wp l M d pc ls (Vq (some (k, i)) :: st) h Q :=
  wst (fun o h' a => R_get (r := (k, i)) (v := Vj (zL h k i j)) hd hf hs hc hr (fun ad => zfv_1 ht) (fun _ => trivial) a) kk
theorem w_getR {index ci j k i : Nat} {q : Option zRf} (hd : zAt M pc (.getfield index) 3 nx) (hf : zFld (zMy M).cls index ci j) (hs : zshp k = ci) (hc : ci < 100) (hr : k < 900) (ht : zkd (zty ci j) = 2) (hq : zR h k i j = q) (kk : Wp l M d nx ls (Vq q :: st) h Q) : Wp l M d pc ls (Vq (some (k, i)) :: st) h Q :=
  wst (fun o h' a => R_get (r := (k, i)) (v := Vq q) hd hf hs hc hr (fun ad => by rw [zfv_2 ht, ← hq]; rfl) (fun hall => by
    cases q with
    | none => trivial
    | some r' => exact hall j r' hq) a) kk
/-- a field is written: h2 differs from h in that slot -/
theorem R_put {index ci j : Nat} {r : zRf} {v : zV} {h2 : zH} (hd : zAt M pc (.putfield index) 3 nx) (hf : zFldW M index ci j) (hs : zshp r.1 = ci) (hc : ci < 100) (hr : r.1 < 900) (hn : ∀ ad, narrow (zty ci j) (zenc ad v) = zenc ad v ∧ fits (zty ci j) (zenc ad v) = true)
    (eC : h2.2.2.2 = h.2.2.2) (e1 : ∀ r' : zRf, r' ≠ r → zI h2 r'.1 r'.2 = zI h r'.1 r'.2) (e2 : ∀ r' : zRf, r' ≠ r → zL h2 r'.1 r'.2 = zL h r'.1 r'.2) (e3 : ∀ r' : zRf, r' ≠ r → zR h2 r'.1 r'.2 = zR h r'.1 r'.2)
    (e4 : zalV h v → (∀ (j : Nat) (r' : zRf), zR h r.1 r.2 j = some r' → zal h r') → ∀ (j : Nat) (r' : zRf), zR h2 r.1 r.2 j = some r' → zal h r') (hv : ∀ ad, zfv ad h2 r (zty ci j) j = zenc ad v) (ho : ∀ ad i, i ≠ j → zfv ad h2 r (zty ci i) i = zfv ad h r (zty ci i) i)
    (k : zRn l M d nx ls st h2 o h') : zRn l M d pc ls (v :: Vq (some r) :: st) h o h' := by
  obtain ⟨hd, rfl⟩ := hd
  have eC1 : zC h2 = zC h := by unfold zC; rw [eC]
  have eN1 : zN h2 = zN h := by unfold zN; rw [eC]
  have ec1 : zc h2 = zc h := by unfold zc; rw [eC]
  have es1 : zs h2 = zs h := by unfold zs; rw [eC]
  have hle : zLe h h2 := ⟨fun k => by rw [eC1]; exact Nat.le_refl _, by rw [ec1]; exact Nat.le_refl _, by rw [es1]; exact Nat.le_refl _⟩
  refine zRn.step hle k ?_
  intro E p e R s m args below meth c H locs cells slots ad la Q cx hp hS hl ha hb hcc hdd kk
  rw [ec1, es1, Nat.sub_self, Nat.add_zero, Nat.sub_self, Nat.add_zero] at kk
  have hlive : r.2 < zC h r.1 := (zal.st (zk_tl ha)).lt hr
  obtain ⟨-, ns, ca, tys, q0, hh, hq⟩ := hp.at hlive
  have hwf := cx.2.2.2.2.2.1
  have hE := cx.2.2.2.2.2.2.2.2.2.2.2.2
  have hvl : zalV h v := ha _ List.mem_cons_self
  obtain ⟨C, T, N, hcl, hj, hw⟩ := hf
  have he := zws_get (ad := ad) (ca := ca) (h := h) hq
  have hz := zfs_set (ad := ad) (h := h) (h2 := h2) (r := r) (ci := ci) (j := j) (by rw [znf_of hcl]; exact hj) (hv ad) (fun i _ hne => ho ad i hne)
  have hc2 : zcell ad ca h2 r = .inr (ci, (zfs ad h r ci).set j (zenc ad v)) := by rw [hz]; exact zcell_o hs hc
  rw [zcell_o hs hc] at he
  have hty : parseFieldDescriptor (T j).2.2.1 = some (zty ci j) := zcl_ty hcl j hj
  have fin : ∀ (H1 : Heap) (locs1 : List Loc), va_P (zD E) zcl ((zws ns ad ca h).set q0 (ad r, .inr (ci, (zfs ad h r ci).set j (zenc ad v)))) H1 → va_D (zA E) ((zws ns ad ca h).set q0 (ad r, .inr (ci, (zfs ad h r ci).set j (zenc ad v)))) → va_S (zA E) s.heap H1 locs1 → W p l e R s m args below meth c H1 locs1 cells slots Q (F0 m (pc + 3) la (st.map (zenc ad))) := by
    intro H1 locs1 hP1 hD1 hS1
    rw [← hc2] at hP1 hD1
    have hp2 := hp.upd hh hq hr eC1 eN1 e1 e2 e3 (e4 hvl (hh.2.2.2.2.2.2 r (List.mem_of_getElem? hq))) hP1 hD1
    exact kk ad H1 locs1 la (fun _ _ => rfl) hp2 hS1 hl (fun v hv => (zk_tl2 ha v hv).le hle) (fun v hv => (hb v hv).le hle)
  rcases hw with ⟨hw, hfin | ⟨hfin, hnm, hdecl⟩⟩ | ⟨host, hw, hfin⟩
  · exact va_put cx.1 cx.2.1 hwf (zcl_in hcl) (zty ci) (zcl_ty hcl) (zcl_nm hcl) cx.2.2.2.2.1 hh.2.2.1 hh.2.2.2.1 hh.2.2.2.2.1 hS q0 he hcl j hj (hwf _ hw) (fun x hx => hx) hfin hty (hn ad).1 (hn ad).2 (by rw [zfs_len, znf_of hcl]; exact hj) hd fin
  · exact va_putF cx.1 cx.2.1 hwf (zcl_in hcl) (zty ci) (zcl_ty hcl) (zcl_nm hcl) cx.2.2.2.2.1 hh.2.2.1 hh.2.2.2.1 hh.2.2.2.2.1 hS q0 he hcl j hj (hwf _ hw) (fun x hx => hx) hfin (cx.2.2.2.2.2.2.2.1.trans hnm) hdecl hty (hn ad).1 (hn ad).2 (by rw [zfs_len, znf_of hcl]; exact hj) hd fin
  · exact va_putN cx.1 cx.2.1 hwf (zcl_in hcl) (zty ci) (zcl_ty hcl) (zcl_nm hcl) cx.2.2.2.2.1 hh.2.2.1 hh.2.2.2.1 hh.2.2.2.2.1 hS q0 he hcl j hj (va_Nw.use rfl (hE.1 _ hw)) (fun x hx => hx) hfin hty (hn ad).1 (hn ad).2 (by rw [zfs_len, znf_of hcl]; exact hj) hd fin
theorem zsI_ne {k i j : Nat} {v : Int32} {r' : zRf} (e : r' ≠ (k, i)) : zI (zsI h k i j v) r'.1 r'.2 = zI h r'.1 r'.2 := by
  funext c
  exact if_neg (fun z => e (Prod.ext z.1 z.2.1))
theorem zsL_ne {k i j : Nat} {v : Int64} {r' : zRf} (e : r' ≠ (k, i)) : zL (zsL h k i j v) r'.1 r'.2 = zL h r'.1 r'.2 := by
  funext c
  exact if_neg (fun z => e (Prod.ext z.1 z.2.1))
theorem zsR_ne {k i j : Nat} {v : Option zRf} {r' : zRf} (e : r' ≠ (k, i)) : zR (zsR h k i j v) r'.1 r'.2 = zR h r'.1 r'.2 := by
  funext c
  exact if_neg (fun z => e (Prod.ext z.1 z.2.1))
theorem zI_same (h : zH) (k i j : Nat) (v : Int32) : zI (zsI h k i j v) k i j = v := if_pos ⟨rfl, rfl, rfl⟩
theorem zL_same (h : zH) (k i j : Nat) (v : Int64) : zL (zsL h k i j v) k i j = v := if_pos ⟨rfl, rfl, rfl⟩
theorem zR_same (h : zH) (k i j : Nat) (v : Option zRf) : zR (zsR h k i j v) k i j = v := if_pos ⟨rfl, rfl, rfl⟩
theorem zI_oth (h : zH) (k i j : Nat) (v : Int32) {j' : Nat} (e : j' ≠ j) : zI (zsI h k i j v) k i j' = zI h k i j' := if_neg (fun z => e z.2.2)
theorem zL_oth (h : zH) (k i j : Nat) (v : Int64) {j' : Nat} (e : j' ≠ j) : zL (zsL h k i j v) k i j' = zL h k i j' := if_neg (fun z => e z.2.2)
theorem zR_oth (h : zH) (k i j : Nat) (v : Option zRf) {j' : Nat} (e : j' ≠ j) : zR (zsR h k i j v) k i j' = zR h k i j' := if_neg (fun z => e z.2.2)
theorem w_putI {index ci j k i : Nat} {v : Int32} (hd : zAt M pc (.putfield index) 3 nx) (hf : zFldW M index ci j) (hs : zshp k = ci) (hc : ci < 100) (hr : k < 900) (ht : zkd (zty ci j) = 0) (hn : narrow (zty ci j) (.int v) = .int v ∧ fits (zty ci j) (.int v) = true) (kk : Wp l M d nx ls st (zsI h k i j v) Q) : Wp l M d pc ls (Vi v :: Vq (some (k, i)) :: st) h Q :=
  wst (fun o h' a => R_put (r := (k, i)) (v := Vi v) (h2 := zsI h k i j v) hd hf hs hc hr (fun _ => hn) rfl (fun r' e => zsI_ne e) (fun _ _ => rfl) (fun _ _ => rfl) (fun _ b => b) (fun ad => by rw [zfv_0 ht]; exact congrArg Value.int (zI_same h k i j v)) (fun ad i' e => zfv_same (zI_oth h k i j v e) rfl rfl) a) kk
theorem w_putL {index ci j k i : Nat} {v : Int64} (hd : zAt M pc (.putfield index) 3 nx) (hf : zFldW M index ci j) (hs : zshp k = ci) (hc : ci < 100) (hr : k < 900) (ht : zkd (zty ci j) = 1) (hn : narrow (zty ci j) (.long v) = .long v ∧ fits (zty ci j) (.long v) = true) (kk : Wp l M d nx ls st (zsL h k i j v) Q) : Wp l M d pc ls (Vj v :: Vq (some (k, i)) :: st) h Q :=
  wst (fun o h' a => R_put (r := (k, i)) (v := Vj v) (h2 := zsL h k i j v) hd hf hs hc hr (fun _ => hn) rfl (fun _ _ => rfl) (fun r' e => zsL_ne e) (fun _ _ => rfl) (fun _ b => b) (fun ad => by rw [zfv_1 ht]; exact congrArg Value.long (zL_same h k i j v)) (fun ad i' e => zfv_same rfl (zL_oth h k i j v e) rfl) a) kk
theorem w_putR {index ci j k i : Nat} {q : Option zRf} (hd : zAt M pc (.putfield index) 3 nx) (hf : zFldW M index ci j) (hs : zshp k = ci) (hc : ci < 100) (hr : k < 900) (ht : zkd (zty ci j) = 2) (hn : ∀ x : Option Nat, narrow (zty ci j) (va_rf x) = va_rf x ∧ fits (zty ci j) (va_rf x) = true) (kk : Wp l M d nx ls st (zsR h k i j q) Q) : Wp l M d pc ls (Vq q :: Vq (some (k, i)) :: st) h Q :=
  wst (fun o h' a => R_put (r := (k, i)) (v := Vq q) (h2 := zsR h k i j q) hd hf hs hc hr (fun ad => hn (q.map ad)) rfl (fun _ _ => rfl) (fun _ _ => rfl) (fun r' e => zsR_ne e) (fun hq hall j' r' hj => by
    by_cases e : j' = j
    · subst e
      rw [zR_same] at hj
      subst hj
      exact hq
    · rw [zR_oth h k i j q e] at hj
      exact hall j' r' hj) (fun ad => by rw [zfv_2 ht]; exact congrArg (fun q => va_rf (Option.map ad q)) (zR_same h k i j q)) (fun ad i' e => zfv_same rfl rfl (by rw [zR_oth h k i j q e])) a) kk
end zROWS
end
section
-- ARRAYS, NEW CELLS
section zROWS
variable {l : Launch} {M : zM} {d pc nx : Nat} {ls : List (Option zV)} {st : List zV} {h h' : zH} {o : zO} {Q : zO → zH → Prop}
theorem zcl2 {x : Int32} {n : Nat} (hx : x = nI n) (hn : n < 2 ^ 31) : x.toNatClampNeg = n := by rw [hx]; exact nI_clamp hn
theorem zin2 {x : Int32} {n L : Nat} (hx : x = nI n) (hn : n < L) (hL : L < 2 ^ 31) : vp_in x L := by rw [hx]; exact vp_in_nI hn hL
/-- an element is read; row: which of the kit's rows serves -/
theorem R_aget {ins : Instr} {r : zRf} {x : Int32} {v : zV} (hd : zAt M pc ins 1 nx) (hr : r.1 < 900) (h1 : 100 ≤ zshp r.1)
    (row : ∀ (E : zEv) (p : Program) (e : Env) (R : Room) (s : State) (m : MethodId) (args : Array Value) (below : List Frame) (meth : Method) (c : Code) (H : Heap) (locs : List Loc) (cells slots : Nat) (ad : zRf → Nat) (la : Array Slot) (Q : State → Prop) (ns : List zRf) (ca : zRf → ClassId) (tys : List (ClassId × FieldType)) (q0 t0 : Nat) (rest : List Value),
      zCx l M d E p e R s m args below meth c → va_K (zD E) zcl tys s → va_P (zD E) zcl (zws ns ad ca h) H → (zws ns ad ca h)[q0]? = some (ad r, zcell ad ca h r) → tys[t0]? = some (ca r, zel (zshp r.1)) → decode (zMc M) pc = .ok (ins, 1) →
      W p l e R s m args below meth c H locs cells slots Q (F0 m (pc + 1) la (zenc ad v :: rest)) → W p l e R s m args below meth c H locs cells slots Q (F0 m pc la (.int x :: .ref (ad r) :: rest)))
    (hva : (∀ (j : Nat) (r' : zRf), zR h r.1 r.2 j = some r' → zal h r') → zalV h v) (k : zRn l M d nx ls (v :: st) h o h') : zRn l M d pc ls (Vi x :: Vq (some r) :: st) h o h' := by
  obtain ⟨hd, rfl⟩ := hd
  refine zRn.step (zLe.rf h) k ?_
  intro E p e R s m args below meth c H locs cells slots ad la Q cx hp hS hl ha hb hcc hdd kk
  rw [Nat.sub_self, Nat.add_zero, Nat.sub_self, Nat.add_zero] at kk
  have hlive : r.2 < zC h r.1 := (zal.st (zk_tl ha)).lt hr
  obtain ⟨-, ns, ca, tys, q0, hh, hq⟩ := hp.at hlive
  have hm := List.mem_of_getElem? hq
  obtain ⟨t0, ht⟩ := hh.2.2.2.2.2.1 r hm h1
  exact row E p e R s m args below meth c H locs cells slots ad la Q ns ca tys q0 t0 _ cx hh.2.2.1 hh.2.2.2.1 (zws_get hq) ht hd (kk ad H locs la (fun _ _ => rfl) hp hS hl (zk_cons (zk_tl2 ha) (hva (hh.2.2.2.2.2.2 r hm))) hb)
theorem w_iaload {k i : Nat} {x : Int32} (n : Nat) (hd : zAt M pc .iaload 1 nx) (hs : zshp k = 100) (hr : k < 900) (hx : x = nI n) (hn : n < zN h k i) (hb : zN h k i < 2 ^ 31) (kk : Wp l M d nx ls (Vi (zI h k i n) :: st) h Q) : Wp l M d pc ls (Vi x :: Vq (some (k, i)) :: st) h Q :=
  wst (fun o h' a => R_aget (r := (k, i)) (v := Vi (zI h k i n)) hd hr (by rw [hs]; decide) (fun E p e R s m args below meth c H locs cells slots ad la Q ns ca tys q0 t0 rest cx hK hP hg ht hdd w => by
    rw [zcell_i (by rw [hs]; decide) (by rw [hs]; decide) (by rw [hs]; decide)] at hg
    rw [hs] at ht
    exact va_iald cx.1 cx.2.1 hK hP q0 t0 hg ht (zin2 hx hn hb) hdd (by rw [zcl2 hx (by omega)]; exact w)) (fun _ => trivial) a) kk
theorem w_baload {k i : Nat} {x : Int32} (n : Nat) (hd : zAt M pc .baload 1 nx) (hs : zshp k = 102) (hr : k < 900) (hx : x = nI n) (hn : n < zN h k i) (hb : zN h k i < 2 ^ 31) (kk : Wp l M d nx ls (Vi (zI h k i n) :: st) h Q) : Wp l M d pc ls (Vi x :: Vq (some (k, i)) :: st) h Q :=
  wst (fun o h' a => R_aget (r := (k, i)) (v := Vi (zI h k i n)) hd hr (by rw [hs]; decide) (fun E p e R s m args below meth c H locs cells slots ad la Q ns ca tys q0 t0 rest cx hK hP hg ht hdd w => by
    rw [zcell_i (by rw [hs]; decide) (by rw [hs]; decide) (by rw [hs]; decide)] at hg
    rw [hs] at ht
    exact va_bald cx.1 cx.2.1 hK hP q0 t0 hg ht (zin2 hx hn hb) hdd (by rw [zcl2 hx (by omega)]; exact w)) (fun _ => trivial) a) kk
theorem w_zaload {k i : Nat} {x : Int32} (n : Nat) (hd : zAt M pc .baload 1 nx) (hs : zshp k = 103) (hr : k < 900) (hx : x = nI n) (hn : n < zN h k i) (hb : zN h k i < 2 ^ 31) (kk : Wp l M d nx ls (Vi (zI h k i n) :: st) h Q) : Wp l M d pc ls (Vi x :: Vq (some (k, i)) :: st) h Q :=
  wst (fun o h' a => R_aget (r := (k, i)) (v := Vi (zI h k i n)) hd hr (by rw [hs]; decide) (fun E p e R s m args below meth c H locs cells slots ad la Q ns ca tys q0 t0 rest cx hK hP hg ht hdd w => by
    rw [zcell_i (by rw [hs]; decide) (by rw [hs]; decide) (by rw [hs]; decide)] at hg
    rw [hs] at ht
    exact va_zald cx.1 cx.2.1 hK hP q0 t0 hg ht (zin2 hx hn hb) hdd (by rw [zcl2 hx (by omega)]; exact w)) (fun _ => trivial) a) kk
theorem w_laload {k i : Nat} {x : Int32} (n : Nat) (hd : zAt M pc .laload 1 nx) (hs : zshp k = 101) (hr : k < 900) (hx : x = nI n) (hn : n < zN h k i) (hb : zN h k i < 2 ^ 31) (kk : Wp l M d nx ls (Vj (zL h k i n) :: st) h Q) : Wp l M d pc ls (Vi x :: Vq (some (k, i)) :: st) h Q :=
  wst (fun o h' a => R_aget (r := (k, i)) (v := Vj (zL h k i n)) hd hr (by rw [hs]; decide) (fun E p e R s m args below meth c H locs cells slots ad la Q ns ca tys q0 t0 rest cx hK hP hg ht hdd w => by
    rw [zcell_l hs] at hg
    rw [hs] at ht
    exact va_lald cx.1 cx.2.1 hK hP q0 t0 hg ht (zin2 hx hn hb) hdd (by rw [zcl2 hx (by omega)]; exact w)) (fun _ => trivial) a) kk
theorem w_aaload {k i : Nat} {x : Int32} {q : Option zRf} (n : Nat) (hd : zAt M pc .aaload 1 nx) (hs : 110 ≤ zshp k) (hr : k < 900) (hx : x = nI n) (hn : n < zN h k i) (hb : zN h k i < 2 ^ 31) (he : ∃ C, zel (zshp k) = .object C) (hq : zR h k i n = q) (kk : Wp l M d nx ls (Vq q :: st) h Q) : Wp l M d pc ls (Vi x :: Vq (some (k, i)) :: st) h Q :=
  wst (fun o h' a => R_aget (r := (k, i)) (v := Vq q) hd hr (Nat.le_trans (by decide) hs) (fun E p e R s m args below meth c H locs cells slots ad la Q ns ca tys q0 t0 rest cx hK hP hg ht hdd w => by
    rw [zcell_q hs] at hg
    obtain ⟨C, hC⟩ := he
    rw [hC] at ht
    refine va_aldq cx.1 cx.2.1 hK hP q0 t0 hg ht (zin2 hx hn hb) hdd ?_
    rw [zcl2 hx (by omega)]
    show W p l e R s m args below meth c H locs cells slots Q (F0 m (pc + 1) la (va_rf ((zR h k i n).map ad) :: rest))
    rw [hq]
    exact w) (fun hall => by
      cases q with
      | none => trivial
      | some r' => exact hall n r' hq) a) kk
theorem R_alen {r : zRf} {v : Int32} (hd : zAt M pc .arraylength 1 nx) (hr : r.1 < 900) (h1 : 100 ≤ zshp r.1) (hv : nI (zN h r.1 r.2) = v) (k : zRn l M d nx ls (Vi v :: st) h o h') : zRn l M d pc ls (Vq (some r) :: st) h o h' := by
  obtain ⟨hd, rfl⟩ := hd
  refine zRn.step (zLe.rf h) k ?_
  intro E p e R s m args below meth c H locs cells slots ad la Q cx hp hS hl ha hb hcc hdd kk
  rw [Nat.sub_self, Nat.add_zero, Nat.sub_self, Nat.add_zero] at kk
  have hlive : r.2 < zC h r.1 := (zal.st ha).lt hr
  obtain ⟨-, ns, ca, tys, q0, hh, hq⟩ := hp.at hlive
  have hm := List.mem_of_getElem? hq
  obtain ⟨t0, ht⟩ := hh.2.2.2.2.2.1 r hm h1
  have kk := kk ad H locs la (fun _ _ => rfl) hp hS hl (zk_cons (zk_tl ha) (zal_i h v)) hb
  have hg := zws_get (ad := ad) (ca := ca) (h := h) hq
  by_cases e1 : zshp r.1 = 101
  · rw [zcell_l e1] at hg
    exact va_alen cx.1 cx.2.1 hh.2.2.1 hh.2.2.2.1 q0 t0 hg ht hv hd kk
  · by_cases e2 : zshp r.1 < 110
    · rw [zcell_i h1 e1 e2] at hg
      exact va_alen cx.1 cx.2.1 hh.2.2.1 hh.2.2.2.1 q0 t0 hg ht hv hd kk
    · rw [zcell_q (by omega)] at hg
      exact va_alen cx.1 cx.2.1 hh.2.2.1 hh.2.2.2.1 q0 t0 hg ht hv hd kk
theorem w_alen {k i : Nat} {v : Int32} (hd : zAt M pc .arraylength 1 nx) (hr : k < 900) (h1 : 100 ≤ zshp k) (hv : nI (zN h k i) = v) (kk : Wp l M d nx ls (Vi v :: st) h Q) : Wp l M d pc ls (Vq (some (k, i)) :: st) h Q :=
  wst (fun o h' a => R_alen (r := (k, i)) hd hr h1 hv a) kk
/-- an element is written -/
theorem R_aput {ins : Instr} {r : zRf} {x : Int32} {v : zV} {h2 : zH} (hd : zAt M pc ins 1 nx) (hr : r.1 < 900) (h1 : 100 ≤ zshp r.1)
    (eC : h2.2.2.2 = h.2.2.2) (e1 : ∀ r' : zRf, r' ≠ r → zI h2 r'.1 r'.2 = zI h r'.1 r'.2) (e2 : ∀ r' : zRf, r' ≠ r → zL h2 r'.1 r'.2 = zL h r'.1 r'.2) (e3 : ∀ r' : zRf, r' ≠ r → zR h2 r'.1 r'.2 = zR h r'.1 r'.2)
    (e4 : zalV h v → (∀ (j : Nat) (r' : zRf), zR h r.1 r.2 j = some r' → zal h r') → ∀ (j : Nat) (r' : zRf), zR h2 r.1 r.2 j = some r' → zal h r')
    (row : ∀ (E : zEv) (p : Program) (e : Env) (R : Room) (s : State) (m : MethodId) (args : Array Value) (below : List Frame) (meth : Method) (c : Code) (H : Heap) (locs : List Loc) (cells slots : Nat) (ad : zRf → Nat) (la : Array Slot) (Q : State → Prop) (ns : List zRf) (ca : zRf → ClassId) (tys : List (ClassId × FieldType)) (q0 t0 : Nat) (rest : List Value),
      zCx l M d E p e R s m args below meth c → zHold E ad s h H ns ca tys → va_S (zA E) s.heap H locs → (zws ns ad ca h)[q0]? = some (ad r, zcell ad ca h r) → tys[t0]? = some (ca r, zel (zshp r.1)) → zalV h v → decode (zMc M) pc = .ok (ins, 1) →
      (∀ (H1 : Heap) (locs1 : List Loc), va_P (zD E) zcl ((zws ns ad ca h).set q0 (ad r, zcell ad ca h2 r)) H1 → va_D (zA E) ((zws ns ad ca h).set q0 (ad r, zcell ad ca h2 r)) → va_S (zA E) s.heap H1 locs1 → W p l e R s m args below meth c H1 locs1 cells slots Q (F0 m (pc + 1) la rest)) →
      W p l e R s m args below meth c H locs cells slots Q (F0 m pc la (zenc ad v :: .int x :: .ref (ad r) :: rest)))
    (k : zRn l M d nx ls st h2 o h') : zRn l M d pc ls (v :: Vi x :: Vq (some r) :: st) h o h' := by
  obtain ⟨hd, rfl⟩ := hd
  have eC1 : zC h2 = zC h := by unfold zC; rw [eC]
  have eN1 : zN h2 = zN h := by unfold zN; rw [eC]
  have ec1 : zc h2 = zc h := by unfold zc; rw [eC]
  have es1 : zs h2 = zs h := by unfold zs; rw [eC]
  have hle : zLe h h2 := ⟨fun k => by rw [eC1]; exact Nat.le_refl _, by rw [ec1]; exact Nat.le_refl _, by rw [es1]; exact Nat.le_refl _⟩
  refine zRn.step hle k ?_
  intro E p e R s m args below meth c H locs cells slots ad la Q cx hp hS hl ha hb hcc hdd kk
  rw [ec1, es1, Nat.sub_self, Nat.add_zero, Nat.sub_self, Nat.add_zero] at kk
  have hlive : r.2 < zC h r.1 := (zal.st (zk_tl2 ha)).lt hr
  obtain ⟨-, ns, ca, tys, q0, hh, hq⟩ := hp.at hlive
  have hm := List.mem_of_getElem? hq
  obtain ⟨t0, ht⟩ := hh.2.2.2.2.2.1 r hm h1
  have hvl : zalV h v := ha _ List.mem_cons_self
  refine row E p e R s m args below meth c H locs cells slots ad la Q ns ca tys q0 t0 _ cx hh hS (zws_get hq) ht hvl hd ?_
  intro H1 locs1 hP1 hD1 hS1
  have hp2 := hp.upd hh hq hr eC1 eN1 e1 e2 e3 (e4 hvl (hh.2.2.2.2.2.2 r hm)) hP1 hD1
  exact kk ad H1 locs1 la (fun _ _ => rfl) hp2 hS1 hl (fun v hv => (zk_tl (zk_tl2 ha) v hv).le hle) (fun v hv => (hb v hv).le hle)
theorem zI_upd (h : zH) (k i j : Nat) (v : Int32) : zI (zsI h k i j v) k i = upd (zI h k i) j v := by
  funext c
  by_cases e : c = j
  · subst e; rw [zI_same, pk_us]
  · rw [zI_oth h k i j v e, pk_un e]
theorem zL_upd (h : zH) (k i j : Nat) (v : Int64) : zL (zsL h k i j v) k i = vp_updL (zL h k i) j v := by
  funext c
  by_cases e : c = j
  · subst e; rw [zL_same, pk_uLs]
  · rw [zL_oth h k i j v e, pk_uLn e]
theorem zR_upd (h : zH) (k i j : Nat) (v : Option zRf) (ad : zRf → Nat) : (fun c => (zR (zsR h k i j v) k i c).map ad) = va_up (fun c => (zR h k i c).map ad) j (v.map ad) := by
  funext c
  by_cases e : c = j
  · subst e; rw [zR_same, va_up_self]
  · rw [zR_oth h k i j v e, va_up_ne _ _ e]
theorem w_iastore {k i : Nat} {x v : Int32} (n : Nat) (hd : zAt M pc .iastore 1 nx) (hs : zshp k = 100) (hr : k < 900) (hx : x = nI n) (hn : n < zN h k i) (hb : zN h k i < 2 ^ 31) (kk : Wp l M d nx ls st (zsI h k i n v) Q) : Wp l M d pc ls (Vi v :: Vi x :: Vq (some (k, i)) :: st) h Q :=
  wst (fun o h' a => R_aput (r := (k, i)) (v := Vi v) (h2 := zsI h k i n v) hd hr (by rw [hs]; decide) rfl (fun r' e => zsI_ne e) (fun _ _ => rfl) (fun _ _ => rfl) (fun _ b => b) (fun E p e R s m args below meth c H locs cells slots ad la Q ns ca tys q0 t0 rest cx hh hS hg ht hvl hdd w => by
    have ec : zcell ad ca (zsI h k i n v) (k, i) = .inl (ca (k, i), zN h k i, .inl (upd (zI h k i) n v)) := by
      rw [zcell_i (by rw [hs]; decide) (by rw [hs]; decide) (by rw [hs]; decide)]
      exact congrArg (fun f => Sum.inl (ca (k, i), zN h k i, Sum.inl f)) (zI_upd h k i n v)
    rw [ec] at w
    rw [zcell_i (by rw [hs]; decide) (by rw [hs]; decide) (by rw [hs]; decide)] at hg
    rw [hs] at ht
    refine va_iast cx.1 cx.2.1 hh.2.2.1 hh.2.2.2.1 hh.2.2.2.2.1 hS q0 t0 hg ht (zin2 hx hn hb) hdd ?_
    rw [zcl2 hx (by omega)]
    exact w) a) kk
theorem w_bastore {k i : Nat} {x v : Int32} (n : Nat) (hd : zAt M pc .bastore 1 nx) (hs : zshp k = 102) (hr : k < 900) (hx : x = nI n) (hn : n < zN h k i) (hb : zN h k i < 2 ^ 31) (kk : Wp l M d nx ls st (zsI h k i n (vp_nar .byte v)) Q) : Wp l M d pc ls (Vi v :: Vi x :: Vq (some (k, i)) :: st) h Q :=
  wst (fun o h' a => R_aput (r := (k, i)) (v := Vi v) (h2 := zsI h k i n (vp_nar .byte v)) hd hr (by rw [hs]; decide) rfl (fun r' e => zsI_ne e) (fun _ _ => rfl) (fun _ _ => rfl) (fun _ b => b) (fun E p e R s m args below meth c H locs cells slots ad la Q ns ca tys q0 t0 rest cx hh hS hg ht hvl hdd w => by
    have ec : zcell ad ca (zsI h k i n (vp_nar .byte v)) (k, i) = .inl (ca (k, i), zN h k i, .inl (upd (zI h k i) n (vp_nar .byte v))) := by
      rw [zcell_i (by rw [hs]; decide) (by rw [hs]; decide) (by rw [hs]; decide)]
      exact congrArg (fun f => Sum.inl (ca (k, i), zN h k i, Sum.inl f)) (zI_upd h k i n (vp_nar .byte v))
    rw [ec] at w
    rw [zcell_i (by rw [hs]; decide) (by rw [hs]; decide) (by rw [hs]; decide)] at hg
    rw [hs] at ht
    refine va_bast cx.1 cx.2.1 hh.2.2.1 hh.2.2.2.1 hh.2.2.2.2.1 hS q0 t0 hg ht (zin2 hx hn hb) hdd ?_
    rw [zcl2 hx (by omega)]
    exact w) a) kk
theorem w_zastore {k i : Nat} {x v : Int32} (n : Nat) (hd : zAt M pc .bastore 1 nx) (hs : zshp k = 103) (hr : k < 900) (hx : x = nI n) (hn : n < zN h k i) (hb : zN h k i < 2 ^ 31) (kk : Wp l M d nx ls st (zsI h k i n (vp_nar .boolean v)) Q) : Wp l M d pc ls (Vi v :: Vi x :: Vq (some (k, i)) :: st) h Q :=
  wst (fun o h' a => R_aput (r := (k, i)) (v := Vi v) (h2 := zsI h k i n (vp_nar .boolean v)) hd hr (by rw [hs]; decide) rfl (fun r' e => zsI_ne e) (fun _ _ => rfl) (fun _ _ => rfl) (fun _ b => b) (fun E p e R s m args below meth c H locs cells slots ad la Q ns ca tys q0 t0 rest cx hh hS hg ht hvl hdd w => by
    have ec : zcell ad ca (zsI h k i n (vp_nar .boolean v)) (k, i) = .inl (ca (k, i), zN h k i, .inl (upd (zI h k i) n (vp_nar .boolean v))) := by
      rw [zcell_i (by rw [hs]; decide) (by rw [hs]; decide) (by rw [hs]; decide)]
      exact congrArg (fun f => Sum.inl (ca (k, i), zN h k i, Sum.inl f)) (zI_upd h k i n (vp_nar .boolean v))
    rw [ec] at w
    rw [zcell_i (by rw [hs]; decide) (by rw [hs]; decide) (by rw [hs]; decide)] at hg
    rw [hs] at ht
    refine va_zast cx.1 cx.2.1 hh.2.2.1 hh.2.2.2.1 hh.2.2.2.2.1 hS q0 t0 hg ht (zin2 hx hn hb) hdd ?_
    rw [zcl2 hx (by omega)]
    exact w) a) kk
theorem w_lastore {k i : Nat} {x : Int32} {v : Int64} (n : Nat) (hd : zAt M pc .lastore 1 nx) (hs : zshp k = 101) (hr : k < 900) (hx : x = nI n) (hn : n < zN h k i) (hb : zN h k i < 2 ^ 31) (kk : Wp l M d nx ls st (zsL h k i n v) Q) : Wp l M d pc ls (Vj v :: Vi x :: Vq (some (k, i)) :: st) h Q :=
  wst (fun o h' a => R_aput (r := (k, i)) (v := Vj v) (h2 := zsL h k i n v) hd hr (by rw [hs]; decide) rfl (fun _ _ => rfl) (fun r' e => zsL_ne e) (fun _ _ => rfl) (fun _ b => b) (fun E p e R s m args below meth c H locs cells slots ad la Q ns ca tys q0 t0 rest cx hh hS hg ht hvl hdd w => by
    have ec : zcell ad ca (zsL h k i n v) (k, i) = .inl (ca (k, i), zN h k i, .inr (.inl (vp_updL (zL h k i) n v))) := by
      rw [zcell_l hs]
      exact congrArg (fun f => Sum.inl (ca (k, i), zN h k i, Sum.inr (Sum.inl f))) (zL_upd h k i n v)
    rw [ec] at w
    rw [zcell_l hs] at hg
    rw [hs] at ht
    refine va_last cx.1 cx.2.1 hh.2.2.1 hh.2.2.2.1 hh.2.2.2.2.1 hS q0 t0 hg ht (zin2 hx hn hb) hdd ?_
    rw [zcl2 hx (by omega)]
    exact w) a) kk
/-- a living object of class ci goes into an array of that class -/
theorem w_aastore {k i ci : Nat} {x : Int32} {r' : zRf} (n : Nat) (hd : zAt M pc .aastore 1 nx) (hs : zshp k = 110 + ci) (hr : k < 900) (hs' : zshp r'.1 = ci) (hci : ci < 15) (hr' : r'.1 < 900) (hx : x = nI n) (hn : n < zN h k i) (hb : zN h k i < 2 ^ 31) (kk : Wp l M d nx ls st (zsR h k i n (some r')) Q) : Wp l M d pc ls (Vq (some r') :: Vi x :: Vq (some (k, i)) :: st) h Q :=
  wst (fun o h' a => R_aput (r := (k, i)) (v := Vq (some r')) (h2 := zsR h k i n (some r')) hd hr (by rw [hs]; exact Nat.le_trans (by decide) (Nat.le_add_right 110 ci)) rfl (fun _ _ => rfl) (fun _ _ => rfl) (fun r' e => zsR_ne e) (fun hq hall j' r'' hj => by
    by_cases e : j' = n
    · subst e
      rw [zR_same] at hj
      cases hj
      exact hq
    · rw [zR_oth h k i n (some r') e] at hj
      exact hall j' r'' hj) (fun E p e R s m args below meth c H locs cells slots ad la Q ns ca tys q0 t0 rest cx hh hS hg ht hvl hdd w => by
    have h110 : 110 ≤ zshp (k, i).1 := by rw [show zshp (k, i).1 = 110 + ci from hs]; exact Nat.le_add_right _ _
    have ec : zcell ad ca (zsR h k i n (some r')) (k, i) = .inl (ca (k, i), zN h k i, .inr (.inr (.inr (.inr (va_up (fun c => (zR h k i c).map ad) n (some (ad r'))))))) := by
      rw [zcell_q h110]
      exact congrArg (fun f => Sum.inl (ca (k, i), zN h k i, Sum.inr (Sum.inr (Sum.inr (Sum.inr f))))) (zR_upd h k i n (some r') ad)
    rw [ec] at w
    rw [zcell_q h110] at hg
    have hlive : r'.2 < zC h r'.1 := zal.lt (h := h) hvl hr'
    obtain ⟨qk, hqk⟩ := List.getElem?_of_mem ((hh.2.1 r').mpr hlive)
    have hv := zws_get (ad := ad) (ca := ca) (h := h) hqk
    rw [zcell_o hs' (by omega)] at hv
    obtain ⟨rc, hrc⟩ : ∃ rc, zcl[ci]? = some rc := ⟨_, List.getElem?_eq_getElem (show ci < zcl.length from hci)⟩
    have hel : zel (zshp k) = .object rc.1 := by
      rw [hs]
      have e1 : zel (110 + ci) = .object ((zcl[ci]?.map (fun q => q.1)).getD "") := by
        unfold zel
        split <;> first | omega | (simp only [Nat.add_sub_cancel_left])
      rw [e1, hrc]; rfl
    rw [show zel (zshp (k, i).1) = .object rc.1 from hel] at ht
    refine va_astq cx.1 cx.2.1 hh.2.2.1 hh.2.2.2.1 hh.2.2.2.2.1 hS q0 t0 qk ci hg ht hv hrc (zin2 hx hn hb) hdd ?_
    rw [zcl2 hx (by omega)]
    exact w) a) kk
end zROWS
end
section
-- NEW CELLS
def zokT (ty : FieldType) : Bool := match ty with
  | .float => false
  | .double => false
  | _ => true
theorem zdef {ad : zRf → Nat} {h : zH} {r : zRf} {ty : FieldType} {j : Nat} (ok : zokT ty = true) (e1 : zI h r.1 r.2 j = 0) (e2 : zL h r.1 r.2 j = 0) (e3 : zR h r.1 r.2 j = none) : defaultValue ty = zfv ad h r ty j := by
  cases ty <;> first | exact absurd ok (by decide) | (simp only [zfv, e1, e2, e3]; rfl)
theorem znew_I (h : zH) (k n w : Nat) {r : zRf} (e : r ≠ (k, zC h k)) : zI (znew h k n w) r.1 r.2 = zI h r.1 r.2 := by
  funext c
  exact if_neg (fun z => e (Prod.ext z.1 z.2))
theorem znew_L (h : zH) (k n w : Nat) {r : zRf} (e : r ≠ (k, zC h k)) : zL (znew h k n w) r.1 r.2 = zL h r.1 r.2 := by
  funext c
  exact if_neg (fun z => e (Prod.ext z.1 z.2))
theorem znew_R (h : zH) (k n w : Nat) {r : zRf} (e : r ≠ (k, zC h k)) : zR (znew h k n w) r.1 r.2 = zR h r.1 r.2 := by
  funext c
  exact if_neg (fun z => e (Prod.ext z.1 z.2))
theorem znew_N (h : zH) (k n w : Nat) {r : zRf} (e : r ≠ (k, zC h k)) : zN (znew h k n w) r.1 r.2 = zN h r.1 r.2 := if_neg (fun z => e (Prod.ext z.1 z.2))
theorem znew_I0 (h : zH) (k n w j : Nat) : zI (znew h k n w) k (zC h k) j = 0 := if_pos ⟨rfl, rfl⟩
theorem znew_L0 (h : zH) (k n w j : Nat) : zL (znew h k n w) k (zC h k) j = 0 := if_pos ⟨rfl, rfl⟩
theorem znew_R0 (h : zH) (k n w j : Nat) : zR (znew h k n w) k (zC h k) j = none := if_pos ⟨rfl, rfl⟩
theorem znew_N0 (h : zH) (k n w : Nat) : zN (znew h k n w) k (zC h k) = n := if_pos ⟨rfl, rfl⟩
theorem znew_C (h : zH) (k n w : Nat) : zC (znew h k n w) k = zC h k + 1 := if_pos rfl
theorem znew_Cn (h : zH) (k n w : Nat) {a : Nat} (e : a ≠ k) : zC (znew h k n w) a = zC h a := if_neg e
theorem znew_le (h : zH) (k n w : Nat) : zLe h (znew h k n w) := by
  refine ⟨fun a => ?_, Nat.le_succ _, Nat.le_add_right _ _⟩
  by_cases e : a = k
  · subst e; rw [znew_C]; exact Nat.le_succ _
  · rw [znew_Cn h k n w e]; exact Nat.le_refl _
theorem zHp.add {E : zEv} {ad : zRf → Nat} {U : State} {h : zH} {H H1 : Heap} {k n w q : Nat} {cA : ClassId} {ns : List zRf} {ca : zRf → ClassId} {tys tys2 : List (ClassId × FieldType)} {cell : va_E} (hp : zHp E ad U h H) (hh : zHold E ad U h H ns ca tys) (hk : k < 900)
    (hK : va_K (zD E) zcl tys2 U) (hsub : ∀ (t0 : Nat) (x : ClassId × FieldType), tys[t0]? = some x → tys2[t0]? = some x)
    (hcell : zcell ad (fun x => if x = (k, zC h k) then cA else ca x) (znew h k n w) (k, zC h k) = cell)
    (hP : va_P (zD E) zcl (zws ns ad ca h ++ [(q, cell)]) H1) (hD : va_D (zA E) (zws ns ad ca h ++ [(q, cell)])) (ht : 100 ≤ zshp k → ∃ t0 : Nat, tys2[t0]? = some (cA, zel (zshp k))) :
    zHp E (fun x => if x = (k, zC h k) then q else ad x) U (znew h k n w) H1 := by
  obtain ⟨g1, g2, g3, -⟩ := hp
  obtain ⟨k1, k2, k3, k4, k5, k6, k7⟩ := hh
  have hnin : (k, zC h k) ∉ ns := fun z => by have := (k2 (k, zC h k)).mp z; exact Nat.lt_irrefl _ this
  have hout : ∀ r : zRf, 900 ≤ r.1 → r ≠ (k, zC h k) := fun r hr z => by rw [z] at hr; exact absurd hk (Nat.not_lt.mpr hr)
  have hold : ∀ r : zRf, zal h r → r ≠ (k, zC h k) := fun r hr z => by
    rcases hr with q | q
    · rw [z] at q; exact Nat.lt_irrefl _ q
    · exact hout r q z
  have hws : zws (ns ++ [(k, zC h k)]) (fun x => if x = (k, zC h k) then q else ad x) (fun x => if x = (k, zC h k) then cA else ca x) (znew h k n w) = zws ns ad ca h ++ [(q, cell)] := by
    unfold zws
    rw [List.map_append]
    congr 1
    · refine List.map_congr_left (fun r hr => ?_)
      have hne : r ≠ (k, zC h k) := fun z => hnin (z ▸ hr)
      have e1 : (if r = (k, zC h k) then q else ad r) = ad r := if_neg hne
      have e2 : zcell (fun x => if x = (k, zC h k) then q else ad x) (fun x => if x = (k, zC h k) then cA else ca x) (znew h k n w) r = zcell ad ca h r :=
        zcell_same (if_neg hne) (znew_I h k n w hne) (znew_L h k n w hne) (fun j => by
          rw [znew_R h k n w hne]
          cases hz : zR h r.1 r.2 j with
          | none => rfl
          | some r' => exact congrArg some (if_neg (hold r' (k7 r hr j r' hz)))) (znew_N h k n w hne)
      exact Prod.ext e1 e2
    · have e2 : zcell (fun x => if x = (k, zC h k) then q else ad x) (fun x => if x = (k, zC h k) then cA else ca x) (znew h k n w) (k, zC h k) = cell := by
        rw [← hcell]
        exact zcell_same rfl rfl rfl (fun j => by rw [show zR (znew h k n w) (k, zC h k).1 (k, zC h k).2 j = none from znew_R0 h k n w j]; rfl) rfl
      show [((if (k, zC h k) = (k, zC h k) then q else ad (k, zC h k)), _)] = _
      rw [if_pos rfl, e2]
  refine ⟨fun r hr => ?_, ⟨?_, ?_, ?_, g2.2.2.2⟩, fun a ha => ?_, ns ++ [(k, zC h k)], fun x => if x = (k, zC h k) then cA else ca x, tys2, ?_, fun r => ?_, hK, by rw [hws]; exact hP, by rw [hws]; exact hD, fun r hr hs => ?_, fun r hr j r' hj => ?_⟩
  · exact (if_neg (hout r hr)).trans (g1 r hr)
  · rw [← g2.1]; exact znew_N h k n w (r := (999, 0)) (hout (999, 0) (by decide))
  · rw [← g2.2.1]; exact znew_I h k n w (r := (999, 0)) (hout (999, 0) (by decide))
  · rw [← g2.2.2.1]; exact znew_R h k n w (r := (998, 0)) (hout (998, 0) (by decide))
  · rw [znew_Cn h k n w (by omega)]; exact g3 a ha
  · rw [List.nodup_append]
    refine ⟨k1, by simp, fun a ha b hb z => ?_⟩
    rw [List.mem_singleton] at hb
    exact hnin (hb ▸ z ▸ ha)
  · rw [List.mem_append, List.mem_singleton, k2]
    by_cases e : r.1 = k
    · rw [e, znew_C]
      constructor
      · rintro (z | z)
        · omega
        · rw [z]; exact Nat.lt_succ_self _
      · intro z
        rcases Nat.lt_or_ge r.2 (zC h k) with y | y
        · exact Or.inl y
        · exact Or.inr (Prod.ext e (by show r.2 = zC h k; omega))
    · rw [znew_Cn h k n w e]
      constructor
      · rintro (z | z)
        · exact z
        · exact absurd (congrArg Prod.fst z) e
      · exact Or.inl
  · rcases List.mem_append.mp hr with hr | hr
    · obtain ⟨t0, h0⟩ := k6 r hr hs
      have hne : r ≠ (k, zC h k) := fun z => hnin (z ▸ hr)
      have e1 : (if r = (k, zC h k) then cA else ca r) = ca r := if_neg hne
      exact ⟨t0, by show tys2[t0]? = some ((if r = (k, zC h k) then cA else ca r), zel (zshp r.1)); rw [e1]; exact hsub t0 _ h0⟩
    · rw [List.mem_singleton] at hr
      subst hr
      obtain ⟨t0, h0⟩ := ht hs
      exact ⟨t0, by show tys2[t0]? = some ((if (k, zC h k) = (k, zC h k) then cA else ca (k, zC h k)), zel (zshp k)); rw [if_pos rfl]; exact h0⟩
  · rcases List.mem_append.mp hr with hr | hr
    · rw [znew_R h k n w (fun z => hnin (z ▸ hr))] at hj
      exact zal.le (znew_le h k n w) (k7 r hr j r' hj)
    · rw [List.mem_singleton] at hr
      subst hr
      rw [show zR (znew h k n w) (k, zC h k).1 (k, zC h k).2 j = none from znew_R0 h k n w j] at hj
      cases hj
section zROWS
variable {l : Launch} {M : zM} {d pc nx : Nat} {ls : List (Option zV)} {st : List zV} {h h' : zH} {o : zO} {Q : zO → zH → Prop}
theorem zdelta (h : zH) (k n w : Nat) : zc (znew h k n w) - zc h = 1 ∧ zs (znew h k n w) - zs h = w := by
  constructor
  · show zc h + 1 - zc h = 1; omega
  · show zs h + w - zs h = w; omega
theorem zHp.any {E : zEv} {ad : zRf → Nat} {U : State} {h : zH} {H : Heap} (hp : zHp E ad U h H) : ∃ (ns : List zRf) (ca : zRf → ClassId) (tys : List (ClassId × FieldType)), zHold E ad U h H ns ca tys := by
  obtain ⟨-, -, -, ns, ca, tys, x⟩ := hp
  exact ⟨ns, ca, tys, x⟩
/-- new: an object of class ci at site k -/
theorem w_new {index ci : Nat} {C : String} {T : u_T} {N : Nat} (k : Nat) (hd : zAt M pc (.new index) 3 nx) (hs : zshp k = ci) (hc : ci < 100) (hk : k < 900) (hcl : zcl[ci]? = some (C, T, N)) (h1 : Cond.classLink (zMy M).cls index C ∈ zALL) (h2 : Cond.instantiable C N ∈ zALL) (h3 : Cond.initialized C ∈ zALL) (hty : ∀ j, j < N → zokT (zty ci j) = true)
    (kk : Wp l M d nx ls (Vq (some (k, zC h k)) :: st) (znew h k 0 N) Q) : Wp l M d pc ls st h Q :=
  wst (fun o h' a => by
    obtain ⟨hd, rfl⟩ := hd
    refine zRn.step (znew_le h k 0 N) a ?_
    intro E p e R s m args below meth c H locs cells slots ad la Q cx hp hS hl ha hb hcc hdd kk
    rw [(zdelta h k 0 N).1] at hcc kk
    rw [(zdelta h k 0 N).2] at hdd kk
    obtain ⟨ns, ca, tys, hh⟩ := hp.any
    have hwf := cx.2.2.2.2.2.1
    have hcx := cx
    refine va_new (ci := ci) (fs := zfs ad (znew h k 0 N) (k, zC h k) ci) cx.1 cx.2.1 hwf (zcl_in hcl) (zty ci) (zcl_ty hcl) cx.2.2.2.2.1 (hwf _ h1) (hwf _ h2) (hwf _ h3) hh.2.2.1 hh.2.2.2.1 hh.2.2.2.2.1 hS cx.2.2.2.2.2.2.2.2.2.2.2.1 hcl (fun j hj => ?_) hcc hdd hd (fun q H1 hP1 hD1 hS1 => ?_)
    · rw [vp_V, List.getD_eq_getElem?_getD, zfs_get _ _ _ _ (by rw [znf_of hcl]; exact hj)]
      exact zdef (hty j hj) (znew_I0 h k 0 N j) (znew_L0 h k 0 N j) (znew_R0 h k 0 N j)
    · have hp2 := zHp.add (k := k) (n := 0) (w := N) (q := q) (cA := 0) hp hh hk hh.2.2.1 (fun _ _ z => z) (zcell_o hs hc) hP1 hD1 (fun z => by omega)
      have hsame : ∀ r, zal h r → (if r = (k, zC h k) then q else ad r) = ad r := fun r hr => if_neg (fun z => by
        rcases hr with y | y
        · rw [z] at y; exact Nat.lt_irrefl _ y
        · rw [z] at y; exact absurd hk (Nat.not_lt.mpr y))
      have w1 := kk (fun x => if x = (k, zC h k) then q else ad x) H1 locs la hsame hp2 hS1 (hl.same hsame hb) (zk_cons (fun v hv => (ha v hv).le (znew_le h k 0 N)) (Or.inl (by show zC h k < zC (znew h k 0 N) k; rw [znew_C]; exact Nat.lt_succ_self _))) (fun v hv => (hb v hv).le (znew_le h k 0 N))
      rw [List.map_cons, zenc_list hsame ha] at w1
      have eq1 : zenc (fun x => if x = (k, zC h k) then q else ad x) (Vq (some (k, zC h k))) = .ref q := by
        show Value.ref (if (k, zC h k) = (k, zC h k) then q else ad (k, zC h k)) = .ref q
        rw [if_pos rfl]
      rw [eq1] at w1
      exact w1) kk
theorem w_newarr {atype : ArrayType} {x : Int32} {sh : Nat} (k n : Nat) (hd : zAt M pc (.newarray atype) 2 nx) (hs : zshp k = sh) (hs1 : sh = 100 ∨ sh = 101 ∨ sh = 102 ∨ sh = 103) (hk : k < 900) (hT : newarray.typeOf atype = zel sh) (hA : Cond.arrayClass (newarray.typeOf atype) ∈ zALL) (hx : x = nI n) (hn : n < 1000000)
    (kk : Wp l M d nx ls (Vq (some (k, zC h k)) :: st) (znew h k n n) Q) : Wp l M d pc ls (Vi x :: st) h Q :=
  wst (fun o h' a => by
    obtain ⟨hd, rfl⟩ := hd
    refine zRn.step (znew_le h k n n) a ?_
    intro E p e R s m args below meth c H locs cells slots ad la Q cx hp hS hl ha hb hcc hdd kk
    rw [(zdelta h k n n).1] at hcc kk
    rw [(zdelta h k n n).2] at hdd kk
    obtain ⟨ns, ca, tys, hh⟩ := hp.any
    have hwf := cx.2.2.2.2.2.1
    have hn31 : n < 2 ^ 31 := by omega
    have hI0 : zI (znew h k n n) k (zC h k) = fun _ => 0 := funext (znew_I0 h k n n)
    have hL0 : zL (znew h k n n) k (zC h k) = fun _ => 0 := funext (znew_L0 h k n n)
    have go : ∀ (a0 : vp_A), (∀ cA : ClassId, vp_cell cA a0 = arrV cA n (fun _ => defaultValue (zel sh))) → n * componentBytes (zel sh) ≤ 536870912 → (∀ cA : ClassId, zcell ad (fun x => if x = (k, zC h k) then cA else ca x) (znew h k n n) (k, zC h k) = .inl (cA, a0)) → W p l e R s m args below meth c H locs cells slots Q (F0 m pc la (.int x :: st.map (zenc ad))) := by
      intro a0 ha0 hby hce
      refine va_newa cx.1 cx.2.1 (hwf _ hA) hT hh.2.2.1 hh.2.2.2.1 hh.2.2.2.2.1 hS cx.2.2.2.2.2.2.2.2.2.2.2.1 ha0 (by rw [hx]; exact nI_pos hn31) (zcl2 hx hn31) hby hcc hdd hd (fun q cA H1 hK1 hP1 hD1 hS1 => ?_)
      have hp2 := zHp.add (k := k) (n := n) (w := n) (q := q) (cA := cA) hp hh hk hK1 (fun t0 z hz => by rw [List.getElem?_append_left (List.getElem?_eq_some_iff.mp hz).1]; exact hz) (hce cA) hP1 hD1 (fun _ => ⟨tys.length, by rw [List.getElem?_append_right (Nat.le_refl _), Nat.sub_self, hs]; rfl⟩)
      have hsame : ∀ r, zal h r → (if r = (k, zC h k) then q else ad r) = ad r := fun r hr => if_neg (fun z => by
        rcases hr with y | y
        · rw [z] at y; exact Nat.lt_irrefl _ y
        · rw [z] at y; exact absurd hk (Nat.not_lt.mpr y))
      have w1 := kk (fun x => if x = (k, zC h k) then q else ad x) H1 locs la hsame hp2 hS1 (hl.same hsame hb) (zk_cons (fun v hv => ((zk_tl ha) v hv).le (znew_le h k n n)) (Or.inl (by show zC h k < zC (znew h k n n) k; rw [znew_C]; exact Nat.lt_succ_self _))) (fun v hv => (hb v hv).le (znew_le h k n n))
      rw [List.map_cons, zenc_list hsame (zk_tl ha)] at w1
      have eq1 : zenc (fun x => if x = (k, zC h k) then q else ad x) (Vq (some (k, zC h k))) = .ref q := by
        show Value.ref (if (k, zC h k) = (k, zC h k) then q else ad (k, zC h k)) = .ref q
        rw [if_pos rfl]
      rw [eq1] at w1
      exact w1
    have hN0 := znew_N0 h k n n
    rcases hs1 with rfl | rfl | rfl | rfl
    · refine go (n, .inl (fun _ => 0)) (fun cA => rfl) (by show n * 4 ≤ _; omega) (fun cA => ?_)
      rw [zcell_i (by rw [hs]; decide) (by rw [hs]; decide) (by rw [hs]; decide)]
      show Sum.inl ((if (k, zC h k) = (k, zC h k) then cA else ca (k, zC h k)), zN (znew h k n n) k (zC h k), Sum.inl (zI (znew h k n n) k (zC h k))) = _
      rw [if_pos rfl, hI0, hN0]
    · refine go (n, .inr (.inl (fun _ => 0))) (fun cA => rfl) (by show n * 8 ≤ _; omega) (fun cA => ?_)
      rw [zcell_l hs]
      show Sum.inl ((if (k, zC h k) = (k, zC h k) then cA else ca (k, zC h k)), zN (znew h k n n) k (zC h k), Sum.inr (Sum.inl (zL (znew h k n n) k (zC h k)))) = _
      rw [if_pos rfl, hL0, hN0]
    · refine go (n, .inl (fun _ => 0)) (fun cA => rfl) (by show n * 1 ≤ _; omega) (fun cA => ?_)
      rw [zcell_i (by rw [hs]; decide) (by rw [hs]; decide) (by rw [hs]; decide)]
      show Sum.inl ((if (k, zC h k) = (k, zC h k) then cA else ca (k, zC h k)), zN (znew h k n n) k (zC h k), Sum.inl (zI (znew h k n n) k (zC h k))) = _
      rw [if_pos rfl, hI0, hN0]
    · refine go (n, .inl (fun _ => 0)) (fun cA => rfl) (by show n * 1 ≤ _; omega) (fun cA => ?_)
      rw [zcell_i (by rw [hs]; decide) (by rw [hs]; decide) (by rw [hs]; decide)]
      show Sum.inl ((if (k, zC h k) = (k, zC h k) then cA else ca (k, zC h k)), zN (znew h k n n) k (zC h k), Sum.inl (zI (znew h k n n) k (zC h k))) = _
      rw [if_pos rfl, hI0, hN0]) kk
/-- anewarray: an array of references to objects of class ci -/
theorem w_anewarr {index ci : Nat} {x : Int32} {C : String} (k n : Nat) (hd : zAt M pc (.anewarray index) 3 nx) (hs : zshp k = 110 + ci) (hk : k < 900) (hT : zel (110 + ci) = .object C) (h1 : Cond.classLink (zMy M).cls index C ∈ zALL) (h2 : Cond.arrayOver (.object C) ∈ zAO) (hx : x = nI n) (hn : n < 1000000)
    (kk : Wp l M d nx ls (Vq (some (k, zC h k)) :: st) (znew h k n n) Q) : Wp l M d pc ls (Vi x :: st) h Q :=
  wst (fun o h' a => by
    obtain ⟨hd, rfl⟩ := hd
    refine zRn.step (znew_le h k n n) a ?_
    intro E p e R s m args below meth c H locs cells slots ad la Q cx hp hS hl ha hb hcc hdd kk
    rw [(zdelta h k n n).1] at hcc kk
    rw [(zdelta h k n n).2] at hdd kk
    obtain ⟨ns, ca, tys, hh⟩ := hp.any
    have hwf := cx.2.2.2.2.2.1
    have hE := cx.2.2.2.2.2.2.2.2.2.2.2.2
    have hn31 : n < 2 ^ 31 := by omega
    have hN0 := znew_N0 h k n n
    refine va_newq cx.1 cx.2.1 cx.2.2.2.2.1 (hwf _ h1) (hE.2.1 C h2) hh.2.2.1 hh.2.2.2.1 hh.2.2.2.2.1 hS cx.2.2.2.2.2.2.2.2.2.2.2.1 (by rw [hx]; exact nI_pos hn31) (zcl2 hx hn31) (by omega) hcc hdd hd (fun q cA H1 hK1 hP1 hD1 hS1 => ?_)
    have h110 : 110 ≤ zshp (k, zC h k).1 := by rw [show zshp (k, zC h k).1 = 110 + ci from hs]; exact Nat.le_add_right _ _
    have hce : zcell ad (fun x => if x = (k, zC h k) then cA else ca x) (znew h k n n) (k, zC h k) = .inl (cA, n, .inr (.inr (.inr (.inr (fun _ => none))))) := by
      rw [zcell_q h110]
      have hR0 : (fun j => (zR (znew h k n n) k (zC h k) j).map ad) = fun _ => none := funext (fun j => by rw [znew_R0]; rfl)
      show Sum.inl ((if (k, zC h k) = (k, zC h k) then cA else ca (k, zC h k)), zN (znew h k n n) k (zC h k), Sum.inr (Sum.inr (Sum.inr (Sum.inr (fun j => (zR (znew h k n n) k (zC h k) j).map ad))))) = _
      rw [if_pos rfl, hN0, hR0]
    have hp2 := zHp.add (k := k) (n := n) (w := n) (q := q) (cA := cA) hp hh hk hK1 (fun t0 z hz => by rw [List.getElem?_append_left (List.getElem?_eq_some_iff.mp hz).1]; exact hz) hce hP1 hD1 (fun _ => ⟨tys.length, by rw [List.getElem?_append_right (Nat.le_refl _), Nat.sub_self, hs, hT]; rfl⟩)
    have hsame : ∀ r, zal h r → (if r = (k, zC h k) then q else ad r) = ad r := fun r hr => if_neg (fun z => by
      rcases hr with y | y
      · rw [z] at y; exact Nat.lt_irrefl _ y
      · rw [z] at y; exact absurd hk (Nat.not_lt.mpr y))
    have w1 := kk (fun x => if x = (k, zC h k) then q else ad x) H1 locs la hsame hp2 hS1 (hl.same hsame hb) (zk_cons (fun v hv => ((zk_tl ha) v hv).le (znew_le h k n n)) (Or.inl (by show zC h k < zC (znew h k n n) k; rw [znew_C]; exact Nat.lt_succ_self _))) (fun v hv => (hb v hv).le (znew_le h k n n))
    rw [List.map_cons, zenc_list hsame (zk_tl ha)] at w1
    have eq1 : zenc (fun x => if x = (k, zC h k) then q else ad x) (Vq (some (k, zC h k))) = .ref q := by
      show Value.ref (if (k, zC h k) = (k, zC h k) then q else ad (k, zC h k)) = .ref q
      rw [if_pos rfl]
    rw [eq1] at w1
    exact w1) kk
end zROWS
end
section
-- RETURNS, CALLS, THROWS
theorem zEnv.warm {E : zEv} {s U : State} {H : Heap} (hW : s.WarmedH U.vm) (h : zEnv E s H) : zEnv E U H := by
  obtain ⟨h1, h2, h3, h4, h5, h6, h7, h7b, h8, h9, h10⟩ := h
  refine ⟨fun w hw => ?_, fun C hC => va_AO.moved hW.alike (h2 C hC), h3.moved hW.alike, fun q hq => (h4 q hq).warm hW, h5.moved hW.alike, h6.moved hW.alike, h7.moved hW.alike, h7b.moved hW.alike, h8.moved hW.alike, h9, h10⟩
  have hb := h1 w hw
  have hn : zisNest w = true := (List.mem_filter.mp hw).2
  cases w <;> first | exact absurd hn Bool.false_ne_true | exact va_Nw.warmM hW hb | exact va_Nw.warmF hW hb | exact va_Nw.warmC hW hb
theorem zEnv.kept {E : zEv} {U : State} {H0 H : Heap} {locs : List Loc} (hS : va_S (zA E) H0 H locs) (h : zEnv E U H0) : zEnv E U H := by
  obtain ⟨h1, h2, h3, h4, h5, h6, h7, h7b, h8, h9, h10⟩ := h
  have hq : ∀ a : Nat, a < H0.size → ¬ zA E a → H[a]? = H0[a]? := hS.2.1
  exact ⟨h1, h2, h3.kept hq, h4, h5.kept hq, h6.kept hq, h7.kept hq, h7b.kept hq, h8.kept (hq _ h10 h9), h9, Nat.lt_of_lt_of_le h10 hS.1⟩
theorem zHp.moved {E : zEv} {ad : zRf → Nat} {s U : State} {h : zH} {H : Heap} (hvm : s.vm.Alike U.vm) (hp : zHp E ad s h H) : zHp E ad U h H := by
  obtain ⟨g1, g2, g3, ns, ca, tys, k1, k2, k3, k4⟩ := hp
  exact ⟨g1, g2, g3, ns, ca, tys, k1, k2, va_K.moved hvm k3, k4⟩
theorem W.imp {p : Program} {l : Launch} {e : Env} {R : Room} {s : State} {m : MethodId} {args : Array Value} {below : List Frame} {meth : Method} {c : Code} {H : Heap} {locs : List Loc} {cells slots : Nat} {Q Q' : State → Prop} {g : JFrame} (k : W p l e R s m args below meth c H locs cells slots Q g) (i : ∀ t, Q t → Q' t) : W p l e R s m args below meth c H locs cells slots Q' g := by
  intro T hT X
  obtain ⟨t, a, b⟩ := k T hT X
  exact ⟨t, a, i t b⟩
/-- called with these arguments, the method ends so that Q holds -/
def Ct (l : Launch) (d : Nat) (M : zM) (as : List zV) (h : zH) (Q : zO → zH → Prop) : Prop := ∃ (o : zO) (h' : zH), zCl l d M as h o h' ∧ Q o h'
/-- the outcome of a return -/
abbrev Rv (v : zV) : zO := Sum.inl (some v)
abbrev R0 : zO := Sum.inl none
abbrev Th (r : zRf) : zO := Sum.inr r
section zROWS
variable {l : Launch} {M : zM} {d pc nx : Nat} {ls : List (Option zV)} {st : List zV} {h h' : zH} {o : zO} {Q : zO → zH → Prop}
theorem zfin_of {E : zEv} {p : Program} {e : Env} {R : Room} {s : State} {m : MethodId} {args : Array Value} {below : List Frame} {meth : Method} {c : Code} {H : Heap} {locs : List Loc} {cells slots : Nat} {ad : zRf → Nat} {ov : Option zV} {t : State} (hp : zHp E ad s h H) (hS : va_S (zA E) s.heap H locs) (hal : zalO h (Sum.inl ov))
    (b : MQ below (fun _ _ o t => o = .returned (ov.map (zenc ad)) ∧ t.heap = H) args s cells slots (zA E) t) : zFin E ad h s below cells slots (Sum.inl ov) h t := by
  obtain ⟨o', b1, b2, ⟨b3, b4⟩, L, b5, b6⟩ := b
  subst b3
  obtain ⟨-, hW, hsame⟩ := b5
  refine ⟨b1, ad, fun _ _ => rfl, b2, hal, by rw [b4]; exact hp.moved hW.alike, hS.F b4, hW, L, ?_, b6⟩
  rw [Nat.sub_self, Nat.add_zero, Nat.sub_self, Nat.add_zero]
  exact hsame
theorem w_ireturn {v : Int32} {ty : FieldType} (hd : zAt M pc .ireturn 1 nx) (hr : zMr M = some ty) (hn : narrow ty (.int v) = .int v) (hq : Q (Rv (Vi v)) h) : Wp l M d pc ls [Vi v] h Q := by
  refine ⟨Rv (Vi v), h, ⟨zLe.rf h, ?_⟩, hq⟩
  intro E p e R s m args below meth c H locs cells slots ad la cx hp hS hl ha hb hcc hdd
  exact W.imp (W.zret (Qc := fun _ _ o t => o = .returned ((some (Vi v)).map (zenc ad)) ∧ t.heap = H) (free := zA E) cx.1 cx.2.1 (cx.2.2.1.trans hr) hn (fun t ht _ => ⟨rfl, ht⟩) hS.2.2 hd.1 cx.2.2.2.2.2.2.1) (fun t b => zfin_of (R := R) (p := p) (e := e) (m := m) (meth := meth) (c := c) hp hS trivial b)
theorem w_lreturn {v : Int64} (hd : zAt M pc .lreturn 1 nx) (hr : zMr M = some .long) (hq : Q (Rv (Vj v)) h) : Wp l M d pc ls [Vj v] h Q := by
  refine ⟨Rv (Vj v), h, ⟨zLe.rf h, ?_⟩, hq⟩
  intro E p e R s m args below meth c H locs cells slots ad la cx hp hS hl ha hb hcc hdd
  exact W.imp (W.lret (Qc := fun _ _ o t => o = .returned ((some (Vj v)).map (zenc ad)) ∧ t.heap = H) (free := zA E) cx.1 cx.2.1 (cx.2.2.1.trans hr) (fun t ht _ => ⟨rfl, ht⟩) hS.2.2 hd.1 cx.2.2.2.2.2.2.1) (fun t b => zfin_of (R := R) (p := p) (e := e) (m := m) (meth := meth) (c := c) hp hS trivial b)
theorem w_return (hd : zAt M pc .return_ 1 nx) (hr : zMr M = none) (hq : Q R0 h) : Wp l M d pc ls [] h Q := by
  refine ⟨R0, h, ⟨zLe.rf h, ?_⟩, hq⟩
  intro E p e R s m args below meth c H locs cells slots ad la cx hp hS hl ha hb hcc hdd
  exact W.imp (W.vret (Qc := fun _ _ o t => o = .returned ((none : Option zV).map (zenc ad)) ∧ t.heap = H) (free := zA E) cx.1 cx.2.1 (cx.2.2.1.trans hr) (fun t ht _ => ⟨rfl, ht⟩) hS.2.2 hd.1 cx.2.2.2.2.2.2.1) (fun t b => zfin_of (R := R) (p := p) (e := e) (m := m) (meth := meth) (c := c) hp hS trivial b)
theorem w_areturn {q : Option zRf} {rt : FieldType} (hd : zAt M pc .areturn 1 nx) (hr : zMr M = some rt) (hrt : (∃ n, rt = .object n) ∨ ∃ t, rt = .array t) (hq : Q (Rv (Vq q)) h) : Wp l M d pc ls [Vq q] h Q := by
  refine ⟨Rv (Vq q), h, ⟨zLe.rf h, ?_⟩, hq⟩
  intro E p e R s m args below meth c H locs cells slots ad la cx hp hS hl ha hb hcc hdd
  exact W.imp (W.aret (Qc := fun _ _ o t => o = .returned ((some (Vq q)).map (zenc ad)) ∧ t.heap = H) (free := zA E) cx.1 cx.2.1 (cx.2.2.1.trans hr) hrt (by cases q with
    | none => exact Or.inl rfl
    | some r => exact Or.inr ⟨ad r, rfl⟩) (fun t ht _ => ⟨rfl, ht⟩) hS.2.2 hd.1 cx.2.2.2.2.2.2.1) (fun t b => zfin_of (R := R) (p := p) (e := e) (m := m) (meth := meth) (c := c) hp hS (ha _ List.mem_cons_self) b)
end zROWS
/-- the callee's words at any warmer state -/
theorem zALL_at {args a' : Array Value} {s U : State} (hW : s.WarmedH U.vm) (h : ∀ w ∈ zALL, w.before args s = true) : ∀ w ∈ zALL, w.before a' U = true := by
  intro w hw
  have hg := zALL_good w hw
  refine word_at hW ?_ (h w hw)
  cases w <;> first | exact Or.inl hg | exact Or.inr ⟨_, rfl⟩
/-- what a method's word says -/
theorem zMw_spec {M : zM} {args : Array Value} {s : State} (h : (zMw M).before args s = true) : ∃ (m : MethodId) (meth : Method) (c : Code), s.methodNamed? (zMy M) = some m ∧ s.vm.method? m = some meth ∧ meth.code = some c ∧ c.code = zMc M ∧ c.maxLocals = zMn M ∧ c.exceptionTable.toList.map (fun h => (h.startPc, h.endPc, h.handlerPc, h.catchType)) = zMh M ∧ meth.sig.returnType = zMr M ∧ meth.locks = false ∧ parseMethodDescriptor (zMy M).desc = some meth.sig := by
  unfold zMw at h
  cases hh : zMh M with
  | nil =>
    rw [hh] at h
    obtain ⟨m, hn⟩ := Cond.code_named h
    obtain ⟨meth, c, h1, h2, h3, h4, h5, h6, h7, h8⟩ := Cond.code_spec hn h
    refine ⟨m, meth, c, hn, h1, h2, h3, h4, ?_, h5, h6, h8⟩
    have h0 : c.exceptionTable.size = 0 := by simpa [Array.isEmpty] using h7
    rw [List.eq_nil_of_length_eq_zero (l := c.exceptionTable.toList) (by simpa using h0)]
    rfl
  | cons a t =>
    rw [hh] at h
    obtain ⟨m, meth, c, hn, h1, h2, h3, h4, h5, h6, h7, h8⟩ := Cond.codeWith_spec h
    exact ⟨m, meth, c, hn, h1, h2, h3, h4, h5, h6, h7, h8⟩
/-- behind the invoking instruction: the callee M2 stands ready, called with as -/
def zRdy (l : Launch) (M : zM) (d pc : Nat) (M2 : zM) (as : List zV) (h : zH) : Prop :=
  ∀ (E : zEv) (p : Program) (e : Env) (R : Room) (s : State) (m : MethodId) (args : Array Value) (below : List Frame) (meth : Method) (c : Code) (H : Heap) (locs : List Loc) (cells slots : Nat) (ad : zRf → Nat) (la : Array Slot) (rest : List Value) (T : State),
    zCx l M d E p e R s m args below meth c → zHp E ad s h H → va_S (zA E) s.heap H locs → la.size = zMn M → (∀ v ∈ as, zalV h v) → T.heap = H → Stand p l e R s m args below meth c T locs cells slots →
    ∃ (vm₁ : Vm) (mk : MethodId) (ig : Instr), Stand p l e R s m args below meth c (T.setVm vm₁) locs cells slots ∧ (T.setVm vm₁).methodNamed? (zMy M2) = some mk ∧ decode c.code pc = .ok (ig, 3) ∧
      ∀ target, Steps p.tables e below (doInvoke e ((T.setVm vm₁).setTop (F0 m pc la rest)) [] mk (as.map (zenc ad)).toArray).1 target → Steps p.tables e below (T.setTop (F0 m pc la ((as.map (zenc ad)).reverse ++ rest))) target
/-- a callee and its word, ready for calls -/
def zOK (M2 : zM) : Prop := zMw M2 ∈ zALL ∧ Cond.initialized (zMy M2).cls ∈ zALL ∧ zMn M2 ≤ 20 ∧ (zMy M2).cls ≠ "java/lang/invoke/MethodHandle" ∧ (zMy M2).cls ≠ "java/lang/invoke/VarHandle"
section zCALL
variable {l : Launch} {M M2 : zM} {d d2 pc nx : Nat} {ls : List (Option zV)} {st : List zV} {h h2 h' : zH} {o o2 : zO} {Q : zO → zH → Prop} {as : List zV}
/-- the call itself: it comes back, or throws; the invocation stands at T2 with the callee's heap -/
theorem zgo (hM : zCl l d2 M2 as h o2 h2) (hd : d2 + 1 ≤ d) (hok : zOK M2) (hr : zRdy l M d pc M2 as h)
    {E : zEv} {p : Program} {e : Env} {R : Room} {s : State} {m : MethodId} {args : Array Value} {below : List Frame} {meth : Method} {c : Code} {H : Heap} {locs : List Loc} {cells slots : Nat} {ad : zRf → Nat} {la : Array Slot} (hw : (st.map zcat).sum ≤ 8)
    (cx : zCx l M d E p e R s m args below meth c) (hp : zHp E ad s h H) (hS : va_S (zA E) s.heap H locs) (hla : la.size = zMn M) (hal : ∀ v ∈ as, zalV h v) (hcc : cells + (zc h2 - zc h) ≤ R.cells) (hdd : slots + (zs h2 - zs h) ≤ R.slots)
    {T : State} (hT : T.heap = H) (X : Stand p l e R s m args below meth c T locs cells slots) :
    ∃ (T2 : State) (ad2 : zRf → Nat) (locs2 : List Loc), Stand p l e R s m args below meth c T2 locs2 (cells + (zc h2 - zc h)) (slots + (zs h2 - zs h)) ∧ (∀ r, zal h r → ad2 r = ad r) ∧ zHp E ad2 s h2 T2.heap ∧ va_S (zA E) s.heap T2.heap locs2 ∧ zalO h2 o2 ∧
      ∀ target, (match o2 with
        | .inl v => Steps p.tables e below (T2.setTop (F0 m (pc + 3) la ((v.map (zenc ad2)).toList ++ st.map (zenc ad)))) target
        | .inr r => Steps p.tables e below ((T2.setTop (F0 m pc la (st.map (zenc ad)))).pushFrame (.throwing (ad2 r))) target) →
        Steps p.tables e below (T.setTop (F0 m pc la ((as.map (zenc ad)).reverse ++ st.map (zenc ad)))) target := by
  obtain ⟨hMle, hMf⟩ := hM
  obtain ⟨ok1, ok2, ok3, ok4, ok5⟩ := hok
  obtain ⟨vm₁, mk, ig, X₁, hn, hdg, hst⟩ := hr E p e R s m args below meth c H locs cells slots ad la (st.map (zenc ad)) T cx hp hS hla hal hT X
  have hwf := cx.2.2.2.2.2.1
  have hfr : d ≤ R.frames := cx.2.2.2.2.2.2.2.2.2.1
  have hlo : 40 * d ≤ R.locals := cx.2.2.2.2.2.2.2.2.2.2.1
  have hAn := cx.2.2.2.2.2.2.2.2.2.2.2.1
  have hEn := cx.2.2.2.2.2.2.2.2.2.2.2.2
  generalize hU : T.setVm vm₁ = U at X₁ hn hst
  have hUh : U.heap = H := by rw [← hU]; exact hT
  generalize hgd : F0 m pc la (st.map (zenc ad)) = g at hst
  have hg : g.method = m := by rw [← hgd]
  have hgpc : g.pc = pc := by rw [← hgd]
  have hgst : g.stack = st.map (zenc ad) := by rw [← hgd]
  have hgl : g.locals = la := by rw [← hgd]
  have hgm : g.monitorRoom = 0 := by rw [← hgd]
  have hsize : g.locals.size = c.maxLocals := by rw [hgl, hla]; exact cx.2.2.2.1.symm
  have hWU := X₁.warmed
  have hAt := zALL_at (a' := (as.map (zenc ad)).toArray) (U := U) hWU hwf
  obtain ⟨mk', methY, cY, hn', hmY, hcY, -, hlY, -, -, -, -⟩ := zMw_spec (hAt _ ok1)
  cases hn.symm.trans hn'
  obtain ⟨kY, hkY, -⟩ := className_of_methodNamed hn
  have hinitY : kY.init = .initialized := Cond.initialized_spec (findClass_of_methodNamed hn) hkY (hAt _ ok2)
  have hA : At U g.method c below := by rw [hg]; exact X₁.here
  have hsum : (g.stack.map fun v => v.category).sum = (st.map zcat).sum := by
    rw [hgst, List.map_map]
    exact congrArg List.sum (List.map_congr_left (fun v _ => zcat_enc ad v))
  have hdg' : decode c.code g.pc = .ok (ig, 3) := by rw [hgpc]; exact hdg
  have happ : (headSpec (zMw M2 :: zALL) (zrm d2 h h2)).appliesLoose (zMy M2) e.platform (U.calling g mk (as.map (zenc ad)).toArray) = true := by
    refine Spec.appliesLoose_calling (g := g) hA hdg' hn hkY hinitY (X₁.room_calling (g := g) (R' := (headSpec (zMw M2 :: zALL) (zrm d2 h h2)).room) hsize hmY hcY ?_ ?_ ?_ ?_) ?_
    · show d2 + 1 ≤ R.frames; omega
    · rw [hlY, hgm, hsum]; show 2 * 0 + (st.map zcat).sum + (zMn M2 + 11) + 40 * d2 ≤ R.locals; omega
    · show cells + (zc h2 - zc h) ≤ R.cells; exact hcc
    · show slots + (zs h2 - zs h) ≤ R.slots; exact hdd
    · exact atoms_intro (ws := zMw M2 :: zALL) (fun w hw => (List.mem_cons.mp hw).elim (fun e => e ▸ hAt _ ok1) (hAt w))
  obtain ⟨mid, hmid⟩ := hA.above
  have hfr2 : (U.setTop g).frames = (.java g :: mid) ++ below := by rw [State.frames_setTop' g hA.top, hmid]; rfl
  have hPc : zPc E ad as h (as.map (zenc ad)).toArray (U.calling g mk (as.map (zenc ad)).toArray) := by
    have hh : (U.calling g mk (as.map (zenc ad)).toArray).heap = H := hUh
    have hWc : s.WarmedH (U.calling g mk (as.map (zenc ad)).toArray).vm := hWU
    refine ⟨rfl, by rw [hh]; exact (hEn.kept hS).warm hWc, by rw [hh]; exact hp.moved hWc.alike, fun q hq => hAn q (Nat.le_trans hS.1 (by rw [hh] at hq; exact hq)), hal⟩
  obtain ⟨oc, s₂, hsteps, hrun, hend, hq⟩ := Steps.callFree (hMf E ad) p X₁.admits X₁.cas X₁.clock (acts := []) hfr2 happ hPc trivial
  have hq' : (zQc E ad h o2 h2 (as.map (zenc ad)).toArray (U.calling g mk (as.map (zenc ad)).toArray) oc s₂ ∧ (U.calling g mk (as.map (zenc ad)).toArray).WarmedH s₂.vm ∧ ∃ L : List Loc, (U.calling g mk (as.map (zenc ad)).toArray).sameButNew ({ s₂ with vm := (U.calling g mk (as.map (zenc ad)).toArray).vm } : State) L (zc h2 - zc h) (zs h2 - zs h) ∧ ∀ q ∈ L, zA E q.base) := hq
  obtain ⟨⟨ad2, had2, hoc, halo, hp2, hF2⟩, hW₂, L, ⟨e2, q2, q3, q4, q5, q6⟩, hL⟩ := hq'
  rw [State.frames_setTop' g hA.top] at hend
  have e3 : s₂ = ({ (U.calling g mk (as.map (zenc ad)).toArray).setFrames s₂.frames with heap := s₂.heap, slotsUsed := s₂.slotsUsed } : State).setVm s₂.vm := by
    have : s₂ = ({ s₂ with vm := (U.calling g mk (as.map (zenc ad)).toArray).vm } : State).setVm s₂.vm := rfl
    rw [e2] at this
    exact this
  have hW' : U.WarmedH s₂.vm := hW₂
  obtain ⟨g₀, hg0⟩ := Option.isSome_iff_exists.mp hA.top
  obtain ⟨r, hr⟩ := State.topJava?_eq_some.mp hg0
  have hsame : U.sameButNew ({ U with heap := s₂.heap, slotsUsed := s₂.slotsUsed } : State) L (zc h2 - zc h) (zs h2 - zs h) := by
    refine ⟨?_, q2, q3, q4, q5, q6⟩
    obtain ⟨t, ht, -⟩ := State.frames_cons hr
    show ({ U with heap := s₂.heap, slotsUsed := s₂.slotsUsed } : State) = { U.setFrames U.frames with heap := s₂.heap, slotsUsed := s₂.slotsUsed }
    rw [State.setFrames_self ht]
  have hr' : (({ U with heap := s₂.heap, slotsUsed := s₂.slotsUsed } : State).setVm s₂.vm).frames = .java g₀ :: r := hr
  have X2 : Stand p l e R s m args below meth c (({ U with heap := s₂.heap, slotsUsed := s₂.slotsUsed } : State).setVm s₂.vm) (locs ++ L) (cells + (zc h2 - zc h)) (slots + (zs h2 - zs h)) :=
    ⟨X₁.admits, X₁.cas, X₁.clock, X₁.frames, X₁.room, X₁.hears, X₁.method, X₁.code, (X₁.here.setHeapUsed s₂.heap s₂.slotsUsed).setVm hW'.alike, X₁.tail, State.WarmedH.trans X₁.warmed hW', X₁.limits, X₁.bytes, X₁.same.trans (hsame.setVm s.vm)⟩
  have hva : va_S (zA E) s.heap s₂.heap (locs ++ L) := by
    have hz : H.size ≤ s₂.heap.size := by have := hF2.1; rw [show (U.calling g mk (as.map (zenc ad)).toArray).heap = H from hUh] at this; exact this
    refine ⟨Nat.le_trans hS.1 hz, fun q h1 h2' => ?_, fun q hq => ?_⟩
    · have hk := hF2.2 q (by rw [show (U.calling g mk (as.map (zenc ad)).toArray).heap = H from hUh]; exact Nat.lt_of_lt_of_le h1 hS.1) h2'
      rw [show (U.calling g mk (as.map (zenc ad)).toArray).heap = H from hUh] at hk
      rw [hk]; exact hS.2.1 q h1 h2'
    · rcases List.mem_append.mp hq with y | y
      · exact hS.2.2 q y
      · exact hL q y
  refine ⟨_, ad2, locs ++ L, X2, had2, hp2.moved (State.WarmedH.trans X₁.warmed hW').alike.symm, hva, halo, ?_⟩
  intro target htg
  refine hst target (hsteps.trans ?_)
  cases o2 with
  | inl v =>
    dsimp only at htg
    rw [hoc] at hend
    obtain ⟨c₂, i₂, len₂, hc₂, hd₂, hf₂⟩ := hend
    have hcc2 : c₂ = c := by
      have h1 : s₂.code? g.method = U.code? g.method := by
        rw [State.code?_eq, State.code?_eq, hW'.alike.method?]
      exact Option.some.inj (hc₂.symm.trans (h1.trans hA.code))
    subst hcc2
    have hlen : len₂ = 3 := by rw [hdg'] at hd₂; cases hd₂; rfl
    subst hlen
    have hs₂ : s₂ = (({ U with heap := s₂.heap, slotsUsed := s₂.slotsUsed } : State).setVm s₂.vm).setTop { g with pc := g.pc + 3, stack := (v.map (zenc ad2)).toList ++ g.stack } := by
      refine e3.trans ?_
      rw [hf₂, State.calling_eq hA.top, State.setFrames_setFrames, State.setTop_of_frames _ hr', hr]
      rfl
    rw [hs₂, ← hgd]
    exact htg
  | inr r2 =>
    dsimp only at htg
    rw [hoc] at hend
    have hf₂ : s₂.frames = .throwing (ad2 r2) :: .java g :: U.frames.tail := hend
    have hs₂ : s₂ = ((({ U with heap := s₂.heap, slotsUsed := s₂.slotsUsed } : State).setVm s₂.vm).setTop g).pushFrame (.throwing (ad2 r2)) := by
      refine e3.trans ?_
      rw [hf₂, State.calling_eq hA.top, State.setFrames_setFrames, State.pushFrame, State.frames_setTop _ hr', State.setTop_of_frames _ hr', State.setFrames_setFrames, hr]
      rfl
    rw [hs₂]
    exact htg
end zCALL
end
section
-- THE FIVE KINDS OF CALL; A METHOD'S ENTRY
def zpar (M : zM) (n : Nat) : Prop := (parseMethodDescriptor (zMy M).desc).map (fun s => s.parameters.length) = some n
theorem zpar_len {M : zM} {n : Nat} (h : zpar M n) {sig : MethodDescriptor} (hs : parseMethodDescriptor (zMy M).desc = some sig) : n = sig.parameters.length := by
  unfold zpar at h
  rw [hs] at h
  exact (Option.some.inj h).symm
/-- a reference's class as the machine sees it -/
def zRc (r : zRf) (C : String) : Prop := (r.1 < 900 ∧ zshp r.1 < 100 ∧ (zcl[zshp r.1]?.map (fun q => q.1)) = some C) ∨ (1000 ≤ r.1 ∧ r.1 < 1009 ∧ r.2 = 0 ∧ C = "java/lang/String")
section zCALL
variable {l : Launch} {M M2 : zM} {d d2 pc nx : Nat} {ls : List (Option zV)} {st : List zV} {h h2 h' : zH} {o o2 : zO} {Q Q' : zO → zH → Prop} {as : List zV}
theorem zrecv {E : zEv} {s : State} {ad : zRf → Nat} {H : Heap} {locs : List Loc} {r : zRf} {C : String} (hc : zRc r C) (hE : zEnv E s s.heap) (hp : zHp E ad s h H) (hS : va_S (zA E) s.heap H locs) (ha : zal h r) : ∃ cell : Cell, H[ad r]? = some cell ∧ cell.vm.isStatics = false ∧ s.vm.findClass C = some cell.cls := by
  rcases hc with ⟨c1, c2, c3⟩ | ⟨c1, c2, c3, rfl⟩
  · obtain ⟨-, ns, ca, tys, q0, hh, hq⟩ := hp.at (ha.lt c1)
    have he := zws_get (ad := ad) (ca := ca) (h := h) hq
    rw [zcell_o rfl c2] at he
    cases hz : zcl[zshp r.1]? with
    | none => rw [hz] at c3; cases c3
    | some q =>
      rw [hz] at c3
      have := va_recv hh.2.2.1 hh.2.2.2.1 hz he
      rw [Option.map_some, Option.some.injEq] at c3
      rw [c3] at this
      exact this
  · obtain ⟨j, hj⟩ : ∃ j, r.1 = 1000 + j := ⟨r.1 - 1000, by omega⟩
    have hr : ad r = zX E (1000 + j, 0) := by
      rw [hp.1 r (by omega)]
      exact congrArg (zX E) (Prod.ext hj c3)
    rw [hr]
    exact vk_recv (i := j) hE.2.2.1 (by omega) hS
theorem rdy_V {index : Nat} {r : zRf} {as' : List zV} {C : String} (hd : zAt M pc (.invokevirtual index) 3 nx) (hok : zOK M2) (hp : zpar M2 as'.length) (h1 : Cond.methodLink (zMy M).cls index (zMy M2) ∈ zALL) (h2 : Cond.instanceMethod (zMy M2) ∈ zALL) (h3 : Cond.selects C (zMy M2) (zMy M2) ∈ zALL) (hc : zRc r C) : zRdy l M d pc M2 (Vq (some r) :: as') h := by
  intro E p e R s m args below meth c H locs cells slots ad la rest T cx hp0 hS hla hal hT X
  have hwf := cx.2.2.2.2.2.1
  have hEn := cx.2.2.2.2.2.2.2.2.2.2.2.2
  obtain ⟨mk, methM, hnamed, hmethM, hstM, habM⟩ := Cond.instanceMethod_spec (hwf _ h2)
  obtain ⟨mk', methM', cM, hn', hmethM', -, -, -, -, -, -, hsigM⟩ := zMw_spec (hwf _ hok.1)
  cases hnamed.symm.trans hn'
  cases hmethM.symm.trans hmethM'
  obtain ⟨c2, r2, m2, q1, q2, q3, q4, kP, hkP, hkPi⟩ := Cond.selects_spec (hwf _ h3)
  obtain ⟨cellB, hcB, hoB, hclB⟩ := zrecv hc hEn hp0 hS (hal _ List.mem_cons_self)
  cases hclB.symm.trans q1
  cases (State.methodFound?_of_named hnamed ⟨hok.2.2.2.1, hok.2.2.2.2⟩).symm.trans q2
  cases hnamed.symm.trans q3
  have hselP : selectMethod e.platform s.vm cellB.cls mk = .method mk := by rw [Launch.admits_selectMethod X.admits]; exact q4
  obtain ⟨vm₁, X₁, hstep₁⟩ := X.invokevirtual cx.1 cx.2.2.2.2.1 (hwf _ h1) hnamed hmethM hstM hkP hkPi ⟨hok.2.2.2.1, hok.2.2.2.2⟩ (a := ad r) (cell := cellB) (by rw [hT]; exact hcB)
    (fun z hz => by rw [hz] at hoB; cases hoB) hselP hmethM habM hkP hkPi (g := F0 m pc la (((Vq (some r) :: as').map (zenc ad)).reverse ++ rest)) rfl (argsL := as'.map (zenc ad)) (rest := rest) (by rw [List.length_map]; exact zpar_len hp hsigM) (by simp [zenc, va_rf]) (by rw [cx.2.1]; exact hd.1)
  refine ⟨vm₁, mk, _, X₁, X₁.named hnamed, by rw [cx.2.1]; exact hd.1, fun target ht => hstep₁ _ fun acts => ?_⟩
  rw [doInvoke_state]
  exact ht
theorem rdy_VN {index : Nat} {r : zRf} {as' : List zV} {C host : String} (hd : zAt M pc (.invokevirtual index) 3 nx) (hok : zOK M2) (hp : zpar M2 as'.length) (h1 : Cond.methodLinkNest (zMy M).cls index (zMy M2) host ∈ zNest) (h2 : Cond.instanceMethod (zMy M2) ∈ zALL) (h3 : Cond.selects C (zMy M2) (zMy M2) ∈ zALL) (hc : zRc r C) : zRdy l M d pc M2 (Vq (some r) :: as') h := by
  intro E p e R s m args below meth c H locs cells slots ad la rest T cx hp0 hS hla hal hT X
  have hwf := cx.2.2.2.2.2.1
  have hEn := cx.2.2.2.2.2.2.2.2.2.2.2.2
  obtain ⟨mk, methM, hnamed, hmethM, hstM, habM⟩ := Cond.instanceMethod_spec (hwf _ h2)
  obtain ⟨mk', methM', cM, hn', hmethM', -, -, -, -, -, -, hsigM⟩ := zMw_spec (hwf _ hok.1)
  cases hnamed.symm.trans hn'
  cases hmethM.symm.trans hmethM'
  obtain ⟨c2, r2, m2, q1, q2, q3, q4, kP, hkP, hkPi⟩ := Cond.selects_spec (hwf _ h3)
  obtain ⟨cellB, hcB, hoB, hclB⟩ := zrecv hc hEn hp0 hS (hal _ List.mem_cons_self)
  cases hclB.symm.trans q1
  cases (State.methodFound?_of_named hnamed ⟨hok.2.2.2.1, hok.2.2.2.2⟩).symm.trans q2
  cases hnamed.symm.trans q3
  have hselP : selectMethod e.platform s.vm cellB.cls mk = .method mk := by rw [Launch.admits_selectMethod X.admits]; exact q4
  obtain ⟨vm₁, X₁, hstep₁⟩ := X.invokevirtualNest cx.1 cx.2.2.2.2.1 (va_Nw.use rfl (hEn.1 _ h1)) hnamed hmethM hstM hkP hkPi ⟨hok.2.2.2.1, hok.2.2.2.2⟩ (a := ad r) (cell := cellB) (by rw [hT]; exact hcB)
    (fun z hz => by rw [hz] at hoB; cases hoB) hselP hmethM habM hkP hkPi (g := F0 m pc la (((Vq (some r) :: as').map (zenc ad)).reverse ++ rest)) rfl (argsL := as'.map (zenc ad)) (rest := rest) (by rw [List.length_map]; exact zpar_len hp hsigM) (by simp [zenc, va_rf]) (by rw [cx.2.1]; exact hd.1)
  refine ⟨vm₁, mk, _, X₁, X₁.named hnamed, by rw [cx.2.1]; exact hd.1, fun target ht => hstep₁ _ fun acts => ?_⟩
  rw [doInvoke_state]
  exact ht
theorem rdy_S {index : Nat} (hd : zAt M pc (.invokestatic index) 3 nx) (hok : zOK M2) (hp : zpar M2 as.length) (h1 : Cond.methodLink (zMy M).cls index (zMy M2) ∈ zALL) (h2 : Cond.static (zMy M2) ∈ zALL) : zRdy l M d pc M2 as h := by
  intro E p e R s m args below meth c H locs cells slots ad la rest T cx hp0 hS hla hal hT X
  have hwf := cx.2.2.2.2.2.1
  obtain ⟨mk, methM, cM, hnamed, hmethM, -, -, -, -, -, -, hsigM⟩ := zMw_spec (hwf _ hok.1)
  have hstatic : methM.isStatic = true := Cond.static_spec hnamed hmethM (hwf _ h2)
  obtain ⟨kP, hkP, -⟩ := className_of_methodNamed hnamed
  have hinitP : kP.init = .initialized := Cond.initialized_spec (findClass_of_methodNamed hnamed) hkP (hwf _ hok.2.1)
  obtain ⟨vm₁, X₁, hstep₁⟩ := X.invokestatic cx.1 cx.2.2.2.2.1 (hwf _ h1) hnamed hmethM hstatic hkP hinitP ⟨hok.2.2.2.1, hok.2.2.2.2⟩ (g := F0 m pc la ((as.map (zenc ad)).reverse ++ rest)) rfl (argsL := as.map (zenc ad)) (rest := rest) (by rw [List.length_map]; exact zpar_len hp hsigM) rfl (by rw [cx.2.1]; exact hd.1)
  refine ⟨vm₁, mk, _, X₁, X₁.named hnamed, by rw [cx.2.1]; exact hd.1, fun target ht => hstep₁ _ fun acts => ?_⟩
  rw [doInvoke_state]
  exact ht
theorem rdy_SN {index : Nat} {host : String} (hd : zAt M pc (.invokestatic index) 3 nx) (hok : zOK M2) (hp : zpar M2 as.length) (h1 : Cond.methodLinkNest (zMy M).cls index (zMy M2) host ∈ zNest) (h2 : Cond.static (zMy M2) ∈ zALL) : zRdy l M d pc M2 as h := by
  intro E p e R s m args below meth c H locs cells slots ad la rest T cx hp0 hS hla hal hT X
  have hwf := cx.2.2.2.2.2.1
  have hEn := cx.2.2.2.2.2.2.2.2.2.2.2.2
  obtain ⟨mk, methM, cM, hnamed, hmethM, -, -, -, -, -, -, hsigM⟩ := zMw_spec (hwf _ hok.1)
  have hstatic : methM.isStatic = true := Cond.static_spec hnamed hmethM (hwf _ h2)
  obtain ⟨kP, hkP, -⟩ := className_of_methodNamed hnamed
  have hinitP : kP.init = .initialized := Cond.initialized_spec (findClass_of_methodNamed hnamed) hkP (hwf _ hok.2.1)
  obtain ⟨vm₁, X₁, hstep₁⟩ := X.invokestaticNest cx.1 cx.2.2.2.2.1 (va_Nw.use rfl (hEn.1 _ h1)) hnamed hmethM hstatic hkP hinitP ⟨hok.2.2.2.1, hok.2.2.2.2⟩ (g := F0 m pc la ((as.map (zenc ad)).reverse ++ rest)) rfl (argsL := as.map (zenc ad)) (rest := rest) (by rw [List.length_map]; exact zpar_len hp hsigM) rfl (by rw [cx.2.1]; exact hd.1)
  refine ⟨vm₁, mk, _, X₁, X₁.named hnamed, by rw [cx.2.1]; exact hd.1, fun target ht => hstep₁ _ fun acts => ?_⟩
  rw [doInvoke_state]
  exact ht
theorem rdy_I {index : Nat} {r : zRf} {as' : List zV} (hd : zAt M pc (.invokespecial index) 3 nx) (hok : zOK M2) (hp : zpar M2 as'.length) (hh : zMh M2 = []) (hr : zMr M2 = none) (hnm : (zMy M2).name = "<init>") (h1 : Cond.methodLink (zMy M).cls index (zMy M2) ∈ zALL) (h2 : Cond.instanceMethod (zMy M2) ∈ zALL) : zRdy l M d pc M2 (Vq (some r) :: as') h := by
  intro E p e R s m args below meth c H locs cells slots ad la rest T cx hp0 hS hla hal hT X
  have hwf := cx.2.2.2.2.2.1
  have hpl : e.platform.magicAccessors = ({} : Platform).magicAccessors := by rw [X.admits.platform]
  have hcode : (Cond.code (zMy M2) (zMc M2) (zMn M2) none).before args s = true := by
    have := hwf _ hok.1
    unfold zMw at this
    rw [hh, hr] at this
    exact this
  obtain ⟨mk, methM, cM, kP, vm₁, hnamed, hmethM, hcodeM, -, hlocalsM, -, hkP, -, hW₁, hstep₁⟩ := Steps.initColdArgs (e := e) X.here cx.1 X.warmed hpl cx.2.2.2.2.1 hnm ⟨hok.2.2.2.1, hok.2.2.2.2⟩ (hwf _ h1) (hwf _ h2) hcode (f := F0 m pc la (((Vq (some r) :: as').map (zenc ad)).reverse ++ rest)) rfl (a := ad r) (argsL := as'.map (zenc ad)) (rest := rest) (fun sig hs => by rw [List.length_map]; exact zpar_len hp hs) (by simp [zenc, va_rf]) (by rw [cx.2.1]; exact hd.1)
  have X₁ := X.noted hW₁
  refine ⟨vm₁, mk, _, X₁, X₁.named hnamed, by rw [cx.2.1]; exact hd.1, fun target ht => hstep₁ _ fun acts => ?_⟩
  rw [doInvoke_state]
  exact ht
theorem rdy_IN {index : Nat} {r : zRf} {as' : List zV} {host : String} (hd : zAt M pc (.invokespecial index) 3 nx) (hok : zOK M2) (hp : zpar M2 as'.length) (hh : zMh M2 = []) (hr : zMr M2 = none) (hnm : (zMy M2).name = "<init>") (h1 : Cond.methodLinkNest (zMy M).cls index (zMy M2) host ∈ zNest) (h2 : Cond.instanceMethod (zMy M2) ∈ zALL) : zRdy l M d pc M2 (Vq (some r) :: as') h := by
  intro E p e R s m args below meth c H locs cells slots ad la rest T cx hp0 hS hla hal hT X
  have hwf := cx.2.2.2.2.2.1
  have hEn := cx.2.2.2.2.2.2.2.2.2.2.2.2
  have hpl : e.platform.magicAccessors = ({} : Platform).magicAccessors := by rw [X.admits.platform]
  have hcode : (Cond.code (zMy M2) (zMc M2) (zMn M2) none).before args s = true := by
    have := hwf _ hok.1
    unfold zMw at this
    rw [hh, hr] at this
    exact this
  obtain ⟨mk, methM, cM, kP, vm₁, hnamed, hmethM, hcodeM, -, hlocalsM, -, hkP, -, hW₁, hstep₁⟩ := Steps.initColdArgsNest (e := e) X.here cx.1 X.warmed hpl cx.2.2.2.2.1 hnm ⟨hok.2.2.2.1, hok.2.2.2.2⟩ (va_Nw.use rfl (hEn.1 _ h1)) (hwf _ h2) hcode (f := F0 m pc la (((Vq (some r) :: as').map (zenc ad)).reverse ++ rest)) rfl (a := ad r) (argsL := as'.map (zenc ad)) (rest := rest) (fun sig hs => by rw [List.length_map]; exact zpar_len hp hs) (by simp [zenc, va_rf]) (by rw [cx.2.1]; exact hd.1)
  have X₁ := X.noted hW₁
  refine ⟨vm₁, mk, _, X₁, X₁.named hnamed, by rw [cx.2.1]; exact hd.1, fun target ht => hstep₁ _ fun acts => ?_⟩
  rw [doInvoke_state]
  exact ht
theorem zk_app {h : zH} {as st : List zV} (a : ∀ v ∈ as.reverse ++ st, zalV h v) : (∀ v ∈ as, zalV h v) ∧ ∀ v ∈ st, zalV h v :=
  ⟨fun v hv => a v (List.mem_append_left _ (List.mem_reverse.mpr hv)), fun v hv => a v (List.mem_append_right _ hv)⟩
theorem zmapr {ad : zRf → Nat} (as st : List zV) : (as.reverse ++ st).map (zenc ad) = (as.map (zenc ad)).reverse ++ st.map (zenc ad) := by
  rw [List.map_append, List.map_reverse]
/-- the call comes back -/
theorem R_call {v : Option zV} (hM : zCl l d2 M2 as h (Sum.inl v) h2) (hd : d2 + 1 ≤ d) (hok : zOK M2) (hr : zRdy l M d pc M2 as h) (hw : (st.map zcat).sum ≤ 8) (k : zRn l M d (pc + 3) ls (v.toList ++ st) h2 o h') : zRn l M d pc ls (as.reverse ++ st) h o h' := by
  refine zRn.step hM.1 k ?_
  intro E p e R s m args below meth c H locs cells slots ad la Q cx hp hS hl ha hb hcc hdd kk
  obtain ⟨hal, hst⟩ := zk_app ha
  rw [zmapr]
  intro T hT X
  obtain ⟨T2, ad2, locs2, X2, had, hp2, hS2, halo, hgo⟩ := zgo hM hd hok hr hw cx hp hS hl.1 hal hcc hdd hT X
  have hv : ∀ w ∈ v.toList, zalV h2 w := fun w hw => by
    cases v with
    | none => cases hw
    | some x => rw [List.mem_singleton.mp hw]; exact halo
  have w1 := kk ad2 T2.heap locs2 la had hp2 hS2 (hl.same had hb) (fun w hw => (List.mem_append.mp hw).elim (hv w) (fun z => (hst w z).le hM.1)) (fun w hw => (hb w hw).le hM.1)
  obtain ⟨t, a, b⟩ := w1 T2 rfl X2
  refine ⟨t, hgo t ?_, b⟩
  have e1 : (v.toList ++ st).map (zenc ad2) = (v.map (zenc ad2)).toList ++ st.map (zenc ad) := by
    rw [List.map_append, zenc_list had hst]
    cases v <;> rfl
  rw [e1] at a
  exact a
/-- the call throws, and nothing here catches it -/
theorem R_callT {r : zRf} (hM : zCl l d2 M2 as h (Sum.inr r) h2) (hd : d2 + 1 ≤ d) (hok : zOK M2) (hr : zRdy l M d pc M2 as h) (hw : (st.map zcat).sum ≤ 8) (hout : ∀ x ∈ zMh M, ¬ (x.1 ≤ pc ∧ pc < x.2.1)) : zRn l M d pc ls (as.reverse ++ st) h (Sum.inr r) h2 := by
  refine ⟨hM.1, ?_⟩
  intro E p e R s m args below meth c H locs cells slots ad la cx hp hS hl ha hb hcc hdd
  obtain ⟨hal, hst⟩ := zk_app ha
  rw [zmapr]
  intro T hT X
  obtain ⟨T2, ad2, locs2, X2, had, hp2, hS2, halo, hgo⟩ := zgo hM hd hok hr hw cx hp hS hl.1 hal hcc hdd hT X
  have hex := cx.2.2.2.2.2.2.2.2.1
  obtain ⟨f1, f2, f3, f4, f5⟩ := X2.leaveThrown (ad2 r) (g := F0 m pc la (st.map (zenc ad))) rfl rfl rfl (fun x hx => by
    have hx2 : (x.startPc, x.endPc, x.handlerPc, x.catchType) ∈ zMh M := by rw [← hex]; exact List.mem_map.mpr ⟨x, hx, rfl⟩
    have := hout _ hx2
    simp only [covers]
    simp only [Bool.and_eq_false_iff, decide_eq_false_iff_not]
    by_cases y : x.startPc ≤ pc
    · exact Or.inr (fun z => this ⟨y, z⟩)
    · exact Or.inl y) cx.2.2.2.2.2.2.1
  refine ⟨_, hgo _ f1, f2, ad2, had, f3, halo, hp2.moved f4.alike, ⟨hS2.1, hS2.2.1⟩, f4, locs2, f5, hS2.2.2⟩
theorem Ct.mono (k : Ct l d M as h Q) (i : ∀ o h', Q o h' → Q' o h') : Ct l d M as h Q' := by
  obtain ⟨o, h', a, b⟩ := k
  exact ⟨o, h', a, i o h' b⟩
/-- A CALL: the callee's contract, and what follows each of its ends -/
theorem w_call {Qc : zO → zH → Prop} (hM : Ct l d2 M2 as h Qc) (hd : d2 + 1 ≤ d) (hok : zOK M2) (hr : zRdy l M d pc M2 as h) (hw : (st.map zcat).sum ≤ 8) (hn : nx = pc + 3) (hout : ∀ x ∈ zMh M, ¬ (x.1 ≤ pc ∧ pc < x.2.1))
    (kr : ∀ (v : Option zV) (h2 : zH), Qc (Sum.inl v) h2 → Wp l M d nx ls (v.toList ++ st) h2 Q) (kt : ∀ (r : zRf) (h2 : zH), Qc (Sum.inr r) h2 → Q (Sum.inr r) h2) : Wp l M d pc ls (as.reverse ++ st) h Q := by
  obtain ⟨o2, h2, hc, hq⟩ := hM
  cases o2 with
  | inl v =>
    obtain ⟨o, h', a, b⟩ := kr v h2 hq
    subst hn
    exact ⟨o, h', R_call hc hd hok hr hw a, b⟩
  | inr r => exact ⟨_, _, R_callT hc hd hok hr hw hout, kt r h2 hq⟩
/-- the locals at a method's entry -/
def zent : List zV → List (Option zV)
  | [] => []
  | v :: t => if zcat v = 2 then some v :: none :: zent t else some v :: zent t
theorem zent_mem {as : List zV} {v : zV} (h : some v ∈ zent as) : v ∈ as := by
  induction as with
  | nil => cases h
  | cons a t ih =>
    unfold zent at h
    split at h
    · rcases List.mem_cons.mp h with e | e
      · cases e; exact List.mem_cons_self
      · rcases List.mem_cons.mp e with e | e
        · cases e
        · exact List.mem_cons_of_mem _ (ih e)
    · rcases List.mem_cons.mp h with e | e
      · cases e; exact List.mem_cons_self
      · exact List.mem_cons_of_mem _ (ih e)
theorem zent_args {ad : zRf → Nat} : ∀ (as : List zV) (n i : Nat) (v : zV), (zent as)[i]? = some (some v) → (n + i, zenc ad v) ∈ lv_args n (as.map (zenc ad)) := by
  intro as
  induction as with
  | nil => intro n i v h; simp [zent] at h
  | cons a t ih =>
    intro n i v h
    unfold zent at h
    simp only [List.map_cons, lv_args]
    have hc := zcat_enc ad a
    split at h
    · rename_i h2
      rw [h2] at hc
      cases i with
      | zero => simp at h; subst h; exact List.mem_cons_self
      | succ i =>
        cases i with
        | zero => simp at h
        | succ i =>
          have := ih (n + 2) i v (by simpa using h)
          rw [show n + 2 + i = n + (i + 1 + 1) by omega] at this
          rw [hc]
          exact List.mem_cons_of_mem _ this
    · rename_i h2
      have hc1 : (zenc ad a).category = 1 := by
        rw [hc]
        rcases a with x | x | x
        · rfl
        · exact absurd rfl h2
        · rfl
      cases i with
      | zero => simp at h; subst h; exact List.mem_cons_self
      | succ i =>
        have := ih (n + 1) i v (by simpa using h)
        rw [show n + 1 + i = n + (i + 1) by omega] at this
        rw [hc1]
        exact List.mem_cons_of_mem _ this
theorem zent_len {ad : zRf → Nat} (as : List zV) : (lg_sl (as.map (zenc ad))).length = (zent as).length := by
  induction as with
  | nil => rfl
  | cons a t ih =>
    unfold zent
    have hc := zcat_enc ad a
    simp only [lg_sl, List.map_cons, List.flatMap_cons, List.length_append]
    rw [show ((t.map (zenc ad)).flatMap fun v => if v.category = 2 then [Slot.val v, .second] else [.val v]).length = (zent t).length from ih, hc]
    split <;> simp <;> omega
/-- A METHOD'S CONTRACT out of its body -/
theorem Ct.of (hok : zOK M) (hpl : plainName (zMy M).cls = true) (hn : (zent as).length ≤ zMn M) (k : Wp l M d 0 (zent as) [] h Q) : Ct l d M as h Q := by
  obtain ⟨o, h', ⟨hle, hk⟩, hq⟩ := k
  refine ⟨o, h', ⟨hle, fun E ad => ?_⟩, hq⟩
  refine MetFree.of_bodyS (code := zMc M) (maxLocals := zMn M) (ret := zMr M) hpl ?_ ?_
  · intro args s m hpre hnm
    obtain ⟨m', meth, c, h1, h2, h3, h4, h5, h6, h7, h8, -⟩ := zMw_spec (atoms_spec (ws := zMw M :: zALL) hpre _ List.mem_cons_self)
    cases hnm.symm.trans h1
    exact ⟨meth, c, h2, h3, h4, h5, h7, h8⟩
  · intro p e s m args below meth c s₁ B hml hP _
    obtain ⟨rfl, hE, hp, hA, hal⟩ := hP
    have hts := atoms_spec (ws := zMw M :: zALL) B.pre
    obtain ⟨m', meth', c', h1, h2, h3, h4, h5, h6, h7, h8, -⟩ := zMw_spec (hts _ List.mem_cons_self)
    cases B.named.symm.trans h1
    cases B.method.symm.trans h2
    have hX := Stand.of_body B
    cases hX.code.symm.trans h3
    have cx : zCx l M d E p e (headSpec (zMw M :: zALL) (zrm d h h')).room s m ((as.map (zenc ad)).toArray) below meth c :=
      ⟨B.exec, B.bytes, B.returns, hml, findClass_of_methodNamed B.named, fun w hw => hts w (List.mem_cons_of_mem _ hw), B.notSynchronized, (name_of_methodNamed B.named B.method).1, h6, Nat.le_refl _, Nat.le_refl _, hA, hE⟩
    have hlen : (lg_sl (as.map (zenc ad))).length ≤ zMn M := by rw [zent_len]; exact hn
    have hl := lv_entry (as.map (zenc ad)) (n := zMn M) hlen
    have hh0 : s₁.heap = s.heap := by rw [B.state]; rfl
    have hz : zLo ad (zMn M) (zent as) ((lg_sl (as.map (zenc ad)) ++ List.replicate (zMn M - (lg_sl (as.map (zenc ad))).length) Slot.unset).toArray) :=
      ⟨hl.1, hl.2.1, fun i v hi => hl.2.2 (i, zenc ad v) (by have := zent_args (ad := ad) as 0 i v hi; rw [Nat.zero_add] at this; exact this)⟩
    have w := hk E p e _ s m _ below meth c s.heap [] 0 0 ad _ cx hp va_S.rf hz (fun v hv => by cases hv) (fun v hv => hal v (zent_mem hv)) (by show 0 + (zc h' - zc h) ≤ zc h' - zc h; omega) (by show 0 + (zs h' - zs h) ≤ zs h' - zs h; omega)
    obtain ⟨t, a1, b1, ad', b2, b3, b4, b5, b6, b7, L, b8, b9⟩ := w s₁ hh0 hX
    refine ⟨t, _, ?_, b1, b3, ⟨ad', b2, rfl, b4, b5, b6⟩, b7, L, by rw [Nat.zero_add, Nat.zero_add] at b8; exact b8, b9⟩
    rw [lg_entry_eq]
    exact a1
end zCALL
end
section
-- STATICS, TEXTS, THE SCRIPT, Object.<init>, athrow, arraycopy
section zROWS
variable {l : Launch} {M : zM} {d pc nx : Nat} {ls : List (Option zV)} {st : List zV} {h h' : zH} {o : zO} {Q : zO → zH → Prop}
/-- a row that pushes something the heap tells -/
theorem R_push {st2 : List zV} {pc2 : Nat} {v : zV} (hst : st2 = v :: st) (hv : zalV h v) (k : zRn l M d pc2 ls st2 h o h')
    (row : ∀ (E : zEv) (p : Program) (e : Env) (R : Room) (s : State) (m : MethodId) (args : Array Value) (below : List Frame) (meth : Method) (c : Code) (H : Heap) (locs : List Loc) (cells slots : Nat) (ad : zRf → Nat) (la : Array Slot) (Q : State → Prop) (rest : List Value),
      zCx l M d E p e R s m args below meth c → zHp E ad s h H → va_S (zA E) s.heap H locs → W p l e R s m args below meth c H locs cells slots Q (F0 m pc2 la (zenc ad v :: rest)) → W p l e R s m args below meth c H locs cells slots Q (F0 m pc la rest)) : zRn l M d pc ls st h o h' := by
  subst hst
  exact zRn.pure k (fun a b => ⟨zk_cons a hv, b⟩) (fun E p e R s m args below meth c H locs cells slots ad la Q cx hp hs hl hc hd' kk => row E p e R s m args below meth c H locs cells slots ad la Q _ cx hp hs (kk la hl))
theorem w_getsC {index : Nat} (hd : zAt M pc (.getstatic index) 3 nx) (hw : Cond.fieldLink (zMy M).cls index "java/lang/String" "COMPACT_STRINGS" "Z" ∈ zALL) (k : Wp l M d nx ls (Vi 1 :: st) h Q) : Wp l M d pc ls st h Q :=
  wst (fun o h' a => by
    obtain ⟨hd, rfl⟩ := hd
    exact R_push (v := Vi 1) rfl trivial a (fun E p e R s m args below meth c H locs cells slots ad la Q rest cx hp hs w => va_gets cx.1 cx.2.1 cx.2.2.2.2.2.2.2.2.2.2.2.2.2.2.2.2.1 hs cx.2.2.2.2.1 (cx.2.2.2.2.2.1 _ hw) (fun x hx => hx) hd w)) k
/-- the JDK's static references, by their number -/
def zsn (j : Nat) : String × String × String := match j with
  | 0 => ("java/lang/Throwable", "UNASSIGNED_STACK", "[Ljava/lang/StackTraceElement;")
  | 1 => ("java/lang/Throwable", "SUPPRESSED_SENTINEL", "Ljava/util/List;")
  | _ => ("jdk/internal/util/Preconditions", "SIOOBE_FORMATTER", "Ljava/util/function/BiFunction;")
theorem zsu_at {E : zEv} {U : State} {H : Heap} (hE : zEnv E U H) {j : Nat} (hj : j < 3) : va_Z (zsn j).1 (zsn j).2.1 (zsn j).2.2 (va_rf ((zSu E j).map (zX E))) (zA E) U H := by
  match j, hj with
  | 0, _ => exact hE.2.2.2.2.2.1
  | 1, _ => exact hE.2.2.2.2.2.2.1
  | 2, _ => exact hE.2.2.2.2.2.2.2.1
theorem zsu_al {E : zEv} {ad : zRf → Nat} {s : State} {H : Heap} (hp : zHp E ad s h H) (j : Nat) : zalV h (Vq (zR h 998 0 j)) := by
  cases hz : zR h 998 0 j with
  | none => trivial
  | some r => exact Or.inr (hp.2.1.2.2.2 j r (by rw [← hp.2.1.2.2.1]; exact hz))
theorem zsu_en {E : zEv} {ad : zRf → Nat} {s : State} {H : Heap} (hp : zHp E ad s h H) (j : Nat) : zenc ad (Vq (zR h 998 0 j)) = va_rf ((zSu E j).map (zX E)) := by
  have h1 : zR h 998 0 j = zSu E j := by rw [hp.2.1.2.2.1]
  rw [← h1]
  cases hz : zR h 998 0 j with
  | none => rfl
  | some r =>
    show Value.ref (ad r) = Value.ref (zX E r)
    rw [hp.1 r (hp.2.1.2.2.2 j r (h1 ▸ hz))]
theorem w_getsU {index : Nat} (j : Nat) (hj : j < 3) (hd : zAt M pc (.getstatic index) 3 nx) (hw : Cond.fieldLink (zMy M).cls index (zsn j).1 (zsn j).2.1 (zsn j).2.2 ∈ zALL) (k : Wp l M d nx ls (Vq (zR h 998 0 j) :: st) h Q) : Wp l M d pc ls st h Q :=
  wst (fun o h' a => by
    obtain ⟨hd, rfl⟩ := hd
    refine zRn.step (zLe.rf h) a ?_
    intro E p e R s m args below meth c H locs cells slots ad la Q cx hp hS hl ha hb hcc hdd kk
    rw [Nat.sub_self, Nat.add_zero, Nat.sub_self, Nat.add_zero] at kk
    have w1 := kk ad H locs la (fun _ _ => rfl) hp hS hl (zk_cons ha (zsu_al hp j)) hb
    rw [List.map_cons, zsu_en hp j] at w1
    exact va_gets cx.1 cx.2.1 (zsu_at cx.2.2.2.2.2.2.2.2.2.2.2.2 hj) hS cx.2.2.2.2.1 (cx.2.2.2.2.2.1 _ hw) (fun x hx => hx) hd w1) k
/-- a text's constant -/
theorem w_ldcS {index : Nat} {tx : String} (j : Nat) (hd : zAt M pc (.ldc index) 2 nx) (hw : ((zMy M).cls, index, tx, j) ∈ zstr) (k : Wp l M d nx ls (Vq (some (1000 + j, 0)) :: st) h Q) : Wp l M d pc ls st h Q :=
  wst (fun o h' a => by
    obtain ⟨hd, rfl⟩ := hd
    exact R_push (v := Vq (some (1000 + j, 0))) rfl (Or.inr (Nat.le_trans (by decide) (Nat.le_add_right 1000 j))) a (fun E p e R s m args below meth c H locs cells slots ad la Q rest cx hp hs w => by
      have e1 : zenc ad (Vq (some (1000 + j, 0))) = .ref (zX E (1000 + j, 0)) := by
        show Value.ref (ad (1000 + j, 0)) = _
        rw [hp.1 (1000 + j, 0) (Nat.le_trans (by decide) (Nat.le_add_right 1000 j))]
      rw [e1] at w
      exact va_ldcS cx.1 cx.2.1 cx.2.2.2.2.1 (cx.2.2.2.2.2.2.2.2.2.2.2.2.2.2.2.1 _ hw) hd w)) k
theorem zout {E : zEv} {ad : zRf → Nat} {s : State} {H : Heap} (hp : zHp E ad s h H) {k : Nat} (hk : 900 ≤ k) : zenc ad (Vq (some (k, 0))) = .ref (zX E (k, 0)) := by
  show Value.ref (ad (k, 0)) = _
  rw [hp.1 (k, 0) hk]
theorem w_getSv {index : Nat} (j : Nat) (hj : j < 9) (hd : zAt M pc (.getfield index) 3 nx) (hw : Cond.fieldLink (zMy M).cls index "java/lang/String" "value" "[B" ∈ zALL) (k : Wp l M d nx ls (Vq (some (1100 + j, 0)) :: st) h Q) : Wp l M d pc ls (Vq (some (1000 + j, 0)) :: st) h Q :=
  wst (fun o h' a => by
    obtain ⟨hd, rfl⟩ := hd
    refine zRn.pure a (fun a b => ⟨zk_cons (zk_tl a) (Or.inr (Nat.le_trans (by decide) (Nat.le_add_right 1100 j))), b⟩) (fun E p e R s m args below meth c H locs cells slots ad la Q cx hp hs hl hc hd' kk => ?_)
    have w := kk la hl
    rw [List.map_cons, zout hp (Nat.le_trans (by decide) (Nat.le_add_right 1100 j))] at w
    rw [List.map_cons, zout hp (Nat.le_trans (by decide) (Nat.le_add_right 1000 j))]
    exact vk_getf cx.1 cx.2.1 (cx.2.2.2.2.2.2.2.2.2.2.2.2.2.2.1.1 j hj).2.2.1 hs cx.2.2.2.2.1 (cx.2.2.2.2.2.1 _ hw) (fun x hx => hx) hd w) k
theorem w_getSc {index : Nat} (j : Nat) (hj : j < 9) (hd : zAt M pc (.getfield index) 3 nx) (hw : Cond.fieldLink (zMy M).cls index "java/lang/String" "coder" "B" ∈ zALL) (k : Wp l M d nx ls (Vi 0 :: st) h Q) : Wp l M d pc ls (Vq (some (1000 + j, 0)) :: st) h Q :=
  wst (fun o h' a => by
    obtain ⟨hd, rfl⟩ := hd
    refine zRn.pure a (fun a b => ⟨zk_cons (zk_tl a) (zal_i h 0), b⟩) (fun E p e R s m args below meth c H locs cells slots ad la Q cx hp hs hl hc hd' kk => ?_)
    have w := kk la hl
    rw [List.map_cons, zout hp (Nat.le_trans (by decide) (Nat.le_add_right 1000 j))]
    exact vk_getf cx.1 cx.2.1 (cx.2.2.2.2.2.2.2.2.2.2.2.2.2.2.1.1 j hj).2.1 hs cx.2.2.2.2.1 (cx.2.2.2.2.2.1 _ hw) (fun x hx => hx) hd w) k
theorem w_Slen (j : Nat) (hj : j < 9) (hd : zAt M pc .arraylength 1 nx) (k : Wp l M d nx ls (Vi (nI (zlen.getD j 0)) :: st) h Q) : Wp l M d pc ls (Vq (some (1100 + j, 0)) :: st) h Q :=
  wst (fun o h' a => by
    obtain ⟨hd, rfl⟩ := hd
    refine zRn.pure a (fun a b => ⟨zk_cons (zk_tl a) (zal_i h _), b⟩) (fun E p e R s m args below meth c H locs cells slots ad la Q cx hp hs hl hc hd' kk => ?_)
    have w := kk la hl
    rw [List.map_cons, zout hp (Nat.le_trans (by decide) (Nat.le_add_right 1100 j))]
    exact va_tlen cx.1 cx.2.1 (cx.2.2.2.2.2.2.2.2.2.2.2.2.2.2.1.1 j hj).2.2.2 hs rfl hd w) k
theorem w_Sbaload {x : Int32} (j n : Nat) (hj : j < 9) (hx : x = nI n) (hn : n < zlen.getD j 0) (hL : zlen.getD j 0 < 2 ^ 31) (hd : zAt M pc .baload 1 nx) (k : Wp l M d nx ls (Vi ((zbyt.getD j []).getD n 0) :: st) h Q) : Wp l M d pc ls (Vi x :: Vq (some (1100 + j, 0)) :: st) h Q :=
  wst (fun o h' a => by
    obtain ⟨hd, rfl⟩ := hd
    refine zRn.pure a (fun a b => ⟨zk_cons (zk_tl2 a) (zal_i h _), b⟩) (fun E p e R s m args below meth c H locs cells slots ad la Q cx hp hs hl hc hd' kk => ?_)
    have w := kk la hl
    rw [List.map_cons, List.map_cons, zout hp (Nat.le_trans (by decide) (Nat.le_add_right 1100 j))]
    exact va_tb cx.1 cx.2.1 (cx.2.2.2.2.2.2.2.2.2.2.2.2.2.2.1.1 j hj).2.2.2 hs (zin2 hx hn hL) (by rw [zcl2 hx (by omega)]; rfl) hd w) k
theorem w_sld {x : Int32} (n : Nat) (hx : x = nI n) (hn : n < zN h 999 0) (hL : zN h 999 0 < 2 ^ 31) (hd : zAt M pc .iaload 1 nx) (k : Wp l M d nx ls (Vi (zI h 999 0 n) :: st) h Q) : Wp l M d pc ls (Vi x :: Vq (some (999, 0)) :: st) h Q :=
  wst (fun o h' a => by
    obtain ⟨hd, rfl⟩ := hd
    refine zRn.pure a (fun a b => ⟨zk_cons (zk_tl2 a) (zal_i h _), b⟩) (fun E p e R s m args below meth c H locs cells slots ad la Q cx hp hs hl hc hd' kk => ?_)
    have w := kk la hl
    rw [List.map_cons, List.map_cons, zout hp (by decide)]
    have hE := cx.2.2.2.2.2.2.2.2.2.2.2.2
    rw [hp.2.1.1] at hn hL
    rw [hp.2.1.2.1] at w
    refine va_sld cx.1 cx.2.1 hE.2.2.2.2.2.2.2.2.1 hE.2.2.2.2.2.2.2.2.2.2 hE.2.2.2.2.2.2.2.2.2.1 hs (zin2 hx hn hL) hd ?_
    rw [zcl2 hx (by omega)]
    exact w) k
theorem w_slen (hd : zAt M pc .arraylength 1 nx) (k : Wp l M d nx ls (Vi (nI (zN h 999 0)) :: st) h Q) : Wp l M d pc ls (Vq (some (999, 0)) :: st) h Q :=
  wst (fun o h' a => by
    obtain ⟨hd, rfl⟩ := hd
    refine zRn.pure a (fun a b => ⟨zk_cons (zk_tl a) (zal_i h _), b⟩) (fun E p e R s m args below meth c H locs cells slots ad la Q cx hp hs hl hc hd' kk => ?_)
    have w := kk la hl
    rw [List.map_cons, zout hp (by decide)]
    have hE := cx.2.2.2.2.2.2.2.2.2.2.2.2
    rw [hp.2.1.1] at w
    exact va_slen cx.1 cx.2.1 hE.2.2.2.2.2.2.2.2.1 hE.2.2.2.2.2.2.2.2.2.2 hE.2.2.2.2.2.2.2.2.2.1 hs hd w) k
theorem w_objInit {index : Nat} {r : zRf} (hd : zAt M pc (.invokespecial index) 3 nx) (hw : Cond.methodLink (zMy M).cls index Lib.objectInit ∈ zALL) (h1 : Cond.instanceMethod Lib.objectInit ∈ zALL) (h2 : Cond.code Lib.objectInit ⟨#[0xb1]⟩ 1 none ∈ zALL) (hw8 : (st.map zcat).sum ≤ 8) (hd1 : 1 ≤ d) (k : Wp l M d nx ls st h Q) : Wp l M d pc ls (Vq (some r) :: st) h Q :=
  wst (fun o h' a => by
    obtain ⟨hd, rfl⟩ := hd
    refine zRn.pure a (fun a b => ⟨zk_tl a, b⟩) (fun E p e R s m args below meth c H locs cells slots ad la Q cx hp hs hl hc hd' kk => ?_)
    have hfr : d ≤ R.frames := cx.2.2.2.2.2.2.2.2.2.1
    have hlo : 40 * d ≤ R.locals := cx.2.2.2.2.2.2.2.2.2.2.1
    have hsum : ((st.map (zenc ad)).map fun v => v.category).sum = (st.map zcat).sum := by
      rw [List.map_map]
      exact congrArg List.sum (List.map_congr_left (fun v _ => zcat_enc ad v))
    refine W.objInit (g := F0 m pc la (zenc ad (Vq (some r)) :: st.map (zenc ad))) cx.1 cx.2.1 cx.2.2.2.2.1 (cx.2.2.2.2.2.1 _ hw) (cx.2.2.2.2.2.1 _ h1) (cx.2.2.2.2.2.1 _ h2) rfl (by show la.size = c.maxLocals; rw [hl.1, cx.2.2.2.1]) (a := ad r) (rest := st.map (zenc ad)) rfl hd (by omega) ?_ (kk la hl)
    show 2 * 0 + ((st.map (zenc ad)).map fun v => v.category).sum + 12 ≤ R.locals
    omega) k
/-- athrow, where nothing here catches it -/
theorem w_athrow {r : zRf} (hd : zAt M pc .athrow 1 nx) (hout : ∀ x ∈ zMh M, ¬ (x.1 ≤ pc ∧ pc < x.2.1)) (hq : Q (Sum.inr r) h) : Wp l M d pc ls (Vq (some r) :: st) h Q := by
  refine ⟨Sum.inr r, h, ⟨zLe.rf h, ?_⟩, hq⟩
  intro E p e R s m args below meth c H locs cells slots ad la cx hp hS hl ha hb hcc hdd
  intro T hT X
  have hex := cx.2.2.2.2.2.2.2.2.1
  obtain ⟨f1, f2, f3, f4, f5⟩ := X.athrowLeaves cx.1 (g := F0 m pc la ((Vq (some r) :: st).map (zenc ad))) rfl rfl rfl (fun x hx => by
    have hx2 : (x.startPc, x.endPc, x.handlerPc, x.catchType) ∈ zMh M := by rw [← hex]; exact List.mem_map.mpr ⟨x, hx, rfl⟩
    have := hout _ hx2
    simp only [covers]
    simp only [Bool.and_eq_false_iff, decide_eq_false_iff_not]
    by_cases y : x.startPc ≤ pc
    · exact Or.inr (fun z => this ⟨y, z⟩)
    · exact Or.inl y) (a := ad r) (rest := st.map (zenc ad)) rfl (by rw [cx.2.1]; exact hd.1) cx.2.2.2.2.2.2.1
  refine ⟨_, f1, f2, ad, fun _ _ => rfl, f3, ha _ List.mem_cons_self, ?_, ?_, f4, locs, ?_, hS.2.2⟩
  · have := hp.moved (U := T.setFrames (.throwing (ad r) :: below)) f4.alike
    rw [← hT] at this
    exact this
  · rw [← hT] at hS
    exact ⟨hS.1, hS.2.1⟩
  · rw [Nat.sub_self, Nat.add_zero, Nat.sub_self, Nat.add_zero]
    exact f5
/-- System.arraycopy between two int arrays -/
theorem w_copyi {index k1 i1 k2 i2 : Nat} {sp dp n : Int32} (a b m : Nat) (hd : zAt M pc (.invokestatic index) 3 nx) (hw : Cond.methodLink (zMy M).cls index arraycopyName ∈ zALL) (h1 : Cond.native arraycopyName ∈ zALL) (h2 : Cond.static arraycopyName ∈ zALL) (h3 : Cond.initialized "java/lang/System" ∈ zALL)
    (hs1 : zshp k1 = 100) (hr1 : k1 < 900) (hs2 : zshp k2 = 100) (hr2 : k2 < 900) (hsp : sp = nI a) (hdp : dp = nI b) (hm : n = nI m) (hb1 : a + m ≤ zN h k1 i1) (hb2 : b + m ≤ zN h k2 i2) (hb3 : a + m < 2 ^ 31 ∧ b + m < 2 ^ 31) (hne : (k1, i1) ≠ (k2, i2)) (hw8 : (st.map zcat).sum ≤ 8) (hd1 : 2 ≤ d)
    (kk : Wp l M d nx ls st (zcp h k1 i1 a k2 i2 b m) Q) : Wp l M d pc ls (Vi n :: Vi dp :: Vq (some (k2, i2)) :: Vi sp :: Vq (some (k1, i1)) :: st) h Q :=
  wst (fun o h' kr => by
    obtain ⟨hd, rfl⟩ := hd
    have hle : zLe h (zcp h k1 i1 a k2 i2 b m) := zLe.rf h
    refine zRn.step hle kr ?_
    intro E p e R s m' args below meth c H locs cells slots ad la Q cx hp hS hl ha hb hcc hdd kk
    have ec1 : zc (zcp h k1 i1 a k2 i2 b m) = zc h := rfl
    have es1 : zs (zcp h k1 i1 a k2 i2 b m) = zs h := rfl
    rw [ec1, es1, Nat.sub_self, Nat.add_zero, Nat.sub_self, Nat.add_zero] at kk
    have hwf := cx.2.2.2.2.2.1
    have hfr : d ≤ R.frames := cx.2.2.2.2.2.2.2.2.2.1
    have hlo : 40 * d ≤ R.locals := cx.2.2.2.2.2.2.2.2.2.2.1
    have hlive2 : i2 < zC h k2 := zal.lt (h := h) (r := (k2, i2)) (ha (Vq (some (k2, i2))) (by simp)) hr2
    have hlive1 : i1 < zC h k1 := zal.lt (h := h) (r := (k1, i1)) (ha (Vq (some (k1, i1))) (by simp)) hr1
    obtain ⟨-, ns, ca, tys, q1, hh, hq1⟩ := hp.at (r := (k2, i2)) hlive2
    obtain ⟨q0, hq0⟩ := List.getElem?_of_mem ((hh.2.1 (k1, i1)).mpr hlive1)
    obtain ⟨t0, ht0⟩ := hh.2.2.2.2.2.1 (k1, i1) (List.mem_of_getElem? hq0) (by show 100 ≤ zshp k1; rw [hs1]; decide)
    obtain ⟨t1, ht1⟩ := hh.2.2.2.2.2.1 (k2, i2) (List.mem_of_getElem? hq1) (by show 100 ≤ zshp k2; rw [hs2]; decide)
    have g0 := zws_get (ad := ad) (ca := ca) (h := h) hq0
    have g1 := zws_get (ad := ad) (ca := ca) (h := h) hq1
    rw [zcell_i (by show 100 ≤ zshp k1; rw [hs1]; decide) (by show zshp k1 ≠ 101; rw [hs1]; decide) (by show zshp k1 < 110; rw [hs1]; decide)] at g0
    rw [zcell_i (by show 100 ≤ zshp k2; rw [hs2]; decide) (by show zshp k2 ≠ 101; rw [hs2]; decide) (by show zshp k2 < 110; rw [hs2]; decide)] at g1
    rw [show zshp (k1, i1).1 = 100 from hs1] at ht0
    rw [show zshp (k2, i2).1 = 100 from hs2] at ht1
    have ca1 := zcl2 hsp (by omega)
    have ca2 := zcl2 hdp (by omega)
    have ca3 := zcl2 hm (by omega)
    have hsum : ((st.map (zenc ad)).map fun v => v.category).sum = (st.map zcat).sum := by
      rw [List.map_map]
      exact congrArg List.sum (List.map_congr_left (fun v _ => zcat_enc ad v))
    have hnw : nativeFrameWords "java/lang/System" "arraycopy" 5 + 11 ≤ 60 := by decide
    refine va_copyi (ty := .int) cx.1 cx.2.1 (by rw [hl.1]; exact cx.2.2.2.1) cx.2.2.2.2.1 (hwf _ hw) (hwf _ h1) (hwf _ h2) (hwf _ h3) hh.2.2.1 hh.2.2.2.1 hh.2.2.2.2.1 hS q0 q1 t0 t1 g0 g1 ht0 ht1 rfl (by rw [hsp]; exact nI_pos (by omega)) (by rw [hdp]; exact nI_pos (by omega)) (by rw [hm]; exact nI_pos (by omega)) (by rw [ca1, ca3]; exact hb1) (by rw [ca2, ca3]; exact hb2) (fun _ _ => rfl) (by omega) (by rw [hsum]; omega) hd ?_
    intro H1 locs1 hP1 hD1 hS1
    rw [ca1, ca2, ca3] at hP1 hD1
    have ec : zcell ad ca (zcp h k1 i1 a k2 i2 b m) (k2, i2) = .inl (ca (k2, i2), zN h k2 i2, .inl (va_cpy (zI h k1 i1) (zI h k2 i2) a b m)) := by
      rw [zcell_i (by show 100 ≤ zshp k2; rw [hs2]; decide) (by show zshp k2 ≠ 101; rw [hs2]; decide) (by show zshp k2 < 110; rw [hs2]; decide)]
      have : zI (zcp h k1 i1 a k2 i2 b m) k2 i2 = va_cpy (zI h k1 i1) (zI h k2 i2) a b m := by
        show (if k2 = k2 ∧ i2 = i2 then _ else _) = _
        rw [if_pos ⟨rfl, rfl⟩]; rfl
      exact congrArg (fun f => Sum.inl (ca (k2, i2), zN h k2 i2, Sum.inl f)) this
    rw [← ec] at hP1 hD1
    have hp2 := hp.upd (h2 := zcp h k1 i1 a k2 i2 b m) hh hq1 hr2 rfl rfl (fun r' e => by
      show (if r'.1 = k2 ∧ r'.2 = i2 then _ else _) = _
      rw [if_neg (fun z => e (Prod.ext z.1 z.2))]; rfl) (fun _ _ => rfl) (fun _ _ => rfl) (hh.2.2.2.2.2.2 (k2, i2) (List.mem_of_getElem? hq1)) hP1 hD1
    exact kk ad H1 locs1 la (fun _ _ => rfl) hp2 hS1 hl (fun v hv => ha v (by simp [hv])) hb) kk
end zROWS
end
section
-- METHODS by program (wip/gen/methods.py): m.. the method, t.. its instructions, T.. they are what its bytes decode to, k.. its word; f.. a class entry is a field; g.. a method may write it
def mX0_init : zM := (yX0_init, prog_2_method_1_code, 4, none, [])
def tX0_init : List (Nat × Instr × Nat × Nat) := [(0, .aload_n 0, 1, 1), (1, .invokespecial 1, 3, 4), (4, .aload_n 0, 1, 5), (5, .iconst 0, 1, 6), (6, .putfield 7, 3, 9), (9, .aload_n 0, 1, 10), (10, .iload_n 1, 1, 11), (11, .putfield 13, 3, 14), (14, .aload_n 0, 1, 15), (15, .iload_n 2, 1, 16), (16, .putfield 16, 3, 19), (19, .aload_n 0, 1, 20), (20, .iload_n 3, 1, 21), (21, .putfield 19, 3, 24), (24, .return_, 1, 25)]
set_option maxRecDepth 100000 in
theorem TX0_init : zchk (zMc mX0_init) tX0_init = true := by decide +kernel
theorem kX0_init : zOK mX0_init := ⟨zw416, zw80, by decide, by decide +kernel, by decide +kernel⟩
def mX1_init : zM := (yX1_init, prog_3_method_1_code, 4, none, [])
def tX1_init : List (Nat × Instr × Nat × Nat) := [(0, .aload_n 0, 1, 1), (1, .invokespecial 1, 3, 4), (4, .aload_n 0, 1, 5), (5, .iload_n 1, 1, 6), (6, .putfield 7, 3, 9), (9, .aload_n 0, 1, 10), (10, .iload_n 2, 1, 11), (11, .putfield 13, 3, 14), (14, .aload_n 0, 1, 15), (15, .aload_n 3, 1, 16), (16, .putfield 16, 3, 19), (19, .return_, 1, 20)]
set_option maxRecDepth 100000 in
theorem TX1_init : zchk (zMc mX1_init) tX1_init = true := by decide +kernel
theorem kX1_init : zOK mX1_init := ⟨zw613, zw85, by decide, by decide +kernel, by decide +kernel⟩
def mX2_init : zM := (yX2_init, prog_4_method_1_code, 1, none, [])
def tX2_init : List (Nat × Instr × Nat × Nat) := [(0, .aload_n 0, 1, 1), (1, .invokespecial 3, 3, 4), (4, .aload_n 0, 1, 5), (5, .bipush 30, 2, 7), (7, .anewarray 9, 3, 10), (10, .putfield 11, 3, 13), (13, .aload_n 0, 1, 14), (14, .new 17, 3, 17), (17, .dup, 1, 18), (18, .invokespecial 19, 3, 21), (21, .putfield 20, 3, 24), (24, .aload_n 0, 1, 25), (25, .iconst 0, 1, 26), (26, .putfield 24, 3, 29), (29, .return_, 1, 30)]
set_option maxRecDepth 100000 in
theorem TX2_init : zchk (zMc mX2_init) tX2_init = true := by decide +kernel
theorem kX2_init : zOK mX2_init := ⟨zw172, zw68, by decide, by decide +kernel, by decide +kernel⟩
def mX2_isFull : zM := (yX2_isFull, prog_4_method_2_code, 1, (Option.some Jvm.ClassFile.FieldType.boolean), [])
def tX2_isFull : List (Nat × Instr × Nat × Nat) := [(0, .aload_n 0, 1, 1), (1, .getfield 24, 3, 4), (4, .bipush 30, 2, 6), (6, .if_icmp .lt 7, 3, 9), (9, .iconst 1, 1, 10), (10, .goto 4, 3, 13), (13, .iconst 0, 1, 14), (14, .ireturn, 1, 15)]
set_option maxRecDepth 100000 in
theorem TX2_isFull : zchk (zMc mX2_isFull) tX2_isFull = true := by decide +kernel
theorem kX2_isFull : zOK mX2_isFull := ⟨zw601, zw68, by decide, by decide +kernel, by decide +kernel⟩
def mX2_add : zM := (yX2_add, prog_4_method_3_code, 2, (Option.some Jvm.ClassFile.FieldType.int), [])
def tX2_add : List (Nat × Instr × Nat × Nat) := [(0, .aload_n 0, 1, 1), (1, .invokevirtual 28, 3, 4), (4, .ifCond .eq 5, 3, 7), (7, .iconst (-1), 1, 8), (8, .ireturn, 1, 9), (9, .aload_n 0, 1, 10), (10, .getfield 11, 3, 13), (13, .aload_n 0, 1, 14), (14, .getfield 24, 3, 17), (17, .aload_n 1, 1, 18), (18, .aastore, 1, 19), (19, .aload_n 0, 1, 20), (20, .dup, 1, 21), (21, .getfield 24, 3, 24), (24, .iconst 1, 1, 25), (25, .iadd, 1, 26), (26, .putfield 24, 3, 29), (29, .aload_n 0, 1, 30), (30, .getfield 24, 3, 33), (33, .iconst 1, 1, 34), (34, .isub, 1, 35), (35, .ireturn, 1, 36)]
set_option maxRecDepth 100000 in
theorem TX2_add : zchk (zMc mX2_add) tX2_add = true := by decide +kernel
theorem kX2_add : zOK mX2_add := ⟨zw631, zw68, by decide, by decide +kernel, by decide +kernel⟩
def mX2_numberInForce : zM := (yX2_numberInForce, prog_4_method_4_code, 7, (Option.some Jvm.ClassFile.FieldType.int), [])
def tX2_numberInForce : List (Nat × Instr × Nat × Nat) := [(0, .bipush (-2), 2, 2), (2, .istore_n 3, 1, 3), (3, .iconst 0, 1, 4), (4, .istore 4, 2, 6), (6, .iconst 0, 1, 7), (7, .istore 5, 2, 9), (9, .iload 5, 2, 11), (11, .aload_n 0, 1, 12), (12, .getfield 24, 3, 15), (15, .if_icmp .ge 56, 3, 18), (18, .aload_n 0, 1, 19), (19, .getfield 11, 3, 22), (22, .iload 5, 2, 24), (24, .aaload, 1, 25), (25, .astore 6, 2, 27), (27, .aload 6, 2, 29), (29, .getfield 32, 3, 32), (32, .iload_n 1, 1, 33), (33, .if_icmp .ne 32, 3, 36), (36, .aload 6, 2, 38), (38, .getfield 35, 3, 41), (41, .iload_n 2, 1, 42), (42, .if_icmp .gt 23, 3, 45), (45, .aload 6, 2, 47), (47, .getfield 35, 3, 50), (50, .iload 4, 2, 52), (52, .if_icmp .lt 13, 3, 55), (55, .iload 5, 2, 57), (57, .istore_n 3, 1, 58), (58, .aload 6, 2, 60), (60, .getfield 35, 3, 63), (63, .istore 4, 2, 65), (65, .iinc 5 1, 3, 68), (68, .goto (-59), 3, 71), (71, .iload_n 3, 1, 72), (72, .ireturn, 1, 73)]
set_option maxRecDepth 100000 in
theorem TX2_numberInForce : zchk (zMc mX2_numberInForce) tX2_numberInForce = true := by decide +kernel
theorem kX2_numberInForce : zOK mX2_numberInForce := ⟨zw648, zw68, by decide, by decide +kernel, by decide +kernel⟩
def mX2_learn : zM := (yX2_learn, prog_4_method_5_code, 5, none, [])
def tX2_learn : List (Nat × Instr × Nat × Nat) := [(0, .aload_n 1, 1, 1), (1, .getfield 38, 3, 4), (4, .istore 4, 2, 6), (6, .iload 4, 2, 8), (8, .iload_n 3, 1, 9), (9, .if_icmp .gt 32, 3, 12), (12, .iload 4, 2, 14), (14, .bipush 99, 2, 16), (16, .if_icmp .gt 25, 3, 19), (19, .aload_n 0, 1, 20), (20, .aload_n 1, 1, 21), (21, .iload_n 2, 1, 22), (22, .iload 4, 2, 24), (24, .invokevirtual 43, 3, 27), (27, .aload_n 1, 1, 28), (28, .iload 4, 2, 30), (30, .iconst 1, 1, 31), (31, .iadd, 1, 32), (32, .putfield 38, 3, 35), (35, .iinc 4 1, 3, 38), (38, .goto (-32), 3, 41), (41, .return_, 1, 42)]
set_option maxRecDepth 100000 in
theorem TX2_learn : zchk (zMc mX2_learn) tX2_learn = true := by decide +kernel
theorem kX2_learn : zOK mX2_learn := ⟨zw656, zw68, by decide, by decide +kernel, by decide +kernel⟩
def mX2_learnYear : zM := (yX2_learnYear, prog_4_method_6_code, 6, none, [])
def tX2_learnYear_0 : List (Nat × Instr × Nat × Nat) := [(0, .aload_n 0, 1, 1), (1, .iload_n 2, 1, 2), (2, .iload_n 3, 1, 3), (3, .invokevirtual 47, 3, 6), (6, .istore 4, 2, 8), (8, .iload 4, 2, 10), (10, .ifCond .ge 18, 3, 13), (13, .aload_n 1, 1, 14), (14, .getfield 51, 3, 17), (17, .iload_n 3, 1, 18), (18, .iconst 0, 1, 19), (19, .iastore, 1, 20), (20, .aload_n 1, 1, 21), (21, .getfield 55, 3, 24), (24, .iload_n 3, 1, 25), (25, .iconst 0, 1, 26), (26, .iastore, 1, 27), (27, .return_, 1, 28), (28, .aload_n 0, 1, 29), (29, .getfield 11, 3, 32), (32, .iload 4, 2, 34), (34, .aaload, 1, 35), (35, .getfield 58, 3, 38), (38, .astore 5, 2, 40), (40, .aload_n 0, 1, 41), (41, .getfield 20, 3, 44), (44, .iload_n 3, 1, 45), (45, .putfield 61, 3, 48), (48, .aload_n 0, 1, 49), (49, .getfield 20, 3, 52), (52, .aload_n 1, 1, 53), (53, .getfield 62, 3, 56), (56, .putfield 65, 3, 59), (59, .aload_n 0, 1, 60), (60, .getfield 20, 3, 63), (63, .aload_n 1, 1, 64), (64, .getfield 66, 3, 67), (67, .putfield 69, 3, 70), (70, .aload_n 0, 1, 71), (71, .getfield 20, 3, 74), (74, .iload_n 3, 1, 75), (75, .ifCond .le 14, 3, 78), (78, .aload_n 1, 1, 79), (79, .getfield 51, 3, 82), (82, .iload_n 3, 1, 83), (83, .iconst 1, 1, 84), (84, .isub, 1, 85), (85, .iaload, 1, 86), (86, .goto 4, 3, 89), (89, .iconst 0, 1, 90), (90, .putfield 70, 3, 93), (93, .aload_n 1, 1, 94), (94, .getfield 51, 3, 97), (97, .iload_n 3, 1, 98), (98, .aload_n 0, 1, 99), (99, .getfield 20, 3, 102), (102, .aload 5, 2, 104), (104, .iconst (-1), 1, 105), (105, .invokevirtual 75, 3, 108), (108, .i2l, 1, 109)]
set_option maxRecDepth 100000 in
theorem TX2_learnYear_0 : zchk (zMc mX2_learnYear) tX2_learnYear_0 = true := by decide +kernel
def tX2_learnYear_1 : List (Nat × Instr × Nat × Nat) := [(109, .iconst 0, 1, 110), (110, .sipush 1000, 3, 113), (113, .invokestatic 79, 3, 116), (116, .iastore, 1, 117), (117, .aload_n 0, 1, 118), (118, .getfield 20, 3, 121), (121, .iload_n 3, 1, 122), (122, .ifCond .le 14, 3, 125), (125, .aload_n 1, 1, 126), (126, .getfield 55, 3, 129), (129, .iload_n 3, 1, 130), (130, .iconst 1, 1, 131), (131, .isub, 1, 132), (132, .iaload, 1, 133), (133, .goto 4, 3, 136), (136, .iconst 0, 1, 137), (137, .putfield 70, 3, 140), (140, .aload_n 1, 1, 141), (141, .getfield 55, 3, 144), (144, .iload_n 3, 1, 145), (145, .aload_n 0, 1, 146), (146, .getfield 20, 3, 149), (149, .aload 5, 2, 151), (151, .bipush (-2), 2, 153), (153, .invokevirtual 75, 3, 156), (156, .i2l, 1, 157), (157, .iconst 0, 1, 158), (158, .aload_n 1, 1, 159), (159, .getfield 66, 3, 162), (162, .invokestatic 79, 3, 165), (165, .iastore, 1, 166), (166, .return_, 1, 167)]
set_option maxRecDepth 100000 in
theorem TX2_learnYear_1 : zchk (zMc mX2_learnYear) tX2_learnYear_1 = true := by decide +kernel
theorem kX2_learnYear : zOK mX2_learnYear := ⟨zw660, zw68, by decide, by decide +kernel, by decide +kernel⟩
def mX3_init : zM := (yX3_init, prog_5_method_1_code, 1, none, [])
def tX3_init : List (Nat × Instr × Nat × Nat) := [(0, .aload_n 0, 1, 1), (1, .invokespecial 3, 3, 4), (4, .aload_n 0, 1, 5), (5, .bipush 10, 2, 7), (7, .newarray .int, 2, 9), (9, .putfield 9, 3, 12), (12, .aload_n 0, 1, 13), (13, .bipush 10, 2, 15), (15, .newarray .long, 2, 17), (17, .putfield 15, 3, 20), (20, .aload_n 0, 1, 21), (21, .bipush 10, 2, 23), (23, .newarray .long, 2, 25), (25, .putfield 19, 3, 28), (28, .aload_n 0, 1, 29), (29, .bipush 10, 2, 31), (31, .newarray .int, 2, 33), (33, .putfield 22, 3, 36), (36, .aload_n 0, 1, 37), (37, .bipush 10, 2, 39), (39, .newarray .int, 2, 41), (41, .putfield 25, 3, 44), (44, .aload_n 0, 1, 45), (45, .bipush 10, 2, 47), (47, .newarray .int, 2, 49), (49, .putfield 28, 3, 52), (52, .aload_n 0, 1, 53), (53, .bipush 16, 2, 55), (55, .newarray .int, 2, 57), (57, .putfield 31, 3, 60), (60, .aload_n 0, 1, 61), (61, .bipush 16, 2, 63), (63, .newarray .int, 2, 65), (65, .putfield 34, 3, 68), (68, .aload_n 0, 1, 69), (69, .bipush 16, 2, 71), (71, .newarray .int, 2, 73), (73, .putfield 37, 3, 76), (76, .aload_n 0, 1, 77), (77, .iconst 0, 1, 78), (78, .putfield 40, 3, 81), (81, .aload_n 0, 1, 82), (82, .iconst 0, 1, 83), (83, .putfield 44, 3, 86), (86, .aload_n 0, 1, 87), (87, .iconst 0, 1, 88), (88, .putfield 47, 3, 91), (91, .return_, 1, 92)]
set_option maxRecDepth 100000 in
theorem TX3_init : zchk (zMc mX3_init) tX3_init = true := by decide +kernel
theorem kX3_init : zOK mX3_init := ⟨zw220, zw70, by decide, by decide +kernel, by decide +kernel⟩
def mX3_seat : zM := (yX3_seat, prog_5_method_2_code, 5, none, [])
def tX3_seat : List (Nat × Instr × Nat × Nat) := [(0, .aload_n 2, 1, 1), (1, .getfield 50, 3, 4), (4, .iload_n 3, 1, 5), (5, .iaload, 1, 6), (6, .istore 4, 2, 8), (8, .aload_n 0, 1, 9), (9, .getfield 9, 3, 12), (12, .iload_n 1, 1, 13), (13, .aload_n 2, 1, 14), (14, .getfield 55, 3, 17), (17, .iload_n 3, 1, 18), (18, .iaload, 1, 19), (19, .iastore, 1, 20), (20, .aload_n 0, 1, 21), (21, .getfield 15, 3, 24), (24, .iload_n 1, 1, 25), (25, .aload_n 2, 1, 26), (26, .getfield 56, 3, 29), (29, .i2l, 1, 30), (30, .iload 4, 2, 32), (32, .i2l, 1, 33), (33, .lmul, 1, 34), (34, .lastore, 1, 35), (35, .aload_n 0, 1, 36), (36, .getfield 19, 3, 39), (39, .iload_n 1, 1, 40), (40, .aload_n 2, 1, 41), (41, .getfield 56, 3, 44), (44, .i2l, 1, 45), (45, .aload_n 2, 1, 46), (46, .getfield 59, 3, 49), (49, .iload 4, 2, 51), (51, .isub, 1, 52), (52, .i2l, 1, 53), (53, .lmul, 1, 54), (54, .lastore, 1, 55), (55, .return_, 1, 56)]
set_option maxRecDepth 100000 in
theorem TX3_seat : zchk (zMc mX3_seat) tX3_seat = true := by decide +kernel
theorem kX3_seat : zOK mX3_seat := ⟨zw711, zw70, by decide, by decide +kernel, by decide +kernel⟩
def mX3_join : zM := (yX3_join, prog_5_method_3_code, 5, none, [])
def tX3_join : List (Nat × Instr × Nat × Nat) := [(0, .aload_n 0, 1, 1), (1, .getfield 31, 3, 4), (4, .iload_n 1, 1, 5), (5, .iload_n 2, 1, 6), (6, .iastore, 1, 7), (7, .aload_n 0, 1, 8), (8, .getfield 34, 3, 11), (11, .iload_n 1, 1, 12), (12, .iload_n 3, 1, 13), (13, .iastore, 1, 14), (14, .aload_n 0, 1, 15), (15, .getfield 37, 3, 18), (18, .iload_n 1, 1, 19), (19, .iload 4, 2, 21), (21, .iastore, 1, 22), (22, .return_, 1, 23)]
set_option maxRecDepth 100000 in
theorem TX3_join : zchk (zMc mX3_join) tX3_join = true := by decide +kernel
theorem kX3_join : zOK mX3_join := ⟨zw715, zw70, by decide, by decide +kernel, by decide +kernel⟩
def mX3_settle : zM := (yX3_settle, prog_5_method_4_code, 2, none, [])
def tX3_settle : List (Nat × Instr × Nat × Nat) := [(0, .iconst 0, 1, 1), (1, .istore_n 1, 1, 2), (2, .iload_n 1, 1, 3), (3, .aload_n 0, 1, 4), (4, .getfield 40, 3, 7), (7, .if_icmp .ge 25, 3, 10), (10, .aload_n 0, 1, 11), (11, .getfield 22, 3, 14), (14, .iload_n 1, 1, 15), (15, .aload_n 0, 1, 16), (16, .getfield 9, 3, 19), (19, .iload_n 1, 1, 20), (20, .iaload, 1, 21), (21, .iconst 4, 1, 22), (22, .ishl, 1, 23), (23, .iload_n 1, 1, 24), (24, .iadd, 1, 25), (25, .iastore, 1, 26), (26, .iinc 1 1, 3, 29), (29, .goto (-27), 3, 32), (32, .aload_n 0, 1, 33), (33, .aload_n 0, 1, 34), (34, .getfield 22, 3, 37), (37, .iconst 4, 1, 38), (38, .invokevirtual 62, 3, 41), (41, .return_, 1, 42)]
set_option maxRecDepth 100000 in
theorem TX3_settle : zchk (zMc mX3_settle) tX3_settle = true := by decide +kernel
theorem kX3_settle : zOK mX3_settle := ⟨zw719, zw70, by decide, by decide +kernel, by decide +kernel⟩
def mX3_leastCost : zM := (yX3_leastCost, prog_5_method_5_code, 2, (Option.some Jvm.ClassFile.FieldType.int), [])
def tX3_leastCost : List (Nat × Instr × Nat × Nat) := [(0, .aload_n 0, 1, 1), (1, .getfield 22, 3, 4), (4, .iload_n 1, 1, 5), (5, .iaload, 1, 6), (6, .iconst 4, 1, 7), (7, .ishr, 1, 8), (8, .ireturn, 1, 9)]
set_option maxRecDepth 100000 in
theorem TX3_leastCost : zchk (zMc mX3_leastCost) tX3_leastCost = true := by decide +kernel
theorem kX3_leastCost : zOK mX3_leastCost := ⟨zw740, zw70, by decide, by decide +kernel, by decide +kernel⟩
def mX3_sourceOf : zM := (yX3_sourceOf, prog_5_method_6_code, 2, (Option.some Jvm.ClassFile.FieldType.int), [])
def tX3_sourceOf : List (Nat × Instr × Nat × Nat) := [(0, .aload_n 0, 1, 1), (1, .iload_n 1, 1, 2), (2, .invokevirtual 66, 3, 5), (5, .aload_n 0, 1, 6), (6, .getfield 9, 3, 9), (9, .iload_n 1, 1, 10), (10, .iaload, 1, 11), (11, .if_icmp .ne 7, 3, 14), (14, .iload_n 1, 1, 15), (15, .goto 12, 3, 18), (18, .aload_n 0, 1, 19), (19, .getfield 22, 3, 22), (22, .iload_n 1, 1, 23), (23, .iaload, 1, 24), (24, .bipush 15, 2, 26), (26, .iand, 1, 27), (27, .ireturn, 1, 28)]
set_option maxRecDepth 100000 in
theorem TX3_sourceOf : zchk (zMc mX3_sourceOf) tX3_sourceOf = true := by decide +kernel
theorem kX3_sourceOf : zOK mX3_sourceOf := ⟨zw748, zw70, by decide, by decide +kernel, by decide +kernel⟩
def mX3_costBetween : zM := (yX3_costBetween, prog_5_method_7_code, 3, (Option.some Jvm.ClassFile.FieldType.int), [])
def tX3_costBetween : List (Nat × Instr × Nat × Nat) := [(0, .aload_n 0, 1, 1), (1, .iload_n 2, 1, 2), (2, .invokevirtual 70, 3, 5), (5, .aload_n 0, 1, 6), (6, .getfield 25, 3, 9), (9, .iload_n 1, 1, 10), (10, .iaload, 1, 11), (11, .ldc 74, 2, 13), (13, .if_icmp .lt 8, 3, 16), (16, .bipush (-2), 2, 18), (18, .goto 16, 3, 21), (21, .aload_n 0, 1, 22), (22, .getfield 9, 3, 25), (25, .iload_n 1, 1, 26), (26, .iaload, 1, 27), (27, .aload_n 0, 1, 28), (28, .getfield 25, 3, 31), (31, .iload_n 1, 1, 32), (32, .iaload, 1, 33), (33, .iadd, 1, 34), (34, .ireturn, 1, 35)]
set_option maxRecDepth 100000 in
theorem TX3_costBetween : zchk (zMc mX3_costBetween) tX3_costBetween = true := by decide +kernel
theorem kX3_costBetween : zOK mX3_costBetween := ⟨zw727, zw70, by decide, by decide +kernel, by decide +kernel⟩
def mX3_takenOf : zM := (yX3_takenOf, prog_5_method_8_code, 5, (Option.some Jvm.ClassFile.FieldType.long), [])
def tX3_takenOf : List (Nat × Instr × Nat × Nat) := [(0, .aload_n 0, 1, 1), (1, .getfield 15, 3, 4), (4, .iload_n 1, 1, 5), (5, .laload, 1, 6), (6, .lstore_n 2, 1, 7), (7, .iconst 0, 1, 8), (8, .istore 4, 2, 10), (10, .iload 4, 2, 12), (12, .aload_n 0, 1, 13), (13, .getfield 40, 3, 16), (16, .if_icmp .ge 29, 3, 19), (19, .aload_n 0, 1, 20), (20, .iload 4, 2, 22), (22, .invokevirtual 75, 3, 25), (25, .iload_n 1, 1, 26), (26, .if_icmp .ne 13, 3, 29), (29, .lload_n 2, 1, 30), (30, .aload_n 0, 1, 31), (31, .getfield 19, 3, 34), (34, .iload 4, 2, 36), (36, .laload, 1, 37), (37, .ladd, 1, 38), (38, .lstore_n 2, 1, 39), (39, .iinc 4 1, 3, 42), (42, .goto (-32), 3, 45), (45, .lload_n 2, 1, 46), (46, .aload_n 0, 1, 47), (47, .getfield 9, 3, 50), (50, .iload_n 1, 1, 51), (51, .iaload, 1, 52), (52, .i2l, 1, 53), (53, .lmul, 1, 54), (54, .lreturn, 1, 55)]
set_option maxRecDepth 100000 in
theorem TX3_takenOf : zchk (zMc mX3_takenOf) tX3_takenOf = true := by decide +kernel
theorem kX3_takenOf : zOK mX3_takenOf := ⟨zw758, zw70, by decide, by decide +kernel, by decide +kernel⟩
def mX3_takenInAll : zM := (yX3_takenInAll, prog_5_method_9_code, 4, (Option.some Jvm.ClassFile.FieldType.long), [])
def tX3_takenInAll : List (Nat × Instr × Nat × Nat) := [(0, .lconst 0, 1, 1), (1, .lstore_n 1, 1, 2), (2, .iconst 0, 1, 3), (3, .istore_n 3, 1, 4), (4, .iload_n 3, 1, 5), (5, .aload_n 0, 1, 6), (6, .getfield 40, 3, 9), (9, .if_icmp .ge 45, 3, 12), (12, .lload_n 1, 1, 13), (13, .aload_n 0, 1, 14), (14, .getfield 15, 3, 17), (17, .iload_n 3, 1, 18), (18, .laload, 1, 19), (19, .aload_n 0, 1, 20), (20, .getfield 9, 3, 23), (23, .iload_n 3, 1, 24), (24, .iaload, 1, 25), (25, .i2l, 1, 26), (26, .lmul, 1, 27), (27, .aload_n 0, 1, 28), (28, .getfield 19, 3, 31), (31, .iload_n 3, 1, 32), (32, .laload, 1, 33), (33, .aload_n 0, 1, 34), (34, .getfield 9, 3, 37), (37, .aload_n 0, 1, 38), (38, .iload_n 3, 1, 39), (39, .invokevirtual 75, 3, 42), (42, .iaload, 1, 43), (43, .i2l, 1, 44), (44, .lmul, 1, 45), (45, .ladd, 1, 46), (46, .ladd, 1, 47), (47, .lstore_n 1, 1, 48), (48, .iinc 3 1, 3, 51), (51, .goto (-47), 3, 54), (54, .lload_n 1, 1, 55), (55, .lreturn, 1, 56)]
set_option maxRecDepth 100000 in
theorem TX3_takenInAll : zchk (zMc mX3_takenInAll) tX3_takenInAll = true := by decide +kernel
theorem kX3_takenInAll : zOK mX3_takenInAll := ⟨zw767, zw70, by decide, by decide +kernel, by decide +kernel⟩
def mX3_lostInAll : zM := (yX3_lostInAll, prog_5_method_10_code, 4, (Option.some Jvm.ClassFile.FieldType.long), [])
def tX3_lostInAll : List (Nat × Instr × Nat × Nat) := [(0, .lconst 0, 1, 1), (1, .lstore_n 1, 1, 2), (2, .iconst 0, 1, 3), (3, .istore_n 3, 1, 4), (4, .iload_n 3, 1, 5), (5, .aload_n 0, 1, 6), (6, .getfield 40, 3, 9), (9, .if_icmp .ge 37, 3, 12), (12, .lload_n 1, 1, 13), (13, .aload_n 0, 1, 14), (14, .getfield 19, 3, 17), (17, .iload_n 3, 1, 18), (18, .laload, 1, 19), (19, .aload_n 0, 1, 20), (20, .getfield 9, 3, 23), (23, .iload_n 3, 1, 24), (24, .iaload, 1, 25), (25, .aload_n 0, 1, 26), (26, .getfield 9, 3, 29), (29, .aload_n 0, 1, 30), (30, .iload_n 3, 1, 31), (31, .invokevirtual 75, 3, 34), (34, .iaload, 1, 35), (35, .isub, 1, 36), (36, .i2l, 1, 37), (37, .lmul, 1, 38), (38, .ladd, 1, 39), (39, .lstore_n 1, 1, 40), (40, .iinc 3 1, 3, 43), (43, .goto (-39), 3, 46), (46, .lload_n 1, 1, 47), (47, .lreturn, 1, 48)]
set_option maxRecDepth 100000 in
theorem TX3_lostInAll : zchk (zMc mX3_lostInAll) tX3_lostInAll = true := by decide +kernel
theorem kX3_lostInAll : zOK mX3_lostInAll := ⟨zw775, zw70, by decide, by decide +kernel, by decide +kernel⟩
def mX3_carriedOver : zM := (yX3_carriedOver, prog_5_method_11_code, 6, (Option.some Jvm.ClassFile.FieldType.long), [])
def tX3_carriedOver : List (Nat × Instr × Nat × Nat) := [(0, .lconst 0, 1, 1), (1, .lstore_n 2, 1, 2), (2, .iconst 0, 1, 3), (3, .istore 4, 2, 5), (5, .iload 4, 2, 7), (7, .aload_n 0, 1, 8), (8, .getfield 40, 3, 11), (11, .if_icmp .ge 54, 3, 14), (14, .aload_n 0, 1, 15), (15, .iload 4, 2, 17), (17, .invokevirtual 78, 3, 20), (20, .iconst 0, 1, 21), (21, .istore 5, 2, 23), (23, .iload 5, 2, 25), (25, .aload_n 0, 1, 26), (26, .getfield 47, 3, 29), (29, .if_icmp .ge 30, 3, 32), (32, .aload_n 0, 1, 33), (33, .getfield 28, 3, 36), (36, .iload 5, 2, 38), (38, .iaload, 1, 39), (39, .iload_n 1, 1, 40), (40, .if_icmp .ne 13, 3, 43), (43, .lload_n 2, 1, 44), (44, .aload_n 0, 1, 45), (45, .getfield 19, 3, 48), (48, .iload 4, 2, 50), (50, .laload, 1, 51), (51, .ladd, 1, 52), (52, .lstore_n 2, 1, 53), (53, .iinc 5 1, 3, 56), (56, .goto (-33), 3, 59), (59, .iinc 4 1, 3, 62), (62, .goto (-57), 3, 65), (65, .lload_n 2, 1, 66), (66, .lreturn, 1, 67)]
set_option maxRecDepth 100000 in
theorem TX3_carriedOver : zchk (zMc mX3_carriedOver) tX3_carriedOver = true := by decide +kernel
theorem kX3_carriedOver : zOK mX3_carriedOver := ⟨zw783, zw70, by decide, by decide +kernel, by decide +kernel⟩
def mX3_trace : zM := (yX3_trace, prog_5_method_12_code, 5, none, [])
def tX3_trace : List (Nat × Instr × Nat × Nat) := [(0, .aload_n 0, 1, 1), (1, .iconst 0, 1, 2), (2, .putfield 47, 3, 5), (5, .aload_n 0, 1, 6), (6, .iload_n 1, 1, 7), (7, .invokevirtual 75, 3, 10), (10, .istore_n 2, 1, 11), (11, .iload_n 2, 1, 12), (12, .iload_n 1, 1, 13), (13, .if_icmp .ne 4, 3, 16), (16, .return_, 1, 17), (17, .aload_n 0, 1, 18), (18, .iload_n 1, 1, 19), (19, .invokevirtual 70, 3, 22), (22, .iconst 0, 1, 23), (23, .istore_n 3, 1, 24), (24, .iload_n 3, 1, 25), (25, .bipush 10, 2, 27), (27, .if_icmp .ge 71, 3, 30), (30, .iload_n 2, 1, 31), (31, .iload_n 1, 1, 32), (32, .if_icmp .eq 66, 3, 35), (35, .aload_n 0, 1, 36), (36, .iload_n 2, 1, 37), (37, .invokevirtual 81, 3, 40), (40, .istore 4, 2, 42), (42, .iload 4, 2, 44), (44, .ifCond .ge 4, 3, 47), (47, .return_, 1, 48), (48, .aload_n 0, 1, 49), (49, .getfield 28, 3, 52), (52, .iload_n 3, 1, 53), (53, .iload 4, 2, 55), (55, .iastore, 1, 56), (56, .aload_n 0, 1, 57), (57, .iload_n 3, 1, 58), (58, .iconst 1, 1, 59), (59, .iadd, 1, 60), (60, .putfield 47, 3, 63), (63, .aload_n 0, 1, 64), (64, .getfield 31, 3, 67), (67, .iload 4, 2, 69), (69, .iaload, 1, 70), (70, .iload_n 2, 1, 71), (71, .if_icmp .ne 13, 3, 74), (74, .aload_n 0, 1, 75), (75, .getfield 34, 3, 78), (78, .iload 4, 2, 80), (80, .iaload, 1, 81), (81, .goto 10, 3, 84), (84, .aload_n 0, 1, 85), (85, .getfield 31, 3, 88), (88, .iload 4, 2, 90), (90, .iaload, 1, 91), (91, .istore_n 2, 1, 92), (92, .iinc 3 1, 3, 95), (95, .goto (-71), 3, 98), (98, .return_, 1, 99)]
set_option maxRecDepth 100000 in
theorem TX3_trace : zchk (zMc mX3_trace) tX3_trace = true := by decide +kernel
theorem kX3_trace : zOK mX3_trace := ⟨zw787, zw70, by decide, by decide +kernel, by decide +kernel⟩
def mX3_borderOfWay : zM := (yX3_borderOfWay, prog_5_method_13_code, 2, (Option.some Jvm.ClassFile.FieldType.int), [])
def tX3_borderOfWay : List (Nat × Instr × Nat × Nat) := [(0, .iload_n 1, 1, 1), (1, .ifCond .lt 20, 3, 4), (4, .iload_n 1, 1, 5), (5, .aload_n 0, 1, 6), (6, .getfield 47, 3, 9), (9, .if_icmp .ge 12, 3, 12), (12, .aload_n 0, 1, 13), (13, .getfield 28, 3, 16), (16, .iload_n 1, 1, 17), (17, .iaload, 1, 18), (18, .goto 4, 3, 21), (21, .iconst (-1), 1, 22), (22, .ireturn, 1, 23)]
set_option maxRecDepth 100000 in
theorem TX3_borderOfWay : zchk (zMc mX3_borderOfWay) tX3_borderOfWay = true := by decide +kernel
theorem kX3_borderOfWay : zOK mX3_borderOfWay := ⟨zw804, zw70, by decide, by decide +kernel, by decide +kernel⟩
def mX3_firstOnward : zM := (yX3_firstOnward, prog_5_method_14_code, 3, (Option.some Jvm.ClassFile.FieldType.int), [])
def tX3_firstOnward : List (Nat × Instr × Nat × Nat) := [(0, .iconst 0, 1, 1), (1, .istore_n 2, 1, 2), (2, .iload_n 2, 1, 3), (3, .aload_n 0, 1, 4), (4, .getfield 44, 3, 7), (7, .if_icmp .ge 87, 3, 10), (10, .aload_n 0, 1, 11), (11, .getfield 31, 3, 14), (14, .iload_n 2, 1, 15), (15, .iaload, 1, 16), (16, .iload_n 1, 1, 17), (17, .if_icmp .ne 32, 3, 20), (20, .aload_n 0, 1, 21), (21, .getfield 25, 3, 24), (24, .aload_n 0, 1, 25), (25, .getfield 34, 3, 28), (28, .iload_n 2, 1, 29), (29, .iaload, 1, 30), (30, .iaload, 1, 31), (31, .aload_n 0, 1, 32), (32, .getfield 37, 3, 35), (35, .iload_n 2, 1, 36), (36, .iaload, 1, 37), (37, .iadd, 1, 38), (38, .aload_n 0, 1, 39), (39, .getfield 25, 3, 42), (42, .iload_n 1, 1, 43), (43, .iaload, 1, 44), (44, .if_icmp .ne 5, 3, 47), (47, .iload_n 2, 1, 48), (48, .ireturn, 1, 49), (49, .aload_n 0, 1, 50), (50, .getfield 34, 3, 53), (53, .iload_n 2, 1, 54), (54, .iaload, 1, 55), (55, .iload_n 1, 1, 56), (56, .if_icmp .ne 32, 3, 59), (59, .aload_n 0, 1, 60), (60, .getfield 25, 3, 63), (63, .aload_n 0, 1, 64), (64, .getfield 31, 3, 67), (67, .iload_n 2, 1, 68), (68, .iaload, 1, 69), (69, .iaload, 1, 70), (70, .aload_n 0, 1, 71), (71, .getfield 37, 3, 74), (74, .iload_n 2, 1, 75), (75, .iaload, 1, 76), (76, .iadd, 1, 77), (77, .aload_n 0, 1, 78), (78, .getfield 25, 3, 81), (81, .iload_n 1, 1, 82), (82, .iaload, 1, 83), (83, .if_icmp .ne 5, 3, 86), (86, .iload_n 2, 1, 87), (87, .ireturn, 1, 88), (88, .iinc 2 1, 3, 91), (91, .goto (-89), 3, 94), (94, .iconst (-1), 1, 95), (95, .ireturn, 1, 96)]
set_option maxRecDepth 100000 in
theorem TX3_firstOnward : zchk (zMc mX3_firstOnward) tX3_firstOnward = true := by decide +kernel
theorem kX3_firstOnward : zOK mX3_firstOnward := ⟨zw791, zw70, by decide, by decide +kernel, by decide +kernel⟩
def mX3_measureTo : zM := (yX3_measureTo, prog_5_method_15_code, 3, none, [])
def tX3_measureTo : List (Nat × Instr × Nat × Nat) := [(0, .iconst 0, 1, 1), (1, .istore_n 2, 1, 2), (2, .iload_n 2, 1, 3), (3, .aload_n 0, 1, 4), (4, .getfield 40, 3, 7), (7, .if_icmp .ge 26, 3, 10), (10, .aload_n 0, 1, 11), (11, .getfield 25, 3, 14), (14, .iload_n 2, 1, 15), (15, .iload_n 2, 1, 16), (16, .iload_n 1, 1, 17), (17, .if_icmp .ne 7, 3, 20), (20, .iconst 0, 1, 21), (21, .goto 5, 3, 24), (24, .ldc 74, 2, 26), (26, .iastore, 1, 27), (27, .iinc 2 1, 3, 30), (30, .goto (-28), 3, 33), (33, .aload_n 0, 1, 34), (34, .aload_n 0, 1, 35), (35, .getfield 25, 3, 38), (38, .iconst 0, 1, 39), (39, .invokevirtual 62, 3, 42), (42, .return_, 1, 43)]
set_option maxRecDepth 100000 in
theorem TX3_measureTo : zchk (zMc mX3_measureTo) tX3_measureTo = true := by decide +kernel
theorem kX3_measureTo : zOK mX3_measureTo := ⟨zw731, zw70, by decide, by decide +kernel, by decide +kernel⟩
def mX3_spread : zM := (yX3_spread, prog_5_method_16_code, 9, none, [])
def tX3_spread_0 : List (Nat × Instr × Nat × Nat) := [(0, .iconst 1, 1, 1), (1, .istore_n 3, 1, 2), (2, .iconst 0, 1, 3), (3, .istore 4, 2, 5), (5, .iload_n 3, 1, 6), (6, .ifCond .eq 124, 3, 9), (9, .iload 4, 2, 11), (11, .aload_n 0, 1, 12), (12, .getfield 40, 3, 15), (15, .if_icmp .ge 115, 3, 18), (18, .iconst 0, 1, 19), (19, .istore_n 3, 1, 20), (20, .iconst 0, 1, 21), (21, .istore 5, 2, 23), (23, .iload 5, 2, 25), (25, .aload_n 0, 1, 26), (26, .getfield 44, 3, 29), (29, .if_icmp .ge 95, 3, 32), (32, .aload_n 0, 1, 33), (33, .getfield 31, 3, 36), (36, .iload 5, 2, 38), (38, .iaload, 1, 39), (39, .istore 6, 2, 41), (41, .aload_n 0, 1, 42), (42, .getfield 34, 3, 45), (45, .iload 5, 2, 47), (47, .iaload, 1, 48), (48, .istore 7, 2, 50), (50, .aload_n 0, 1, 51), (51, .getfield 37, 3, 54), (54, .iload 5, 2, 56), (56, .iaload, 1, 57), (57, .iload_n 2, 1, 58), (58, .ishl, 1, 59), (59, .istore 8, 2, 61), (61, .aload_n 1, 1, 62), (62, .iload 6, 2, 64), (64, .iaload, 1, 65), (65, .iload 8, 2, 67), (67, .iadd, 1, 68), (68, .aload_n 1, 1, 69), (69, .iload 7, 2, 71), (71, .iaload, 1, 72), (72, .if_icmp .ge 19, 3, 75), (75, .aload_n 1, 1, 76), (76, .iload 7, 2, 78), (78, .aload_n 1, 1, 79), (79, .iload 6, 2, 81), (81, .iaload, 1, 82), (82, .iload 8, 2, 84), (84, .iadd, 1, 85), (85, .iastore, 1, 86), (86, .iconst 1, 1, 87), (87, .istore_n 3, 1, 88), (88, .goto 30, 3, 91), (91, .aload_n 1, 1, 92), (92, .iload 7, 2, 94), (94, .iaload, 1, 95), (95, .iload 8, 2, 97), (97, .iadd, 1, 98)]
set_option maxRecDepth 100000 in
theorem TX3_spread_0 : zchk (zMc mX3_spread) tX3_spread_0 = true := by decide +kernel
def tX3_spread_1 : List (Nat × Instr × Nat × Nat) := [(98, .aload_n 1, 1, 99), (99, .iload 6, 2, 101), (101, .iaload, 1, 102), (102, .if_icmp .ge 16, 3, 105), (105, .aload_n 1, 1, 106), (106, .iload 6, 2, 108), (108, .aload_n 1, 1, 109), (109, .iload 7, 2, 111), (111, .iaload, 1, 112), (112, .iload 8, 2, 114), (114, .iadd, 1, 115), (115, .iastore, 1, 116), (116, .iconst 1, 1, 117), (117, .istore_n 3, 1, 118), (118, .iinc 5 1, 3, 121), (121, .goto (-98), 3, 124), (124, .iinc 4 1, 3, 127), (127, .goto (-122), 3, 130), (130, .return_, 1, 131)]
set_option maxRecDepth 100000 in
theorem TX3_spread_1 : zchk (zMc mX3_spread) tX3_spread_1 = true := by decide +kernel
theorem kX3_spread : zOK mX3_spread := ⟨zw723, zw70, by decide, by decide +kernel, by decide +kernel⟩
def mX4_init : zM := (yX4_init, prog_6_method_1_code, 1, none, [])
def tX4_init : List (Nat × Instr × Nat × Nat) := [(0, .aload_n 0, 1, 1), (1, .invokespecial 3, 3, 4), (4, .aload_n 0, 1, 5), (5, .new 9, 3, 8), (8, .dup, 1, 9), (9, .invokespecial 11, 3, 12), (12, .putfield 12, 3, 15), (15, .aload_n 0, 1, 16), (16, .sipush 301, 3, 19), (19, .newarray .int, 2, 21), (21, .putfield 18, 3, 24), (24, .aload_n 0, 1, 25), (25, .iconst 0, 1, 26), (26, .putfield 22, 3, 29), (29, .aload_n 0, 1, 30), (30, .iconst 0, 1, 31), (31, .putfield 26, 3, 34), (34, .aload_n 0, 1, 35), (35, .iconst 0, 1, 36), (36, .putfield 29, 3, 39), (39, .aload_n 0, 1, 40), (40, .iconst 0, 1, 41), (41, .putfield 32, 3, 44), (44, .aload_n 0, 1, 45), (45, .iconst (-1), 1, 46), (46, .putfield 35, 3, 49), (49, .return_, 1, 50)]
set_option maxRecDepth 100000 in
theorem TX4_init : zchk (zMc mX4_init) tX4_init = true := by decide +kernel
theorem kX4_init : zOK mX4_init := ⟨zw122, zw66, by decide, by decide +kernel, by decide +kernel⟩
def mX4_reads : zM := (yX4_reads, prog_6_method_2_code, 4, (Option.some Jvm.ClassFile.FieldType.boolean), [])
def tX4_reads : List (Nat × Instr × Nat × Nat) := [(0, .aload_n 0, 1, 1), (1, .getfield 12, 3, 4), (4, .aload_n 1, 1, 5), (5, .iload_n 2, 1, 6), (6, .invokevirtual 38, 3, 9), (9, .aload_n 0, 1, 10), (10, .iconst 0, 1, 11), (11, .putfield 22, 3, 14), (14, .aload_n 0, 1, 15), (15, .iconst 0, 1, 16), (16, .putfield 26, 3, 19), (19, .aload_n 0, 1, 20), (20, .iconst 0, 1, 21), (21, .putfield 29, 3, 24), (24, .aload_n 0, 1, 25), (25, .iconst 0, 1, 26), (26, .putfield 32, 3, 29), (29, .aload_n 0, 1, 30), (30, .iconst (-1), 1, 31), (31, .putfield 35, 3, 34), (34, .iconst 1, 1, 35), (35, .istore_n 3, 1, 36), (36, .iload_n 3, 1, 37), (37, .bipush 13, 2, 39), (39, .if_icmp .gt 55, 3, 42), (42, .aload_n 0, 1, 43), (43, .iload_n 3, 1, 44), (44, .invokevirtual 42, 3, 47), (47, .ifCond .ne 5, 3, 50), (50, .iconst 0, 1, 51), (51, .ireturn, 1, 52), (52, .aload_n 0, 1, 53), (53, .invokevirtual 46, 3, 56), (56, .bipush (-21), 2, 58), (58, .if_icmp .ne 5, 3, 61), (61, .iconst 1, 1, 62), (62, .ireturn, 1, 63), (63, .aload_n 0, 1, 64), (64, .invokevirtual 46, 3, 67), (67, .bipush (-20), 2, 69), (69, .if_icmp .eq 9, 3, 72), (72, .aload_n 0, 1, 73), (73, .iconst 1, 1, 74), (74, .invokevirtual 50, 3, 77), (77, .ireturn, 1, 78), (78, .aload_n 0, 1, 79), (79, .dup, 1, 80), (80, .getfield 26, 3, 83), (83, .iconst 1, 1, 84), (84, .iadd, 1, 85), (85, .putfield 26, 3, 88), (88, .iinc 3 1, 3, 91), (91, .goto (-55), 3, 94), (94, .aload_n 0, 1, 95), (95, .iconst 3, 1, 96), (96, .invokevirtual 50, 3, 99), (99, .ireturn, 1, 100)]
set_option maxRecDepth 100000 in
theorem TX4_reads : zchk (zMc mX4_reads) tX4_reads = true := by decide +kernel
theorem kX4_reads : zOK mX4_reads := ⟨zw466, zw66, by decide, by decide +kernel, by decide +kernel⟩
def mX4_copyOfCode : zM := (yX4_copyOfCode, prog_6_method_3_code, 2, (Option.some (Jvm.ClassFile.FieldType.array Jvm.ClassFile.FieldType.int)), [])
def tX4_copyOfCode : List (Nat × Instr × Nat × Nat) := [(0, .aload_n 0, 1, 1), (1, .getfield 22, 3, 4), (4, .newarray .int, 2, 6), (6, .astore_n 1, 1, 7), (7, .aload_n 0, 1, 8), (8, .getfield 18, 3, 11), (11, .iconst 0, 1, 12), (12, .aload_n 1, 1, 13), (13, .iconst 0, 1, 14), (14, .aload_n 0, 1, 15), (15, .getfield 22, 3, 18), (18, .invokestatic 53, 3, 21), (21, .aload_n 1, 1, 22), (22, .areturn, 1, 23)]
set_option maxRecDepth 100000 in
theorem TX4_copyOfCode : zchk (zMc mX4_copyOfCode) tX4_copyOfCode = true := by decide +kernel
theorem kX4_copyOfCode : zOK mX4_copyOfCode := ⟨zw607, zw66, by decide, by decide +kernel, by decide +kernel⟩
def mX4_readsLine : zM := (yX4_readsLine, prog_6_method_4_code, 3, (Option.some Jvm.ClassFile.FieldType.boolean), [])
def tX4_readsLine_0 : List (Nat × Instr × Nat × Nat) := [(0, .aload_n 0, 1, 1), (1, .invokevirtual 46, 3, 4), (4, .istore_n 2, 1, 5), (5, .iload_n 2, 1, 6), (6, .iconst (-1), 1, 7), (7, .if_icmp .eq 15, 3, 10), (10, .iload_n 2, 1, 11), (11, .bipush (-2), 2, 13), (13, .if_icmp .eq 9, 3, 16), (16, .aload_n 0, 1, 17), (17, .iconst 1, 1, 18), (18, .invokevirtual 50, 3, 21), (21, .ireturn, 1, 22), (22, .iload_n 1, 1, 23), (23, .bipush 12, 2, 25), (25, .if_icmp .le 9, 3, 28), (28, .aload_n 0, 1, 29), (29, .iconst 3, 1, 30), (30, .invokevirtual 50, 3, 33), (33, .ireturn, 1, 34), (34, .aload_n 0, 1, 35), (35, .iload_n 2, 1, 36), (36, .invokevirtual 59, 3, 39), (39, .aload_n 0, 1, 40), (40, .dup, 1, 41), (41, .getfield 26, 3, 44), (44, .iconst 1, 1, 45), (45, .iadd, 1, 46), (46, .putfield 26, 3, 49), (49, .aload_n 0, 1, 50), (50, .invokevirtual 46, 3, 53), (53, .bipush (-3), 2, 55), (55, .if_icmp .ne 12, 3, 58), (58, .aload_n 0, 1, 59), (59, .invokevirtual 63, 3, 62), (62, .ifCond .ne 5, 3, 65), (65, .iconst 0, 1, 66), (66, .ireturn, 1, 67), (67, .aload_n 0, 1, 68), (68, .invokevirtual 46, 3, 71), (71, .bipush (-5), 2, 73), (73, .if_icmp .eq 9, 3, 76), (76, .aload_n 0, 1, 77), (77, .iconst 1, 1, 78), (78, .invokevirtual 50, 3, 81), (81, .ireturn, 1, 82), (82, .aload_n 0, 1, 83), (83, .dup, 1, 84), (84, .getfield 26, 3, 87), (87, .iconst 1, 1, 88), (88, .iadd, 1, 89), (89, .putfield 26, 3, 92), (92, .aload_n 0, 1, 93), (93, .iconst 0, 1, 94), (94, .invokevirtual 67, 3, 97), (97, .ifCond .ne 5, 3, 100), (100, .iconst 0, 1, 101), (101, .ireturn, 1, 102), (102, .aload_n 0, 1, 103), (103, .bipush (-5), 2, 105)]
set_option maxRecDepth 100000 in
theorem TX4_readsLine_0 : zchk (zMc mX4_readsLine) tX4_readsLine_0 = true := by decide +kernel
def tX4_readsLine_1 : List (Nat × Instr × Nat × Nat) := [(105, .invokevirtual 59, 3, 108), (108, .iconst 1, 1, 109), (109, .ireturn, 1, 110)]
set_option maxRecDepth 100000 in
theorem TX4_readsLine_1 : zchk (zMc mX4_readsLine) tX4_readsLine_1 = true := by decide +kernel
theorem kX4_readsLine : zOK mX4_readsLine := ⟨zw562, zw66, by decide, by decide +kernel, by decide +kernel⟩
def mX4_readsTests : zM := (yX4_readsTests, prog_6_method_5_code, 4, (Option.some Jvm.ClassFile.FieldType.boolean), [])
def tX4_readsTests_0 : List (Nat × Instr × Nat × Nat) := [(0, .iconst 1, 1, 1), (1, .istore_n 1, 1, 2), (2, .iload_n 1, 1, 3), (3, .iconst 5, 1, 4), (4, .if_icmp .gt 123, 3, 7), (7, .aload_n 0, 1, 8), (8, .dup, 1, 9), (9, .getfield 26, 3, 12), (12, .iconst 1, 1, 13), (13, .iadd, 1, 14), (14, .putfield 26, 3, 17), (17, .aload_n 0, 1, 18), (18, .invokevirtual 46, 3, 21), (21, .invokestatic 70, 3, 24), (24, .istore_n 2, 1, 25), (25, .iload_n 2, 1, 26), (26, .ifCond .eq 9, 3, 29), (29, .aload_n 0, 1, 30), (30, .iload_n 2, 1, 31), (31, .invokevirtual 50, 3, 34), (34, .ireturn, 1, 35), (35, .iload_n 1, 1, 36), (36, .iconst 4, 1, 37), (37, .if_icmp .le 9, 3, 40), (40, .aload_n 0, 1, 41), (41, .iconst 3, 1, 42), (42, .invokevirtual 50, 3, 45), (45, .ireturn, 1, 46), (46, .aload_n 0, 1, 47), (47, .iconst 0, 1, 48), (48, .invokevirtual 67, 3, 51), (51, .ifCond .ne 5, 3, 54), (54, .iconst 0, 1, 55), (55, .ireturn, 1, 56), (56, .aload_n 0, 1, 57), (57, .invokevirtual 46, 3, 60), (60, .istore_n 3, 1, 61), (61, .iload_n 3, 1, 62), (62, .bipush (-11), 2, 64), (64, .if_icmp .eq 21, 3, 67), (67, .iload_n 3, 1, 68), (68, .bipush (-12), 2, 70), (70, .if_icmp .eq 15, 3, 73), (73, .iload_n 3, 1, 74), (74, .bipush (-13), 2, 76), (76, .if_icmp .eq 9, 3, 79), (79, .aload_n 0, 1, 80), (80, .iconst 1, 1, 81), (81, .invokevirtual 50, 3, 84), (84, .ireturn, 1, 85), (85, .aload_n 0, 1, 86), (86, .dup, 1, 87), (87, .getfield 26, 3, 90), (90, .iconst 1, 1, 91), (91, .iadd, 1, 92), (92, .putfield 26, 3, 95), (95, .aload_n 0, 1, 96), (96, .iconst 0, 1, 97), (97, .invokevirtual 67, 3, 100), (100, .ifCond .ne 5, 3, 103)]
set_option maxRecDepth 100000 in
theorem TX4_readsTests_0 : zchk (zMc mX4_readsTests) tX4_readsTests_0 = true := by decide +kernel
def tX4_readsTests_1 : List (Nat × Instr × Nat × Nat) := [(103, .iconst 0, 1, 104), (104, .ireturn, 1, 105), (105, .aload_n 0, 1, 106), (106, .iload_n 3, 1, 107), (107, .invokevirtual 59, 3, 110), (110, .aload_n 0, 1, 111), (111, .invokevirtual 46, 3, 114), (114, .bipush (-4), 2, 116), (116, .if_icmp .eq 5, 3, 119), (119, .iconst 1, 1, 120), (120, .ireturn, 1, 121), (121, .iinc 1 1, 3, 124), (124, .goto (-122), 3, 127), (127, .aload_n 0, 1, 128), (128, .iconst 3, 1, 129), (129, .invokevirtual 50, 3, 132), (132, .ireturn, 1, 133)]
set_option maxRecDepth 100000 in
theorem TX4_readsTests_1 : zchk (zMc mX4_readsTests) tX4_readsTests_1 = true := by decide +kernel
theorem kX4_readsTests : zOK mX4_readsTests := ⟨zw578, zw66, by decide, by decide +kernel, by decide +kernel⟩
def mX4_readsSum : zM := (yX4_readsSum, prog_6_method_6_code, 4, (Option.some Jvm.ClassFile.FieldType.boolean), [])
def tX4_readsSum : List (Nat × Instr × Nat × Nat) := [(0, .aload_n 0, 1, 1), (1, .iload_n 1, 1, 2), (2, .invokevirtual 74, 3, 5), (5, .ifCond .ne 5, 3, 8), (8, .iconst 0, 1, 9), (9, .ireturn, 1, 10), (10, .iconst 0, 1, 11), (11, .istore_n 2, 1, 12), (12, .iload_n 2, 1, 13), (13, .bipush 60, 2, 15), (15, .if_icmp .gt 50, 3, 18), (18, .aload_n 0, 1, 19), (19, .invokevirtual 46, 3, 22), (22, .istore_n 3, 1, 23), (23, .iload_n 3, 1, 24), (24, .bipush (-14), 2, 26), (26, .if_icmp .eq 11, 3, 29), (29, .iload_n 3, 1, 30), (30, .bipush (-15), 2, 32), (32, .if_icmp .eq 5, 3, 35), (35, .iconst 1, 1, 36), (36, .ireturn, 1, 37), (37, .aload_n 0, 1, 38), (38, .invokevirtual 77, 3, 41), (41, .ifCond .eq 11, 3, 44), (44, .aload_n 0, 1, 45), (45, .iload_n 1, 1, 46), (46, .invokevirtual 74, 3, 49), (49, .ifCond .ne 5, 3, 52), (52, .iconst 0, 1, 53), (53, .ireturn, 1, 54), (54, .aload_n 0, 1, 55), (55, .iload_n 3, 1, 56), (56, .invokevirtual 59, 3, 59), (59, .iinc 2 1, 3, 62), (62, .goto (-50), 3, 65), (65, .aload_n 0, 1, 66), (66, .iconst 3, 1, 67), (67, .invokevirtual 50, 3, 70), (70, .ireturn, 1, 71)]
set_option maxRecDepth 100000 in
theorem TX4_readsSum : zchk (zMc mX4_readsSum) tX4_readsSum = true := by decide +kernel
theorem kX4_readsSum : zOK mX4_readsSum := ⟨zw585, zw66, by decide, by decide +kernel, by decide +kernel⟩
def mX4_readsTerm : zM := (yX4_readsTerm, prog_6_method_7_code, 4, (Option.some Jvm.ClassFile.FieldType.boolean), [])
def tX4_readsTerm : List (Nat × Instr × Nat × Nat) := [(0, .aload_n 0, 1, 1), (1, .iload_n 1, 1, 2), (2, .invokevirtual 80, 3, 5), (5, .ifCond .ne 5, 3, 8), (8, .iconst 0, 1, 9), (9, .ireturn, 1, 10), (10, .iconst 0, 1, 11), (11, .istore_n 2, 1, 12), (12, .iload_n 2, 1, 13), (13, .bipush 60, 2, 15), (15, .if_icmp .gt 50, 3, 18), (18, .aload_n 0, 1, 19), (19, .invokevirtual 46, 3, 22), (22, .istore_n 3, 1, 23), (23, .iload_n 3, 1, 24), (24, .bipush (-16), 2, 26), (26, .if_icmp .eq 11, 3, 29), (29, .iload_n 3, 1, 30), (30, .bipush (-17), 2, 32), (32, .if_icmp .eq 5, 3, 35), (35, .iconst 1, 1, 36), (36, .ireturn, 1, 37), (37, .aload_n 0, 1, 38), (38, .invokevirtual 77, 3, 41), (41, .ifCond .eq 11, 3, 44), (44, .aload_n 0, 1, 45), (45, .iload_n 1, 1, 46), (46, .invokevirtual 80, 3, 49), (49, .ifCond .ne 5, 3, 52), (52, .iconst 0, 1, 53), (53, .ireturn, 1, 54), (54, .aload_n 0, 1, 55), (55, .iload_n 3, 1, 56), (56, .invokevirtual 59, 3, 59), (59, .iinc 2 1, 3, 62), (62, .goto (-50), 3, 65), (65, .aload_n 0, 1, 66), (66, .iconst 3, 1, 67), (67, .invokevirtual 50, 3, 70), (70, .ireturn, 1, 71)]
set_option maxRecDepth 100000 in
theorem TX4_readsTerm : zchk (zMc mX4_readsTerm) tX4_readsTerm = true := by decide +kernel
theorem kX4_readsTerm : zOK mX4_readsTerm := ⟨zw589, zw66, by decide, by decide +kernel, by decide +kernel⟩
def mX4_readsOne : zM := (yX4_readsOne, prog_6_method_8_code, 4, (Option.some Jvm.ClassFile.FieldType.boolean), [])
def tX4_readsOne_0 : List (Nat × Instr × Nat × Nat) := [(0, .aload_n 0, 1, 1), (1, .invokevirtual 46, 3, 4), (4, .istore_n 2, 1, 5), (5, .iload_n 2, 1, 6), (6, .invokestatic 70, 3, 9), (9, .istore_n 3, 1, 10), (10, .iload_n 3, 1, 11), (11, .ifCond .eq 9, 3, 14), (14, .aload_n 0, 1, 15), (15, .iload_n 3, 1, 16), (16, .invokevirtual 50, 3, 19), (19, .ireturn, 1, 20), (20, .iload_n 2, 1, 21), (21, .bipush (-18), 2, 23), (23, .if_icmp .eq 20, 3, 26), (26, .aload_n 0, 1, 27), (27, .iload_n 2, 1, 28), (28, .invokevirtual 59, 3, 31), (31, .aload_n 0, 1, 32), (32, .dup, 1, 33), (33, .getfield 26, 3, 36), (36, .iconst 1, 1, 37), (37, .iadd, 1, 38), (38, .putfield 26, 3, 41), (41, .iconst 1, 1, 42), (42, .ireturn, 1, 43), (43, .iload_n 1, 1, 44), (44, .bipush 8, 2, 46), (46, .if_icmp .lt 9, 3, 49), (49, .aload_n 0, 1, 50), (50, .iconst 3, 1, 51), (51, .invokevirtual 50, 3, 54), (54, .ireturn, 1, 55), (55, .aload_n 0, 1, 56), (56, .dup, 1, 57), (57, .getfield 26, 3, 60), (60, .iconst 1, 1, 61), (61, .iadd, 1, 62), (62, .putfield 26, 3, 65), (65, .aload_n 0, 1, 66), (66, .iload_n 1, 1, 67), (67, .iconst 1, 1, 68), (68, .iadd, 1, 69), (69, .invokevirtual 67, 3, 72), (72, .ifCond .ne 5, 3, 75), (75, .iconst 0, 1, 76), (76, .ireturn, 1, 77), (77, .aload_n 0, 1, 78), (78, .invokevirtual 46, 3, 81), (81, .bipush (-19), 2, 83), (83, .if_icmp .eq 9, 3, 86), (86, .aload_n 0, 1, 87), (87, .iconst 1, 1, 88), (88, .invokevirtual 50, 3, 91), (91, .ireturn, 1, 92), (92, .aload_n 0, 1, 93), (93, .dup, 1, 94), (94, .getfield 26, 3, 97), (97, .iconst 1, 1, 98), (98, .iadd, 1, 99)]
set_option maxRecDepth 100000 in
theorem TX4_readsOne_0 : zchk (zMc mX4_readsOne) tX4_readsOne_0 = true := by decide +kernel
def tX4_readsOne_1 : List (Nat × Instr × Nat × Nat) := [(99, .putfield 26, 3, 102), (102, .iconst 1, 1, 103), (103, .ireturn, 1, 104)]
set_option maxRecDepth 100000 in
theorem TX4_readsOne_1 : zchk (zMc mX4_readsOne) tX4_readsOne_1 = true := by decide +kernel
theorem kX4_readsOne : zOK mX4_readsOne := ⟨zw593, zw66, by decide, by decide +kernel, by decide +kernel⟩
def mX4_passesSign : zM := (yX4_passesSign, prog_6_method_9_code, 1, (Option.some Jvm.ClassFile.FieldType.boolean), [])
def tX4_passesSign : List (Nat × Instr × Nat × Nat) := [(0, .aload_n 0, 1, 1), (1, .getfield 29, 3, 4), (4, .bipush 60, 2, 6), (6, .if_icmp .lt 9, 3, 9), (9, .aload_n 0, 1, 10), (10, .iconst 3, 1, 11), (11, .invokevirtual 50, 3, 14), (14, .ireturn, 1, 15), (15, .aload_n 0, 1, 16), (16, .dup, 1, 17), (17, .getfield 29, 3, 20), (20, .iconst 1, 1, 21), (21, .iadd, 1, 22), (22, .putfield 29, 3, 25), (25, .aload_n 0, 1, 26), (26, .dup, 1, 27), (27, .getfield 26, 3, 30), (30, .iconst 1, 1, 31), (31, .iadd, 1, 32), (32, .putfield 26, 3, 35), (35, .iconst 1, 1, 36), (36, .ireturn, 1, 37)]
set_option maxRecDepth 100000 in
theorem TX4_passesSign : zchk (zMc mX4_passesSign) tX4_passesSign = true := by decide +kernel
theorem kX4_passesSign : zOK mX4_passesSign := ⟨zw597, zw66, by decide, by decide +kernel, by decide +kernel⟩
def mX4_faultAsOne : zM := (yX4_faultAsOne, prog_6_method_10_code, 2, (Option.some Jvm.ClassFile.FieldType.int), [])
def tX4_faultAsOne : List (Nat × Instr × Nat × Nat) := [(0, .iload_n 0, 1, 1), (1, .bipush (-10), 2, 3), (3, .if_icmp .ne 5, 3, 6), (6, .iconst 2, 1, 7), (7, .ireturn, 1, 8), (8, .iload_n 0, 1, 9), (9, .bipush (-6), 2, 11), (11, .if_icmp .gt 13, 3, 14), (14, .iload_n 0, 1, 15), (15, .bipush (-9), 2, 17), (17, .if_icmp .lt 7, 3, 20), (20, .iconst 1, 1, 21), (21, .goto 4, 3, 24), (24, .iconst 0, 1, 25), (25, .istore_n 1, 1, 26), (26, .iload_n 0, 1, 27), (27, .ifCond .ge 13, 3, 30), (30, .iload_n 1, 1, 31), (31, .ifCond .ne 9, 3, 34), (34, .iload_n 0, 1, 35), (35, .bipush (-18), 2, 37), (37, .if_icmp .ne 7, 3, 40), (40, .iconst 0, 1, 41), (41, .goto 4, 3, 44), (44, .iconst 1, 1, 45), (45, .ireturn, 1, 46)]
set_option maxRecDepth 100000 in
theorem TX4_faultAsOne : zchk (zMc mX4_faultAsOne) tX4_faultAsOne = true := by decide +kernel
theorem kX4_faultAsOne : zOK mX4_faultAsOne := ⟨zw581, zw66, by decide, by decide +kernel, by decide +kernel⟩
def mX4_token : zM := (yX4_token, prog_6_method_11_code, 1, (Option.some Jvm.ClassFile.FieldType.int), [])
def tX4_token : List (Nat × Instr × Nat × Nat) := [(0, .aload_n 0, 1, 1), (1, .getfield 26, 3, 4), (4, .aload_n 0, 1, 5), (5, .getfield 12, 3, 8), (8, .getfield 83, 3, 11), (11, .if_icmp .ge 18, 3, 14), (14, .aload_n 0, 1, 15), (15, .getfield 12, 3, 18), (18, .getfield 84, 3, 21), (21, .aload_n 0, 1, 22), (22, .getfield 26, 3, 25), (25, .iaload, 1, 26), (26, .goto 5, 3, 29), (29, .bipush (-21), 2, 31), (31, .ireturn, 1, 32)]
set_option maxRecDepth 100000 in
theorem TX4_token : zchk (zMc mX4_token) tX4_token = true := by decide +kernel
theorem kX4_token : zOK mX4_token := ⟨zw566, zw66, by decide, by decide +kernel, by decide +kernel⟩
def mX4_fail : zM := (yX4_fail, prog_6_method_12_code, 2, (Option.some Jvm.ClassFile.FieldType.boolean), [])
def tX4_fail : List (Nat × Instr × Nat × Nat) := [(0, .aload_n 0, 1, 1), (1, .iload_n 1, 1, 2), (2, .putfield 32, 3, 5), (5, .aload_n 0, 1, 6), (6, .aload_n 0, 1, 7), (7, .getfield 26, 3, 10), (10, .aload_n 0, 1, 11), (11, .getfield 12, 3, 14), (14, .getfield 83, 3, 17), (17, .if_icmp .ge 18, 3, 20), (20, .aload_n 0, 1, 21), (21, .getfield 12, 3, 24), (24, .getfield 87, 3, 27), (27, .aload_n 0, 1, 28), (28, .getfield 26, 3, 31), (31, .iaload, 1, 32), (32, .goto 4, 3, 35), (35, .iconst (-1), 1, 36), (36, .putfield 35, 3, 39), (39, .iconst 0, 1, 40), (40, .ireturn, 1, 41)]
set_option maxRecDepth 100000 in
theorem TX4_fail : zchk (zMc mX4_fail) tX4_fail = true := by decide +kernel
theorem kX4_fail : zOK mX4_fail := ⟨zw570, zw66, by decide, by decide +kernel, by decide +kernel⟩
def mX4_write : zM := (yX4_write, prog_6_method_13_code, 2, none, [])
def tX4_write : List (Nat × Instr × Nat × Nat) := [(0, .aload_n 0, 1, 1), (1, .getfield 22, 3, 4), (4, .aload_n 0, 1, 5), (5, .getfield 18, 3, 8), (8, .arraylength, 1, 9), (9, .if_icmp .ge 23, 3, 12), (12, .aload_n 0, 1, 13), (13, .getfield 18, 3, 16), (16, .aload_n 0, 1, 17), (17, .getfield 22, 3, 20), (20, .iload_n 1, 1, 21), (21, .iastore, 1, 22), (22, .aload_n 0, 1, 23), (23, .dup, 1, 24), (24, .getfield 22, 3, 27), (27, .iconst 1, 1, 28), (28, .iadd, 1, 29), (29, .putfield 22, 3, 32), (32, .return_, 1, 33)]
set_option maxRecDepth 100000 in
theorem TX4_write : zchk (zMc mX4_write) tX4_write = true := by decide +kernel
theorem kX4_write : zOK mX4_write := ⟨zw574, zw66, by decide, by decide +kernel, by decide +kernel⟩
def mX5_init : zM := (yX5_init, prog_7_method_1_code, 3, none, [])
def tX5_init : List (Nat × Instr × Nat × Nat) := [(0, .aload_n 0, 1, 1), (1, .invokespecial 3, 3, 4), (4, .aload_n 0, 1, 5), (5, .bipush 100, 2, 7), (7, .newarray .int, 2, 9), (9, .putfield 9, 3, 12), (12, .aload_n 0, 1, 13), (13, .bipush 100, 2, 15), (15, .newarray .int, 2, 17), (17, .putfield 15, 3, 20), (20, .aload_n 0, 1, 21), (21, .iconst 0, 1, 22), (22, .putfield 18, 3, 25), (25, .aload_n 0, 1, 26), (26, .iload_n 1, 1, 27), (27, .putfield 22, 3, 30), (30, .aload_n 0, 1, 31), (31, .iload_n 2, 1, 32), (32, .putfield 25, 3, 35), (35, .return_, 1, 36)]
set_option maxRecDepth 100000 in
theorem TX5_init : zchk (zMc mX5_init) tX5_init = true := by decide +kernel
theorem kX5_init : zOK mX5_init := ⟨zw351, zw78, by decide, by decide +kernel, by decide +kernel⟩
def mX5_forgetFrom : zM := (yX5_forgetFrom, prog_7_method_2_code, 2, none, [])
def tX5_forgetFrom : List (Nat × Instr × Nat × Nat) := [(0, .aload_n 0, 1, 1), (1, .aload_n 0, 1, 2), (2, .getfield 18, 3, 5), (5, .iload_n 1, 1, 6), (6, .invokestatic 28, 3, 9), (9, .putfield 18, 3, 12), (12, .return_, 1, 13)]
set_option maxRecDepth 100000 in
theorem TX5_forgetFrom : zchk (zMc mX5_forgetFrom) tX5_forgetFrom = true := by decide +kernel
theorem kX5_forgetFrom : zOK mX5_forgetFrom := ⟨zw401, zw78, by decide, by decide +kernel, by decide +kernel⟩
def mX6_init : zM := (yX6_init, prog_8_method_1_code, 1, none, [])
def tX6_init : List (Nat × Instr × Nat × Nat) := [(0, .aload_n 0, 1, 1), (1, .invokespecial 3, 3, 4), (4, .aload_n 0, 1, 5), (5, .bipush 32, 2, 7), (7, .newarray .int, 2, 9), (9, .putfield 11, 3, 12), (12, .aload_n 0, 1, 13), (13, .iconst 0, 1, 14), (14, .putfield 15, 3, 17), (17, .aload_n 0, 1, 18), (18, .iconst 0, 1, 19), (19, .putfield 19, 3, 22), (22, .aload_n 0, 1, 23), (23, .iconst 0, 1, 24), (24, .putfield 22, 3, 27), (27, .aload_n 0, 1, 28), (28, .iconst 0, 1, 29), (29, .putfield 25, 3, 32), (32, .aload_n 0, 1, 33), (33, .iconst 0, 1, 34), (34, .putfield 28, 3, 37), (37, .return_, 1, 38)]
set_option maxRecDepth 100000 in
theorem TX6_init : zchk (zMc mX6_init) tX6_init = true := by decide +kernel
theorem kX6_init : zOK mX6_init := ⟨zw180, zw69, by decide, by decide +kernel, by decide +kernel⟩
def mX6_tell : zM := (yX6_tell, prog_8_method_2_code, 6, (Option.some Jvm.ClassFile.FieldType.int), [])
def tX6_tell : List (Nat × Instr × Nat × Nat) := [(0, .iconst 0, 1, 1), (1, .istore_n 3, 1, 2), (2, .aload_n 0, 1, 3), (3, .iconst 0, 1, 4), (4, .putfield 15, 3, 7), (7, .iconst 0, 1, 8), (8, .istore 4, 2, 10), (10, .iload 4, 2, 12), (12, .aload_n 1, 1, 13), (13, .arraylength, 1, 14), (14, .if_icmp .ge 70, 3, 17), (17, .aload_n 1, 1, 18), (18, .iload 4, 2, 20), (20, .iaload, 1, 21), (21, .istore 5, 2, 23), (23, .iload 5, 2, 25), (25, .iconst (-1), 1, 26), (26, .if_icmp .eq 10, 3, 29), (29, .iload 5, 2, 31), (31, .bipush (-2), 2, 33), (33, .if_icmp .ne 18, 3, 36), (36, .iload 5, 2, 38), (38, .iload_n 2, 1, 39), (39, .if_icmp .ne 7, 3, 42), (42, .iconst 1, 1, 43), (43, .goto 4, 3, 46), (46, .iconst 0, 1, 47), (47, .istore_n 3, 1, 48), (48, .goto 30, 3, 51), (51, .iload_n 3, 1, 52), (52, .ifCond .eq 15, 3, 55), (55, .iload 5, 2, 57), (57, .bipush (-5), 2, 59), (59, .if_icmp .ne 8, 3, 62), (62, .aload_n 0, 1, 63), (63, .invokevirtual 33, 3, 66), (66, .ireturn, 1, 67), (67, .iload_n 3, 1, 68), (68, .ifCond .eq 10, 3, 71), (71, .aload_n 0, 1, 72), (72, .iload 5, 2, 74), (74, .invokevirtual 37, 3, 77), (77, .istore_n 3, 1, 78), (78, .iinc 4 1, 3, 81), (81, .goto (-71), 3, 84), (84, .iconst 0, 1, 85), (85, .ireturn, 1, 86)]
set_option maxRecDepth 100000 in
theorem TX6_tell : zchk (zMc mX6_tell) tX6_tell = true := by decide +kernel
theorem kX6_tell : zOK mX6_tell := ⟨zw665, zw69, by decide, by decide +kernel, by decide +kernel⟩
def mX6_step : zM := (yX6_step, prog_8_method_3_code, 4, (Option.some Jvm.ClassFile.FieldType.boolean), [])
def tX6_step : List (Nat × Instr × Nat × Nat) := [(0, .iload_n 1, 1, 1), (1, .ifCond .lt 10, 3, 4), (4, .aload_n 0, 1, 5), (5, .iload_n 1, 1, 6), (6, .invokevirtual 41, 3, 9), (9, .iconst 1, 1, 10), (10, .ireturn, 1, 11), (11, .iload_n 1, 1, 12), (12, .bipush (-6), 2, 14), (14, .if_icmp .gt 20, 3, 17), (17, .iload_n 1, 1, 18), (18, .bipush (-9), 2, 20), (20, .if_icmp .lt 14, 3, 23), (23, .aload_n 0, 1, 24), (24, .aload_n 0, 1, 25), (25, .iload_n 1, 1, 26), (26, .invokevirtual 45, 3, 29), (29, .invokevirtual 41, 3, 32), (32, .iconst 1, 1, 33), (33, .ireturn, 1, 34), (34, .aload_n 0, 1, 35), (35, .invokevirtual 33, 3, 38), (38, .istore_n 2, 1, 39), (39, .aload_n 0, 1, 40), (40, .invokevirtual 33, 3, 43), (43, .istore_n 3, 1, 44), (44, .iload_n 1, 1, 45), (45, .bipush (-11), 2, 47), (47, .if_icmp .gt 16, 3, 50), (50, .iload_n 1, 1, 51), (51, .bipush (-13), 2, 53), (53, .if_icmp .lt 10, 3, 56), (56, .iload_n 1, 1, 57), (57, .iload_n 3, 1, 58), (58, .iload_n 2, 1, 59), (59, .invokestatic 49, 3, 62), (62, .ireturn, 1, 63), (63, .aload_n 0, 1, 64), (64, .iload_n 1, 1, 65), (65, .iload_n 3, 1, 66), (66, .i2l, 1, 67), (67, .iload_n 2, 1, 68), (68, .i2l, 1, 69), (69, .invokestatic 53, 3, 72), (72, .ldc 57, 2, 74), (74, .ldc 58, 2, 76), (76, .invokestatic 59, 3, 79), (79, .invokevirtual 41, 3, 82), (82, .iconst 1, 1, 83), (83, .ireturn, 1, 84)]
set_option maxRecDepth 100000 in
theorem TX6_step : zchk (zMc mX6_step) tX6_step = true := by decide +kernel
theorem kX6_step : zOK mX6_step := ⟨zw673, zw69, by decide, by decide +kernel, by decide +kernel⟩
def mX6_named : zM := (yX6_named, prog_8_method_4_code, 2, (Option.some Jvm.ClassFile.FieldType.int), [])
def tX6_named : List (Nat × Instr × Nat × Nat) := [(0, .iload_n 1, 1, 1), (1, .tableswitch 42 (-8) (-6) #[37, 32, 27], 27, 28), (28, .aload_n 0, 1, 29), (29, .getfield 19, 3, 32), (32, .ireturn, 1, 33), (33, .aload_n 0, 1, 34), (34, .getfield 22, 3, 37), (37, .ireturn, 1, 38), (38, .aload_n 0, 1, 39), (39, .getfield 25, 3, 42), (42, .ireturn, 1, 43), (43, .aload_n 0, 1, 44), (44, .getfield 28, 3, 47), (47, .ireturn, 1, 48)]
set_option maxRecDepth 100000 in
theorem TX6_named : zchk (zMc mX6_named) tX6_named = true := by decide +kernel
theorem kX6_named : zOK mX6_named := ⟨zw681, zw69, by decide, by decide +kernel, by decide +kernel⟩
def mX6_compares : zM := (yX6_compares, prog_8_method_5_code, 3, (Option.some Jvm.ClassFile.FieldType.boolean), [])
def tX6_compares : List (Nat × Instr × Nat × Nat) := [(0, .iload_n 0, 1, 1), (1, .lookupswitch 49 #[(-12, 38), (-11, 27)], 27, 28), (28, .iload_n 1, 1, 29), (29, .iload_n 2, 1, 30), (30, .if_icmp .ge 7, 3, 33), (33, .iconst 1, 1, 34), (34, .goto 4, 3, 37), (37, .iconst 0, 1, 38), (38, .ireturn, 1, 39), (39, .iload_n 1, 1, 40), (40, .iload_n 2, 1, 41), (41, .if_icmp .le 7, 3, 44), (44, .iconst 1, 1, 45), (45, .goto 4, 3, 48), (48, .iconst 0, 1, 49), (49, .ireturn, 1, 50), (50, .iload_n 1, 1, 51), (51, .iload_n 2, 1, 52), (52, .if_icmp .ne 7, 3, 55), (55, .iconst 1, 1, 56), (56, .goto 4, 3, 59), (59, .iconst 0, 1, 60), (60, .ireturn, 1, 61)]
set_option maxRecDepth 100000 in
theorem TX6_compares : zchk (zMc mX6_compares) tX6_compares = true := by decide +kernel
theorem kX6_compares : zOK mX6_compares := ⟨zw684, zw69, by decide, by decide +kernel, by decide +kernel⟩
def mX6_joined : zM := (yX6_joined, prog_8_method_6_code, 5, (Option.some Jvm.ClassFile.FieldType.long), [])
def tX6_joined : List (Nat × Instr × Nat × Nat) := [(0, .iload_n 0, 1, 1), (1, .tableswitch 39 (-16) (-14) #[35, 31, 27], 27, 28), (28, .lload_n 1, 1, 29), (29, .lload_n 3, 1, 30), (30, .ladd, 1, 31), (31, .lreturn, 1, 32), (32, .lload_n 1, 1, 33), (33, .lload_n 3, 1, 34), (34, .lsub, 1, 35), (35, .lreturn, 1, 36), (36, .lload_n 1, 1, 37), (37, .lload_n 3, 1, 38), (38, .lmul, 1, 39), (39, .lreturn, 1, 40), (40, .lload_n 3, 1, 41), (41, .lconst 0, 1, 42), (42, .lcmp, 1, 43), (43, .ifCond .ne 7, 3, 46), (46, .lconst 0, 1, 47), (47, .goto 6, 3, 50), (50, .lload_n 1, 1, 51), (51, .lload_n 3, 1, 52), (52, .ldiv, 1, 53), (53, .lreturn, 1, 54)]
set_option maxRecDepth 100000 in
theorem TX6_joined : zchk (zMc mX6_joined) tX6_joined = true := by decide +kernel
theorem kX6_joined : zOK mX6_joined := ⟨zw687, zw69, by decide, by decide +kernel, by decide +kernel⟩
def mX6_push : zM := (yX6_push, prog_8_method_7_code, 2, none, [])
def tX6_push : List (Nat × Instr × Nat × Nat) := [(0, .aload_n 0, 1, 1), (1, .getfield 15, 3, 4), (4, .aload_n 0, 1, 5), (5, .getfield 11, 3, 8), (8, .arraylength, 1, 9), (9, .if_icmp .ge 23, 3, 12), (12, .aload_n 0, 1, 13), (13, .getfield 11, 3, 16), (16, .aload_n 0, 1, 17), (17, .getfield 15, 3, 20), (20, .iload_n 1, 1, 21), (21, .iastore, 1, 22), (22, .aload_n 0, 1, 23), (23, .dup, 1, 24), (24, .getfield 15, 3, 27), (27, .iconst 1, 1, 28), (28, .iadd, 1, 29), (29, .putfield 15, 3, 32), (32, .return_, 1, 33)]
set_option maxRecDepth 100000 in
theorem TX6_push : zchk (zMc mX6_push) tX6_push = true := by decide +kernel
theorem kX6_push : zOK mX6_push := ⟨zw677, zw69, by decide, by decide +kernel, by decide +kernel⟩
def mX6_pop : zM := (yX6_pop, prog_8_method_8_code, 1, (Option.some Jvm.ClassFile.FieldType.int), [])
def tX6_pop : List (Nat × Instr × Nat × Nat) := [(0, .aload_n 0, 1, 1), (1, .getfield 15, 3, 4), (4, .ifCond .gt 5, 3, 7), (7, .iconst 0, 1, 8), (8, .ireturn, 1, 9), (9, .aload_n 0, 1, 10), (10, .dup, 1, 11), (11, .getfield 15, 3, 14), (14, .iconst 1, 1, 15), (15, .isub, 1, 16), (16, .putfield 15, 3, 19), (19, .aload_n 0, 1, 20), (20, .getfield 11, 3, 23), (23, .aload_n 0, 1, 24), (24, .getfield 15, 3, 27), (27, .iaload, 1, 28), (28, .ireturn, 1, 29)]
set_option maxRecDepth 100000 in
theorem TX6_pop : zchk (zMc mX6_pop) tX6_pop = true := by decide +kernel
theorem kX6_pop : zOK mX6_pop := ⟨zw669, zw69, by decide, by decide +kernel, by decide +kernel⟩
def mX7_init : zM := (yX7_init, prog_9_method_1_code, 2, none, [])
def tX7_init : List (Nat × Instr × Nat × Nat) := [(0, .aload_n 0, 1, 1), (1, .invokespecial 1, 3, 4), (4, .aload_n 0, 1, 5), (5, .iconst 0, 1, 6), (6, .putfield 7, 3, 9), (9, .aload_n 0, 1, 10), (10, .iconst 0, 1, 11), (11, .putfield 13, 3, 14), (14, .aload_n 0, 1, 15), (15, .iconst 0, 1, 16), (16, .putfield 16, 3, 19), (19, .aload_n 0, 1, 20), (20, .iconst 0, 1, 21), (21, .putfield 19, 3, 24), (24, .aload_n 0, 1, 25), (25, .lconst 0, 1, 26), (26, .putfield 23, 3, 29), (29, .aload_n 0, 1, 30), (30, .iload_n 1, 1, 31), (31, .putfield 27, 3, 34), (34, .return_, 1, 35)]
set_option maxRecDepth 100000 in
theorem TX7_init : zchk (zMc mX7_init) tX7_init = true := by decide +kernel
theorem kX7_init : zOK mX7_init := ⟨zw856, zw87, by decide, by decide +kernel, by decide +kernel⟩
def mX7_missingThisYear : zM := (yX7_missingThisYear, prog_9_method_2_code, 1, (Option.some Jvm.ClassFile.FieldType.int), [])
def tX7_missingThisYear : List (Nat × Instr × Nat × Nat) := [(0, .aload_n 0, 1, 1), (1, .getfield 27, 3, 4), (4, .aload_n 0, 1, 5), (5, .getfield 7, 3, 8), (8, .iadd, 1, 9), (9, .aload_n 0, 1, 10), (10, .getfield 13, 3, 13), (13, .isub, 1, 14), (14, .aload_n 0, 1, 15), (15, .getfield 16, 3, 18), (18, .isub, 1, 19), (19, .ireturn, 1, 20)]
set_option maxRecDepth 100000 in
theorem TX7_missingThisYear : zchk (zMc mX7_missingThisYear) tX7_missingThisYear = true := by decide +kernel
theorem kX7_missingThisYear : zOK mX7_missingThisYear := ⟨zw847, zw87, by decide, by decide +kernel, by decide +kernel⟩
def mX7_closeYear : zM := (yX7_closeYear, prog_9_method_3_code, 1, none, [])
def tX7_closeYear : List (Nat × Instr × Nat × Nat) := [(0, .aload_n 0, 1, 1), (1, .dup, 1, 2), (2, .getfield 23, 3, 5), (5, .aload_n 0, 1, 6), (6, .invokevirtual 30, 3, 9), (9, .i2l, 1, 10), (10, .ladd, 1, 11), (11, .putfield 23, 3, 14), (14, .aload_n 0, 1, 15), (15, .aload_n 0, 1, 16), (16, .getfield 16, 3, 19), (19, .putfield 27, 3, 22), (22, .aload_n 0, 1, 23), (23, .iconst 0, 1, 24), (24, .putfield 7, 3, 27), (27, .aload_n 0, 1, 28), (28, .iconst 0, 1, 29), (29, .putfield 13, 3, 32), (32, .aload_n 0, 1, 33), (33, .iconst 0, 1, 34), (34, .putfield 19, 3, 37), (37, .return_, 1, 38)]
set_option maxRecDepth 100000 in
theorem TX7_closeYear : zchk (zMc mX7_closeYear) tX7_closeYear = true := by decide +kernel
theorem kX7_closeYear : zOK mX7_closeYear := ⟨zw843, zw87, by decide, by decide +kernel, by decide +kernel⟩
def mX8_init : zM := (yX8_init, prog_10_method_1_code, 1, none, [])
def tX8_init : List (Nat × Instr × Nat × Nat) := [(0, .aload_n 0, 1, 1), (1, .invokespecial 3, 3, 4), (4, .aload_n 0, 1, 5), (5, .sipush 300, 3, 8), (8, .newarray .byte, 2, 10), (10, .putfield 9, 3, 13), (13, .aload_n 0, 1, 14), (14, .iconst 0, 1, 15), (15, .putfield 15, 3, 18), (18, .return_, 1, 19)]
set_option maxRecDepth 100000 in
theorem TX8_init : zchk (zMc mX8_init) tX8_init = true := by decide +kernel
theorem kX8_init : zOK mX8_init := ⟨zw106, zw65, by decide, by decide +kernel, by decide +kernel⟩
def mX8_hasRoom : zM := (yX8_hasRoom, prog_10_method_2_code, 1, (Option.some Jvm.ClassFile.FieldType.boolean), [])
def tX8_hasRoom : List (Nat × Instr × Nat × Nat) := [(0, .aload_n 0, 1, 1), (1, .getfield 15, 3, 4), (4, .bipush 20, 2, 6), (6, .iadd, 1, 7), (7, .sipush 300, 3, 10), (10, .if_icmp .gt 7, 3, 13), (13, .iconst 1, 1, 14), (14, .goto 4, 3, 17), (17, .iconst 0, 1, 18), (18, .ireturn, 1, 19)]
set_option maxRecDepth 100000 in
theorem TX8_hasRoom : zchk (zMc mX8_hasRoom) tX8_hasRoom = true := by decide +kernel
theorem kX8_hasRoom : zOK mX8_hasRoom := ⟨zw454, zw65, by decide, by decide +kernel, by decide +kernel⟩
def mX8_append : zM := (yX8_append, prog_10_method_3_code, 3, none, [])
def tX8_append : List (Nat × Instr × Nat × Nat) := [(0, .bipush 24, 2, 2), (2, .istore_n 2, 1, 3), (3, .iload_n 2, 1, 4), (4, .ifCond .lt 42, 3, 7), (7, .aload_n 0, 1, 8), (8, .getfield 15, 3, 11), (11, .sipush 300, 3, 14), (14, .if_icmp .ge 32, 3, 17), (17, .aload_n 0, 1, 18), (18, .getfield 9, 3, 21), (21, .aload_n 0, 1, 22), (22, .getfield 15, 3, 25), (25, .iload_n 1, 1, 26), (26, .iload_n 2, 1, 27), (27, .ishr, 1, 28), (28, .i2b, 1, 29), (29, .bastore, 1, 30), (30, .aload_n 0, 1, 31), (31, .dup, 1, 32), (32, .getfield 15, 3, 35), (35, .iconst 1, 1, 36), (36, .iadd, 1, 37), (37, .putfield 15, 3, 40), (40, .iinc 2 (-8), 3, 43), (43, .goto (-40), 3, 46), (46, .return_, 1, 47)]
set_option maxRecDepth 100000 in
theorem TX8_append : zchk (zMc mX8_append) tX8_append = true := by decide +kernel
theorem kX8_append : zOK mX8_append := ⟨zw458, zw65, by decide, by decide +kernel, by decide +kernel⟩
def mX9_init : zM := (yX9_init, prog_11_method_1_code, 1, none, [])
def tX9_init : List (Nat × Instr × Nat × Nat) := [(0, .aload_n 0, 1, 1), (1, .invokespecial 3, 3, 4), (4, .aload_n 0, 1, 5), (5, .sipush 301, 3, 8), (8, .newarray .int, 2, 10), (10, .putfield 9, 3, 13), (13, .aload_n 0, 1, 14), (14, .sipush 301, 3, 17), (17, .newarray .int, 2, 19), (19, .putfield 15, 3, 22), (22, .aload_n 0, 1, 23), (23, .iconst 0, 1, 24), (24, .putfield 18, 3, 27), (27, .return_, 1, 28)]
set_option maxRecDepth 100000 in
theorem TX9_init : zchk (zMc mX9_init) tX9_init = true := by decide +kernel
theorem kX9_init : zOK mX9_init := ⟨zw128, zw67, by decide, by decide +kernel, by decide +kernel⟩
def mX9_scan : zM := (yX9_scan, prog_11_method_2_code, 7, none, [])
def tX9_scan : List (Nat × Instr × Nat × Nat) := [(0, .aload_n 0, 1, 1), (1, .iconst 0, 1, 2), (2, .putfield 18, 3, 5), (5, .iconst 0, 1, 6), (6, .istore_n 3, 1, 7), (7, .iconst 0, 1, 8), (8, .istore 4, 2, 10), (10, .iload 4, 2, 12), (12, .iload_n 2, 1, 13), (13, .if_icmp .ge 57, 3, 16), (16, .iload_n 3, 1, 17), (17, .iload_n 2, 1, 18), (18, .if_icmp .ge 52, 3, 21), (21, .aload_n 1, 1, 22), (22, .iload_n 3, 1, 23), (23, .iload_n 2, 1, 24), (24, .invokestatic 22, 3, 27), (27, .istore 5, 2, 29), (29, .aload_n 1, 1, 30), (30, .iload_n 3, 1, 31), (31, .baload, 1, 32), (32, .bipush 32, 2, 34), (34, .if_icmp .eq 27, 3, 37), (37, .aload_n 1, 1, 38), (38, .iload_n 3, 1, 39), (39, .iload 5, 2, 41), (41, .invokestatic 26, 3, 44), (44, .istore 6, 2, 46), (46, .aload_n 0, 1, 47), (47, .iload 6, 2, 49), (49, .iload_n 3, 1, 50), (50, .invokevirtual 29, 3, 53), (53, .iload 6, 2, 55), (55, .bipush (-22), 2, 57), (57, .if_icmp .ne 4, 3, 60), (60, .return_, 1, 61), (61, .iload 5, 2, 63), (63, .istore_n 3, 1, 64), (64, .iinc 4 1, 3, 67), (67, .goto (-57), 3, 70), (70, .aload_n 0, 1, 71), (71, .bipush (-21), 2, 73), (73, .iload_n 2, 1, 74), (74, .invokevirtual 29, 3, 77), (77, .return_, 1, 78)]
set_option maxRecDepth 100000 in
theorem TX9_scan : zchk (zMc mX9_scan) tX9_scan = true := by decide +kernel
theorem kX9_scan : zOK mX9_scan := ⟨zw470, zw67, by decide, by decide +kernel, by decide +kernel⟩
def mX9_add : zM := (yX9_add, prog_11_method_3_code, 3, none, [])
def tX9_add : List (Nat × Instr × Nat × Nat) := [(0, .aload_n 0, 1, 1), (1, .getfield 18, 3, 4), (4, .aload_n 0, 1, 5), (5, .getfield 9, 3, 8), (8, .arraylength, 1, 9), (9, .if_icmp .ge 33, 3, 12), (12, .aload_n 0, 1, 13), (13, .getfield 9, 3, 16), (16, .aload_n 0, 1, 17), (17, .getfield 18, 3, 20), (20, .iload_n 1, 1, 21), (21, .iastore, 1, 22), (22, .aload_n 0, 1, 23), (23, .getfield 15, 3, 26), (26, .aload_n 0, 1, 27), (27, .getfield 18, 3, 30), (30, .iload_n 2, 1, 31), (31, .iastore, 1, 32), (32, .aload_n 0, 1, 33), (33, .dup, 1, 34), (34, .getfield 18, 3, 37), (37, .iconst 1, 1, 38), (38, .iadd, 1, 39), (39, .putfield 18, 3, 42), (42, .return_, 1, 43)]
set_option maxRecDepth 100000 in
theorem TX9_add : zchk (zMc mX9_add) tX9_add = true := by decide +kernel
theorem kX9_add : zOK mX9_add := ⟨zw558, zw67, by decide, by decide +kernel, by decide +kernel⟩
def mX9_endOfRun : zM := (yX9_endOfRun, prog_11_method_4_code, 4, (Option.some Jvm.ClassFile.FieldType.int), [])
def tX9_endOfRun : List (Nat × Instr × Nat × Nat) := [(0, .iload_n 1, 1, 1), (1, .iconst 1, 1, 2), (2, .iadd, 1, 3), (3, .istore_n 3, 1, 4), (4, .aload_n 0, 1, 5), (5, .iload_n 1, 1, 6), (6, .baload, 1, 7), (7, .invokestatic 33, 3, 10), (10, .ifCond .eq 23, 3, 13), (13, .iload_n 3, 1, 14), (14, .iload_n 2, 1, 15), (15, .if_icmp .ge 47, 3, 18), (18, .aload_n 0, 1, 19), (19, .iload_n 3, 1, 20), (20, .baload, 1, 21), (21, .invokestatic 33, 3, 24), (24, .ifCond .eq 38, 3, 27), (27, .iinc 3 1, 3, 30), (30, .goto (-17), 3, 33), (33, .aload_n 0, 1, 34), (34, .iload_n 1, 1, 35), (35, .baload, 1, 36), (36, .invokestatic 37, 3, 39), (39, .ifCond .eq 23, 3, 42), (42, .iload_n 3, 1, 43), (43, .iload_n 2, 1, 44), (44, .if_icmp .ge 18, 3, 47), (47, .aload_n 0, 1, 48), (48, .iload_n 3, 1, 49), (49, .baload, 1, 50), (50, .invokestatic 37, 3, 53), (53, .ifCond .eq 9, 3, 56), (56, .iinc 3 1, 3, 59), (59, .goto (-17), 3, 62), (62, .iload_n 3, 1, 63), (63, .ireturn, 1, 64)]
set_option maxRecDepth 100000 in
theorem TX9_endOfRun : zchk (zMc mX9_endOfRun) tX9_endOfRun = true := by decide +kernel
theorem kX9_endOfRun : zOK mX9_endOfRun := ⟨zw473, zw67, by decide, by decide +kernel, by decide +kernel⟩
def mX9_tokenOf : zM := (yX9_tokenOf, prog_11_method_5_code, 3, (Option.some Jvm.ClassFile.FieldType.int), [])
def tX9_tokenOf : List (Nat × Instr × Nat × Nat) := [(0, .aload_n 0, 1, 1), (1, .iload_n 1, 1, 2), (2, .baload, 1, 3), (3, .invokestatic 33, 3, 6), (6, .ifCond .eq 23, 3, 9), (9, .iload_n 2, 1, 10), (10, .iload_n 1, 1, 11), (11, .isub, 1, 12), (12, .bipush 8, 2, 14), (14, .if_icmp .le 8, 3, 17), (17, .bipush (-22), 2, 19), (19, .goto 9, 3, 22), (22, .aload_n 0, 1, 23), (23, .iload_n 1, 1, 24), (24, .iload_n 2, 1, 25), (25, .invokestatic 40, 3, 28), (28, .ireturn, 1, 29), (29, .aload_n 0, 1, 30), (30, .iload_n 1, 1, 31), (31, .baload, 1, 32), (32, .invokestatic 37, 3, 35), (35, .ifCond .eq 22, 3, 38), (38, .iload_n 2, 1, 39), (39, .iload_n 1, 1, 40), (40, .isub, 1, 41), (41, .iconst 4, 1, 42), (42, .if_icmp .le 8, 3, 45), (45, .bipush (-22), 2, 47), (47, .goto 9, 3, 50), (50, .aload_n 0, 1, 51), (51, .iload_n 1, 1, 52), (52, .iload_n 2, 1, 53), (53, .invokestatic 43, 3, 56), (56, .ireturn, 1, 57), (57, .aload_n 0, 1, 58), (58, .iload_n 1, 1, 59), (59, .baload, 1, 60), (60, .invokestatic 46, 3, 63), (63, .ireturn, 1, 64)]
set_option maxRecDepth 100000 in
theorem TX9_tokenOf : zchk (zMc mX9_tokenOf) tX9_tokenOf = true := by decide +kernel
theorem kX9_tokenOf : zOK mX9_tokenOf := ⟨zw482, zw67, by decide, by decide +kernel, by decide +kernel⟩
def mX9_numberOf : zM := (yX9_numberOf, prog_11_method_6_code, 5, (Option.some Jvm.ClassFile.FieldType.int), [])
def tX9_numberOf : List (Nat × Instr × Nat × Nat) := [(0, .iconst 0, 1, 1), (1, .istore_n 3, 1, 2), (2, .iload_n 1, 1, 3), (3, .istore 4, 2, 5), (5, .iload 4, 2, 7), (7, .iload_n 2, 1, 8), (8, .if_icmp .ge 22, 3, 11), (11, .iload_n 3, 1, 12), (12, .bipush 10, 2, 14), (14, .imul, 1, 15), (15, .aload_n 0, 1, 16), (16, .iload 4, 2, 18), (18, .baload, 1, 19), (19, .bipush 48, 2, 21), (21, .isub, 1, 22), (22, .iadd, 1, 23), (23, .istore_n 3, 1, 24), (24, .iinc 4 1, 3, 27), (27, .goto (-22), 3, 30), (30, .iload_n 3, 1, 31), (31, .ireturn, 1, 32)]
set_option maxRecDepth 100000 in
theorem TX9_numberOf : zchk (zMc mX9_numberOf) tX9_numberOf = true := by decide +kernel
theorem kX9_numberOf : zOK mX9_numberOf := ⟨zw551, zw67, by decide, by decide +kernel, by decide +kernel⟩
def mX9_wordOf : zM := (yX9_wordOf, prog_11_method_7_code, 3, (Option.some Jvm.ClassFile.FieldType.int), [])
def tX9_wordOf : List (Nat × Instr × Nat × Nat) := [(0, .aload_n 0, 1, 1), (1, .iload_n 1, 1, 2), (2, .iload_n 2, 1, 3), (3, .ldc 50, 2, 5), (5, .invokestatic 52, 3, 8), (8, .ifCond .eq 5, 3, 11), (11, .iconst (-1), 1, 12), (12, .ireturn, 1, 13), (13, .aload_n 0, 1, 14), (14, .iload_n 1, 1, 15), (15, .iload_n 2, 1, 16), (16, .ldc 56, 2, 18), (18, .invokestatic 52, 3, 21), (21, .ifCond .eq 6, 3, 24), (24, .bipush (-2), 2, 26), (26, .ireturn, 1, 27), (27, .aload_n 0, 1, 28), (28, .iload_n 1, 1, 29), (29, .iload_n 2, 1, 30), (30, .ldc 58, 2, 32), (32, .invokestatic 52, 3, 35), (35, .ifCond .eq 6, 3, 38), (38, .bipush (-3), 2, 40), (40, .ireturn, 1, 41), (41, .aload_n 0, 1, 42), (42, .iload_n 1, 1, 43), (43, .iload_n 2, 1, 44), (44, .ldc 60, 2, 46), (46, .invokestatic 52, 3, 49), (49, .ifCond .eq 6, 3, 52), (52, .bipush (-4), 2, 54), (54, .ireturn, 1, 55), (55, .aload_n 0, 1, 56), (56, .iload_n 1, 1, 57), (57, .iload_n 2, 1, 58), (58, .ldc 62, 2, 60), (60, .invokestatic 52, 3, 63), (63, .ifCond .eq 6, 3, 66), (66, .bipush (-5), 2, 68), (68, .ireturn, 1, 69), (69, .aload_n 0, 1, 70), (70, .iload_n 1, 1, 71), (71, .iload_n 2, 1, 72), (72, .invokestatic 64, 3, 75), (75, .ireturn, 1, 76)]
set_option maxRecDepth 100000 in
theorem TX9_wordOf : zchk (zMc mX9_wordOf) tX9_wordOf = true := by decide +kernel
theorem kX9_wordOf : zOK mX9_wordOf := ⟨zw485, zw67, by decide, by decide +kernel, by decide +kernel⟩
def mX9_nameOf : zM := (yX9_nameOf, prog_11_method_8_code, 3, (Option.some Jvm.ClassFile.FieldType.int), [])
def tX9_nameOf : List (Nat × Instr × Nat × Nat) := [(0, .aload_n 0, 1, 1), (1, .iload_n 1, 1, 2), (2, .iload_n 2, 1, 3), (3, .ldc 67, 2, 5), (5, .invokestatic 52, 3, 8), (8, .ifCond .eq 6, 3, 11), (11, .bipush (-6), 2, 13), (13, .ireturn, 1, 14), (14, .aload_n 0, 1, 15), (15, .iload_n 1, 1, 16), (16, .iload_n 2, 1, 17), (17, .ldc 69, 2, 19), (19, .invokestatic 52, 3, 22), (22, .ifCond .eq 6, 3, 25), (25, .bipush (-7), 2, 27), (27, .ireturn, 1, 28), (28, .aload_n 0, 1, 29), (29, .iload_n 1, 1, 30), (30, .iload_n 2, 1, 31), (31, .ldc 71, 2, 33), (33, .invokestatic 52, 3, 36), (36, .ifCond .eq 6, 3, 39), (39, .bipush (-8), 2, 41), (41, .ireturn, 1, 42), (42, .aload_n 0, 1, 43), (43, .iload_n 1, 1, 44), (44, .iload_n 2, 1, 45), (45, .ldc 73, 2, 47), (47, .invokestatic 52, 3, 50), (50, .ifCond .eq 6, 3, 53), (53, .bipush (-9), 2, 55), (55, .ireturn, 1, 56), (56, .bipush (-10), 2, 58), (58, .ireturn, 1, 59)]
set_option maxRecDepth 100000 in
theorem TX9_nameOf : zchk (zMc mX9_nameOf) tX9_nameOf = true := by decide +kernel
theorem kX9_nameOf : zOK mX9_nameOf := ⟨zw544, zw67, by decide, by decide +kernel, by decide +kernel⟩
def mX9_spells : zM := (yX9_spells, prog_11_method_9_code, 5, (Option.some Jvm.ClassFile.FieldType.boolean), [])
def tX9_spells : List (Nat × Instr × Nat × Nat) := [(0, .iload_n 2, 1, 1), (1, .iload_n 1, 1, 2), (2, .isub, 1, 3), (3, .aload_n 3, 1, 4), (4, .invokevirtual 75, 3, 7), (7, .if_icmp .eq 5, 3, 10), (10, .iconst 0, 1, 11), (11, .ireturn, 1, 12), (12, .iload_n 1, 1, 13), (13, .istore 4, 2, 15), (15, .iload 4, 2, 17), (17, .iload_n 2, 1, 18), (18, .if_icmp .ge 26, 3, 21), (21, .aload_n 0, 1, 22), (22, .iload 4, 2, 24), (24, .baload, 1, 25), (25, .aload_n 3, 1, 26), (26, .iload 4, 2, 28), (28, .iload_n 1, 1, 29), (29, .isub, 1, 30), (30, .invokevirtual 81, 3, 33), (33, .if_icmp .eq 5, 3, 36), (36, .iconst 0, 1, 37), (37, .ireturn, 1, 38), (38, .iinc 4 1, 3, 41), (41, .goto (-26), 3, 44), (44, .iconst 1, 1, 45), (45, .ireturn, 1, 46)]
set_option maxRecDepth 100000 in
theorem TX9_spells : zchk (zMc mX9_spells) tX9_spells = true := by decide +kernel
theorem kX9_spells : zOK mX9_spells := ⟨zw489, zw67, by decide, by decide +kernel, by decide +kernel⟩
def mX9_signOf : zM := (yX9_signOf, prog_11_method_10_code, 1, (Option.some Jvm.ClassFile.FieldType.int), [])
def tX9_signOf : List (Nat × Instr × Nat × Nat) := [(0, .iload_n 0, 1, 1), (1, .tableswitch 137 40 62 #[128, 131, 122, 116, 137, 119, 137, 125, 137, 137, 137, 137, 137, 137, 137, 137, 137, 137, 137, 134, 107, 113, 110], 107, 108), (108, .bipush (-11), 2, 110), (110, .ireturn, 1, 111), (111, .bipush (-12), 2, 113), (113, .ireturn, 1, 114), (114, .bipush (-13), 2, 116), (116, .ireturn, 1, 117), (117, .bipush (-14), 2, 119), (119, .ireturn, 1, 120), (120, .bipush (-15), 2, 122), (122, .ireturn, 1, 123), (123, .bipush (-16), 2, 125), (125, .ireturn, 1, 126), (126, .bipush (-17), 2, 128), (128, .ireturn, 1, 129), (129, .bipush (-18), 2, 131), (131, .ireturn, 1, 132), (132, .bipush (-19), 2, 134), (134, .ireturn, 1, 135), (135, .bipush (-20), 2, 137), (137, .ireturn, 1, 138), (138, .bipush (-22), 2, 140), (140, .ireturn, 1, 141)]
set_option maxRecDepth 100000 in
theorem TX9_signOf : zchk (zMc mX9_signOf) tX9_signOf = true := by decide +kernel
theorem kX9_signOf : zOK mX9_signOf := ⟨zw554, zw67, by decide, by decide +kernel, by decide +kernel⟩
def mX9_isLetter : zM := (yX9_isLetter, prog_11_method_11_code, 1, (Option.some Jvm.ClassFile.FieldType.boolean), [])
def tX9_isLetter : List (Nat × Instr × Nat × Nat) := [(0, .iload_n 0, 1, 1), (1, .bipush 97, 2, 3), (3, .if_icmp .lt 13, 3, 6), (6, .iload_n 0, 1, 7), (7, .bipush 122, 2, 9), (9, .if_icmp .gt 7, 3, 12), (12, .iconst 1, 1, 13), (13, .goto 4, 3, 16), (16, .iconst 0, 1, 17), (17, .ireturn, 1, 18)]
set_option maxRecDepth 100000 in
theorem TX9_isLetter : zchk (zMc mX9_isLetter) tX9_isLetter = true := by decide +kernel
theorem kX9_isLetter : zOK mX9_isLetter := ⟨zw476, zw67, by decide, by decide +kernel, by decide +kernel⟩
def mX9_isDigit : zM := (yX9_isDigit, prog_11_method_12_code, 1, (Option.some Jvm.ClassFile.FieldType.boolean), [])
def tX9_isDigit : List (Nat × Instr × Nat × Nat) := [(0, .iload_n 0, 1, 1), (1, .bipush 48, 2, 3), (3, .if_icmp .lt 13, 3, 6), (6, .iload_n 0, 1, 7), (7, .bipush 57, 2, 9), (9, .if_icmp .gt 7, 3, 12), (12, .iconst 1, 1, 13), (13, .goto 4, 3, 16), (16, .iconst 0, 1, 17), (17, .ireturn, 1, 18)]
set_option maxRecDepth 100000 in
theorem TX9_isDigit : zchk (zMc mX9_isDigit) tX9_isDigit = true := by decide +kernel
theorem kX9_isDigit : zOK mX9_isDigit := ⟨zw479, zw67, by decide, by decide +kernel, by decide +kernel⟩
def mX10_init : zM := (yX10_init, prog_12_method_1_code, 1, none, [])
def tX10_init : List (Nat × Instr × Nat × Nat) := [(0, .aload_n 0, 1, 1), (1, .invokespecial 3, 3, 4), (4, .aload_n 0, 1, 5), (5, .iconst 3, 1, 6), (6, .newarray .int, 2, 8), (8, .putfield 9, 3, 11), (11, .aload_n 0, 1, 12), (12, .bipush 16, 2, 14), (14, .newarray .int, 2, 16), (16, .putfield 15, 3, 19), (19, .aload_n 0, 1, 20), (20, .iconst 0, 1, 21), (21, .putfield 18, 3, 24), (24, .aload_n 0, 1, 25), (25, .iconst 0, 1, 26), (26, .putfield 22, 3, 29), (29, .return_, 1, 30)]
set_option maxRecDepth 100000 in
theorem TX10_init : zchk (zMc mX10_init) tX10_init = true := by decide +kernel
theorem kX10_init : zOK mX10_init := ⟨zw269, zw71, by decide, by decide +kernel, by decide +kernel⟩
def mX10_lay : zM := (yX10_lay, prog_12_method_2_code, 10, (Option.some Jvm.ClassFile.FieldType.long), [])
def tX10_lay_0 : List (Nat × Instr × Nat × Nat) := [(0, .aload_n 0, 1, 1), (1, .aload_n 1, 1, 2), (2, .getfield 25, 3, 5), (5, .putfield 18, 3, 8), (8, .aload_n 0, 1, 9), (9, .aload_n 0, 1, 10), (10, .getfield 18, 3, 13), (13, .ifCond .ne 7, 3, 16), (16, .iconst 0, 1, 17), (17, .goto 4, 3, 20), (20, .iload_n 2, 1, 21), (21, .putfield 22, 3, 24), (24, .iconst 0, 1, 25), (25, .istore 4, 2, 27), (27, .iload 4, 2, 29), (29, .iconst 3, 1, 30), (30, .if_icmp .ge 17, 3, 33), (33, .aload_n 0, 1, 34), (34, .getfield 9, 3, 37), (37, .iload 4, 2, 39), (39, .iconst 0, 1, 40), (40, .iastore, 1, 41), (41, .iinc 4 1, 3, 44), (44, .goto (-17), 3, 47), (47, .ldc2_w 28, 3, 50), (50, .lstore 4, 2, 52), (52, .iconst 1, 1, 53), (53, .istore 6, 2, 55), (55, .iconst 0, 1, 56), (56, .istore 7, 2, 58), (58, .iload 6, 2, 60), (60, .ifCond .eq 62, 3, 63), (63, .iload 7, 2, 65), (65, .sipush 1000, 3, 68), (68, .if_icmp .ge 54, 3, 71), (71, .aload_n 0, 1, 72), (72, .aload_n 1, 1, 73), (73, .iload_n 3, 1, 74), (74, .invokevirtual 30, 3, 77), (77, .aload_n 1, 1, 78), (78, .invokevirtual 34, 3, 81), (81, .aload_n 1, 1, 82), (82, .invokevirtual 37, 3, 85), (85, .lstore 8, 2, 87), (87, .aload_n 0, 1, 88), (88, .aload_n 1, 1, 89), (89, .iload_n 3, 1, 90), (90, .ineg, 1, 91), (91, .invokevirtual 30, 3, 94), (94, .lload 8, 2, 96), (96, .lload 4, 2, 98), (98, .lcmp, 1, 99), (99, .ifCond .le 11, 3, 102), (102, .lload 8, 2, 104), (104, .lstore 4, 2, 106), (106, .aload_n 0, 1, 107), (107, .invokevirtual 41, 3, 110), (110, .aload_n 0, 1, 111), (111, .invokevirtual 44, 3, 114), (114, .istore 6, 2, 116)]
set_option maxRecDepth 100000 in
theorem TX10_lay_0 : zchk (zMc mX10_lay) tX10_lay_0 = true := by decide +kernel
def tX10_lay_1 : List (Nat × Instr × Nat × Nat) := [(116, .iinc 7 1, 3, 119), (119, .goto (-61), 3, 122), (122, .lload 4, 2, 124), (124, .lreturn, 1, 125)]
set_option maxRecDepth 100000 in
theorem TX10_lay_1 : zchk (zMc mX10_lay) tX10_lay_1 = true := by decide +kernel
theorem kX10_lay : zOK mX10_lay := ⟨zw812, zw71, by decide, by decide +kernel, by decide +kernel⟩
def mX10_standingOn : zM := (yX10_standingOn, prog_12_method_3_code, 2, (Option.some Jvm.ClassFile.FieldType.int), [])
def tX10_standingOn : List (Nat × Instr × Nat × Nat) := [(0, .iload_n 1, 1, 1), (1, .ifCond .lt 20, 3, 4), (4, .iload_n 1, 1, 5), (5, .aload_n 0, 1, 6), (6, .getfield 18, 3, 9), (9, .if_icmp .ge 12, 3, 12), (12, .aload_n 0, 1, 13), (13, .getfield 15, 3, 16), (16, .iload_n 1, 1, 17), (17, .iaload, 1, 18), (18, .goto 4, 3, 21), (21, .iconst (-1), 1, 22), (22, .ireturn, 1, 23)]
set_option maxRecDepth 100000 in
theorem TX10_standingOn : zchk (zMc mX10_standingOn) tX10_standingOn = true := by decide +kernel
theorem kX10_standingOn : zOK mX10_standingOn := ⟨zw835, zw71, by decide, by decide +kernel, by decide +kernel⟩
def mX10_charge : zM := (yX10_charge, prog_12_method_4_code, 4, none, [])
def tX10_charge : List (Nat × Instr × Nat × Nat) := [(0, .iconst 0, 1, 1), (1, .istore_n 3, 1, 2), (2, .iload_n 3, 1, 3), (3, .aload_n 0, 1, 4), (4, .getfield 22, 3, 7), (7, .if_icmp .ge 24, 3, 10), (10, .aload_n 1, 1, 11), (11, .getfield 48, 3, 14), (14, .aload_n 0, 1, 15), (15, .getfield 9, 3, 18), (18, .iload_n 3, 1, 19), (19, .iaload, 1, 20), (20, .dup2, 1, 21), (21, .iaload, 1, 22), (22, .iload_n 2, 1, 23), (23, .iadd, 1, 24), (24, .iastore, 1, 25), (25, .iinc 3 1, 3, 28), (28, .goto (-26), 3, 31), (31, .return_, 1, 32)]
set_option maxRecDepth 100000 in
theorem TX10_charge : zchk (zMc mX10_charge) tX10_charge = true := by decide +kernel
theorem kX10_charge : zOK mX10_charge := ⟨zw817, zw71, by decide, by decide +kernel, by decide +kernel⟩
def mX10_keep : zM := (yX10_keep, prog_12_method_5_code, 2, none, [])
def tX10_keep : List (Nat × Instr × Nat × Nat) := [(0, .iconst 0, 1, 1), (1, .istore_n 1, 1, 2), (2, .iload_n 1, 1, 3), (3, .aload_n 0, 1, 4), (4, .getfield 18, 3, 7), (7, .if_icmp .ge 16, 3, 10), (10, .aload_n 0, 1, 11), (11, .getfield 15, 3, 14), (14, .iload_n 1, 1, 15), (15, .iconst 0, 1, 16), (16, .iastore, 1, 17), (17, .iinc 1 1, 3, 20), (20, .goto (-18), 3, 23), (23, .iconst 0, 1, 24), (24, .istore_n 1, 1, 25), (25, .iload_n 1, 1, 26), (26, .aload_n 0, 1, 27), (27, .getfield 22, 3, 30), (30, .if_icmp .ge 24, 3, 33), (33, .aload_n 0, 1, 34), (34, .getfield 15, 3, 37), (37, .aload_n 0, 1, 38), (38, .getfield 9, 3, 41), (41, .iload_n 1, 1, 42), (42, .iaload, 1, 43), (43, .dup2, 1, 44), (44, .iaload, 1, 45), (45, .iconst 1, 1, 46), (46, .iadd, 1, 47), (47, .iastore, 1, 48), (48, .iinc 1 1, 3, 51), (51, .goto (-26), 3, 54), (54, .return_, 1, 55)]
set_option maxRecDepth 100000 in
theorem TX10_keep : zchk (zMc mX10_keep) tX10_keep = true := by decide +kernel
theorem kX10_keep : zOK mX10_keep := ⟨zw823, zw71, by decide, by decide +kernel, by decide +kernel⟩
def mX10_shift : zM := (yX10_shift, prog_12_method_6_code, 4, (Option.some Jvm.ClassFile.FieldType.boolean), [])
def tX10_shift : List (Nat × Instr × Nat × Nat) := [(0, .aload_n 0, 1, 1), (1, .getfield 22, 3, 4), (4, .iconst 1, 1, 5), (5, .isub, 1, 6), (6, .istore_n 1, 1, 7), (7, .iload_n 1, 1, 8), (8, .ifCond .lt 58, 3, 11), (11, .aload_n 0, 1, 12), (12, .getfield 9, 3, 15), (15, .iload_n 1, 1, 16), (16, .iaload, 1, 17), (17, .aload_n 0, 1, 18), (18, .getfield 18, 3, 21), (21, .iconst 1, 1, 22), (22, .isub, 1, 23), (23, .if_icmp .ge 37, 3, 26), (26, .aload_n 0, 1, 27), (27, .getfield 9, 3, 30), (30, .iload_n 1, 1, 31), (31, .iaload, 1, 32), (32, .iconst 1, 1, 33), (33, .iadd, 1, 34), (34, .istore_n 2, 1, 35), (35, .iload_n 1, 1, 36), (36, .istore_n 3, 1, 37), (37, .iload_n 3, 1, 38), (38, .aload_n 0, 1, 39), (39, .getfield 22, 3, 42), (42, .if_icmp .ge 16, 3, 45), (45, .aload_n 0, 1, 46), (46, .getfield 9, 3, 49), (49, .iload_n 3, 1, 50), (50, .iload_n 2, 1, 51), (51, .iastore, 1, 52), (52, .iinc 3 1, 3, 55), (55, .goto (-18), 3, 58), (58, .iconst 1, 1, 59), (59, .ireturn, 1, 60), (60, .iinc 1 (-1), 3, 63), (63, .goto (-56), 3, 66), (66, .iconst 0, 1, 67), (67, .ireturn, 1, 68)]
set_option maxRecDepth 100000 in
theorem TX10_shift : zchk (zMc mX10_shift) tX10_shift = true := by decide +kernel
theorem kX10_shift : zOK mX10_shift := ⟨zw827, zw71, by decide, by decide +kernel, by decide +kernel⟩
def mX11_init : zM := (yX11_init, prog_1_method_1_code, 1, none, [])
def tX11_init_0 : List (Nat × Instr × Nat × Nat) := [(0, .aload_n 0, 1, 1), (1, .invokespecial 1, 3, 4), (4, .aload_n 0, 1, 5), (5, .bipush 10, 2, 7), (7, .anewarray 9, 3, 10), (10, .putfield 11, 3, 13), (13, .aload_n 0, 1, 14), (14, .bipush 16, 2, 16), (16, .anewarray 15, 3, 19), (19, .putfield 17, 3, 22), (22, .aload_n 0, 1, 23), (23, .bipush 8, 2, 25), (25, .anewarray 21, 3, 28), (28, .putfield 23, 3, 31), (31, .aload_n 0, 1, 32), (32, .new 27, 3, 35), (35, .dup, 1, 36), (36, .invokespecial 29, 3, 39), (39, .putfield 30, 3, 42), (42, .aload_n 0, 1, 43), (43, .new 34, 3, 46), (46, .dup, 1, 47), (47, .invokespecial 36, 3, 50), (50, .putfield 37, 3, 53), (53, .aload_n 0, 1, 54), (54, .new 41, 3, 57), (57, .dup, 1, 58), (58, .invokespecial 43, 3, 61), (61, .putfield 44, 3, 64), (64, .aload_n 0, 1, 65), (65, .new 48, 3, 68), (68, .dup, 1, 69), (69, .invokespecial 50, 3, 72), (72, .putfield 51, 3, 75), (75, .aload_n 0, 1, 76), (76, .new 55, 3, 79), (79, .dup, 1, 80), (80, .invokespecial 57, 3, 83), (83, .putfield 58, 3, 86), (86, .aload_n 0, 1, 87), (87, .iconst 0, 1, 88), (88, .putfield 62, 3, 91), (91, .aload_n 0, 1, 92), (92, .iconst 0, 1, 93), (93, .putfield 66, 3, 96), (96, .aload_n 0, 1, 97), (97, .iconst 0, 1, 98), (98, .putfield 69, 3, 101), (101, .aload_n 0, 1, 102), (102, .iconst 0, 1, 103), (103, .putfield 72, 3, 106), (106, .aload_n 0, 1, 107), (107, .bipush 10, 2, 109), (109, .putfield 75, 3, 112), (112, .aload_n 0, 1, 113), (113, .iconst 0, 1, 114), (114, .putfield 78, 3, 117), (117, .aload_n 0, 1, 118), (118, .iconst 0, 1, 119), (119, .putfield 81, 3, 122)]
set_option maxRecDepth 100000 in
theorem TX11_init_0 : zchk (zMc mX11_init) tX11_init_0 = true := by decide +kernel
def tX11_init_1 : List (Nat × Instr × Nat × Nat) := [(122, .aload_n 0, 1, 123), (123, .iconst (-1), 1, 124), (124, .putfield 84, 3, 127), (127, .return_, 1, 128)]
set_option maxRecDepth 100000 in
theorem TX11_init_1 : zchk (zMc mX11_init) tX11_init_1 = true := by decide +kernel
theorem kX11_init : zOK mX11_init := ⟨zw92, zw64, by decide, by decide +kernel, by decide +kernel⟩
def mX11_province : zM := (yX11_province, prog_1_method_2_code, 3, (Option.some Jvm.ClassFile.FieldType.int), [])
def tX11_province : List (Nat × Instr × Nat × Nat) := [(0, .iload_n 1, 1, 1), (1, .iload_n 2, 1, 2), (2, .invokestatic 87, 3, 5), (5, .ifCond .ne 9, 3, 8), (8, .aload_n 0, 1, 9), (9, .iconst 2, 1, 10), (10, .invokevirtual 91, 3, 13), (13, .ireturn, 1, 14), (14, .aload_n 0, 1, 15), (15, .getfield 62, 3, 18), (18, .bipush 10, 2, 20), (20, .if_icmp .lt 9, 3, 23), (23, .aload_n 0, 1, 24), (24, .iconst 3, 1, 25), (25, .invokevirtual 91, 3, 28), (28, .ireturn, 1, 29), (29, .aload_n 0, 1, 30), (30, .getfield 11, 3, 33), (33, .aload_n 0, 1, 34), (34, .getfield 62, 3, 37), (37, .new 9, 3, 40), (40, .dup, 1, 41), (41, .iload_n 1, 1, 42), (42, .iload_n 2, 1, 43), (43, .invokespecial 95, 3, 46), (46, .aastore, 1, 47), (47, .aload_n 0, 1, 48), (48, .dup, 1, 49), (49, .getfield 62, 3, 52), (52, .iconst 1, 1, 53), (53, .iadd, 1, 54), (54, .putfield 62, 3, 57), (57, .aload_n 0, 1, 58), (58, .aload_n 0, 1, 59), (59, .getfield 62, 3, 62), (62, .iconst 1, 1, 63), (63, .isub, 1, 64), (64, .invokevirtual 98, 3, 67), (67, .ireturn, 1, 68)]
set_option maxRecDepth 100000 in
theorem TX11_province : zchk (zMc mX11_province) tX11_province = true := by decide +kernel
theorem kX11_province : zOK mX11_province := ⟨zw336, zw64, by decide, by decide +kernel, by decide +kernel⟩
def mX11_people : zM := (yX11_people, prog_1_method_3_code, 5, (Option.some Jvm.ClassFile.FieldType.boolean), [])
def tX11_people : List (Nat × Instr × Nat × Nat) := [(0, .aload_n 0, 1, 1), (1, .iload_n 1, 1, 2), (2, .invokevirtual 101, 3, 5), (5, .astore 4, 2, 7), (7, .aload 4, 2, 9), (9, .ifnonnull 9, 3, 12), (12, .aload_n 0, 1, 13), (13, .iconst 1, 1, 14), (14, .invokevirtual 105, 3, 17), (17, .ireturn, 1, 18), (18, .iload_n 2, 1, 19), (19, .iload_n 3, 1, 20), (20, .invokestatic 87, 3, 23), (23, .ifCond .ne 9, 3, 26), (26, .aload_n 0, 1, 27), (27, .iconst 2, 1, 28), (28, .invokevirtual 105, 3, 31), (31, .ireturn, 1, 32), (32, .aload 4, 2, 34), (34, .iload_n 2, 1, 35), (35, .putfield 109, 3, 38), (38, .aload 4, 2, 40), (40, .iload_n 3, 1, 41), (41, .putfield 112, 3, 44), (44, .aload 4, 2, 46), (46, .iconst 0, 1, 47), (47, .invokevirtual 115, 3, 50), (50, .aload_n 0, 1, 51), (51, .invokevirtual 119, 3, 54), (54, .ireturn, 1, 55)]
set_option maxRecDepth 100000 in
theorem TX11_people : zchk (zMc mX11_people) tX11_people = true := by decide +kernel
theorem kX11_people : zOK mX11_people := ⟨zw389, zw64, by decide, by decide +kernel, by decide +kernel⟩
def mX11_border : zM := (yX11_border, prog_1_method_4_code, 4, (Option.some Jvm.ClassFile.FieldType.int), [])
def tX11_border : List (Nat × Instr × Nat × Nat) := [(0, .aload_n 0, 1, 1), (1, .iload_n 1, 1, 2), (2, .invokevirtual 101, 3, 5), (5, .ifnull 16, 3, 8), (8, .aload_n 0, 1, 9), (9, .iload_n 2, 1, 10), (10, .invokevirtual 101, 3, 13), (13, .ifnull 8, 3, 16), (16, .iload_n 1, 1, 17), (17, .iload_n 2, 1, 18), (18, .if_icmp .ne 9, 3, 21), (21, .aload_n 0, 1, 22), (22, .iconst 1, 1, 23), (23, .invokevirtual 91, 3, 26), (26, .ireturn, 1, 27), (27, .iload_n 3, 1, 28), (28, .iconst 1, 1, 29), (29, .sipush 500, 3, 32), (32, .invokestatic 123, 3, 35), (35, .ifCond .ne 9, 3, 38), (38, .aload_n 0, 1, 39), (39, .iconst 2, 1, 40), (40, .invokevirtual 91, 3, 43), (43, .ireturn, 1, 44), (44, .aload_n 0, 1, 45), (45, .getfield 66, 3, 48), (48, .bipush 16, 2, 50), (50, .if_icmp .lt 9, 3, 53), (53, .aload_n 0, 1, 54), (54, .iconst 3, 1, 55), (55, .invokevirtual 91, 3, 58), (58, .ireturn, 1, 59), (59, .aload_n 0, 1, 60), (60, .getfield 17, 3, 63), (63, .aload_n 0, 1, 64), (64, .getfield 66, 3, 67), (67, .new 15, 3, 70), (70, .dup, 1, 71), (71, .iload_n 1, 1, 72), (72, .iload_n 2, 1, 73), (73, .iload_n 3, 1, 74), (74, .invokespecial 127, 3, 77), (77, .aastore, 1, 78), (78, .aload_n 0, 1, 79), (79, .dup, 1, 80), (80, .getfield 66, 3, 83), (83, .iconst 1, 1, 84), (84, .iadd, 1, 85), (85, .putfield 66, 3, 88), (88, .aload_n 0, 1, 89), (89, .aload_n 0, 1, 90), (90, .getfield 66, 3, 93), (93, .iconst 1, 1, 94), (94, .isub, 1, 95), (95, .invokevirtual 98, 3, 98), (98, .ireturn, 1, 99)]
set_option maxRecDepth 100000 in
theorem TX11_border : zchk (zMc mX11_border) tX11_border = true := by decide +kernel
theorem kX11_border : zOK mX11_border := ⟨zw412, zw64, by decide, by decide +kernel, by decide +kernel⟩
def mX11_guard : zM := (yX11_guard, prog_1_method_5_code, 4, (Option.some Jvm.ClassFile.FieldType.boolean), [])
def tX11_guard : List (Nat × Instr × Nat × Nat) := [(0, .aload_n 0, 1, 1), (1, .iload_n 1, 1, 2), (2, .invokevirtual 130, 3, 5), (5, .astore_n 3, 1, 6), (6, .aload_n 3, 1, 7), (7, .ifnonnull 9, 3, 10), (10, .aload_n 0, 1, 11), (11, .iconst 1, 1, 12), (12, .invokevirtual 105, 3, 15), (15, .ireturn, 1, 16), (16, .iload_n 2, 1, 17), (17, .iconst 0, 1, 18), (18, .bipush 9, 2, 20), (20, .invokestatic 123, 3, 23), (23, .ifCond .ne 9, 3, 26), (26, .aload_n 0, 1, 27), (27, .iconst 2, 1, 28), (28, .invokevirtual 105, 3, 31), (31, .ireturn, 1, 32), (32, .aload_n 3, 1, 33), (33, .iload_n 2, 1, 34), (34, .putfield 134, 3, 37), (37, .aload_n 0, 1, 38), (38, .invokevirtual 119, 3, 41), (41, .ireturn, 1, 42)]
set_option maxRecDepth 100000 in
theorem TX11_guard : zchk (zMc mX11_guard) tX11_guard = true := by decide +kernel
theorem kX11_guard : zOK mX11_guard := ⟨zw438, zw64, by decide, by decide +kernel, by decide +kernel⟩
def mX11_weight : zM := (yX11_weight, prog_1_method_6_code, 2, (Option.some Jvm.ClassFile.FieldType.boolean), [])
def tX11_weight : List (Nat × Instr × Nat × Nat) := [(0, .iload_n 1, 1, 1), (1, .iconst 0, 1, 2), (2, .sipush 200, 3, 5), (5, .invokestatic 123, 3, 8), (8, .ifCond .ne 9, 3, 11), (11, .aload_n 0, 1, 12), (12, .iconst 2, 1, 13), (13, .invokevirtual 105, 3, 16), (16, .ireturn, 1, 17), (17, .aload_n 0, 1, 18), (18, .iload_n 1, 1, 19), (19, .putfield 75, 3, 22), (22, .aload_n 0, 1, 23), (23, .invokevirtual 119, 3, 26), (26, .ireturn, 1, 27)]
set_option maxRecDepth 100000 in
theorem TX11_weight : zchk (zMc mX11_weight) tX11_weight = true := by decide +kernel
theorem kX11_weight : zOK mX11_weight := ⟨zw446, zw64, by decide, by decide +kernel, by decide +kernel⟩
def mX11_feed : zM := (yX11_feed, prog_1_method_7_code, 6, (Option.some Jvm.ClassFile.FieldType.int), [])
def tX11_feed : List (Nat × Instr × Nat × Nat) := [(0, .aload_n 0, 1, 1), (1, .getfield 30, 3, 4), (4, .invokevirtual 137, 3, 7), (7, .ifCond .ne 5, 3, 10), (10, .iconst (-1), 1, 11), (11, .ireturn, 1, 12), (12, .aload_n 0, 1, 13), (13, .getfield 30, 3, 16), (16, .iload_n 1, 1, 17), (17, .invokevirtual 140, 3, 20), (20, .aload_n 0, 1, 21), (21, .getfield 30, 3, 24), (24, .iload_n 2, 1, 25), (25, .invokevirtual 140, 3, 28), (28, .aload_n 0, 1, 29), (29, .getfield 30, 3, 32), (32, .iload_n 3, 1, 33), (33, .invokevirtual 140, 3, 36), (36, .aload_n 0, 1, 37), (37, .getfield 30, 3, 40), (40, .iload 4, 2, 42), (42, .invokevirtual 140, 3, 45), (45, .aload_n 0, 1, 46), (46, .getfield 30, 3, 49), (49, .iload 5, 2, 51), (51, .invokevirtual 140, 3, 54), (54, .aload_n 0, 1, 55), (55, .getfield 30, 3, 58), (58, .getfield 143, 3, 61), (61, .ireturn, 1, 62)]
set_option maxRecDepth 100000 in
theorem TX11_feed : zchk (zMc mX11_feed) tX11_feed = true := by decide +kernel
theorem kX11_feed : zOK mX11_feed := ⟨zw450, zw64, by decide, by decide +kernel, by decide +kernel⟩
def mX11_edict : zM := (yX11_edict, prog_1_method_8_code, 6, (Option.some Jvm.ClassFile.FieldType.int), [])
def tX11_edict_0 : List (Nat × Instr × Nat × Nat) := [(0, .aload_n 0, 1, 1), (1, .iload_n 1, 1, 2), (2, .invokevirtual 101, 3, 5), (5, .astore 4, 2, 7), (7, .aload 4, 2, 9), (9, .ifnonnull 9, 3, 12), (12, .aload_n 0, 1, 13), (13, .iconst 1, 1, 14), (14, .invokevirtual 91, 3, 17), (17, .ireturn, 1, 18), (18, .iload_n 2, 1, 19), (19, .iconst 0, 1, 20), (20, .bipush 99, 2, 22), (22, .invokestatic 123, 3, 25), (25, .ifCond .eq 18, 3, 28), (28, .iload_n 3, 1, 29), (29, .iconst 0, 1, 30), (30, .aload_n 0, 1, 31), (31, .getfield 30, 3, 34), (34, .getfield 143, 3, 37), (37, .invokestatic 123, 3, 40), (40, .ifCond .ne 9, 3, 43), (43, .aload_n 0, 1, 44), (44, .iconst 2, 1, 45), (45, .invokevirtual 91, 3, 48), (48, .ireturn, 1, 49), (49, .aload_n 0, 1, 50), (50, .getfield 37, 3, 53), (53, .aload_n 0, 1, 54), (54, .getfield 30, 3, 57), (57, .getfield 146, 3, 60), (60, .iload_n 3, 1, 61), (61, .invokevirtual 150, 3, 64), (64, .istore 5, 2, 66), (66, .aload_n 0, 1, 67), (67, .getfield 30, 3, 70), (70, .iconst 0, 1, 71), (71, .putfield 143, 3, 74), (74, .aload_n 0, 1, 75), (75, .aload_n 0, 1, 76), (76, .getfield 37, 3, 79), (79, .getfield 154, 3, 82), (82, .putfield 81, 3, 85), (85, .aload_n 0, 1, 86), (86, .aload_n 0, 1, 87), (87, .getfield 37, 3, 90), (90, .getfield 157, 3, 93), (93, .putfield 84, 3, 96), (96, .iload 5, 2, 98), (98, .ifCond .ne 9, 3, 101), (101, .aload_n 0, 1, 102), (102, .iconst 4, 1, 103), (103, .invokevirtual 91, 3, 106), (106, .ireturn, 1, 107), (107, .aload_n 0, 1, 108), (108, .getfield 44, 3, 111), (111, .invokevirtual 160, 3, 114), (114, .ifCond .eq 9, 3, 117), (117, .aload_n 0, 1, 118), (118, .iconst 3, 1, 119)]
set_option maxRecDepth 100000 in
theorem TX11_edict_0 : zchk (zMc mX11_edict) tX11_edict_0 = true := by decide +kernel
def tX11_edict_1 : List (Nat × Instr × Nat × Nat) := [(119, .invokevirtual 91, 3, 122), (122, .ireturn, 1, 123), (123, .aload 4, 2, 125), (125, .iload_n 2, 1, 126), (126, .invokevirtual 115, 3, 129), (129, .aload_n 0, 1, 130), (130, .aload_n 0, 1, 131), (131, .getfield 44, 3, 134), (134, .new 163, 3, 137), (137, .dup, 1, 138), (138, .iload_n 1, 1, 139), (139, .iload_n 2, 1, 140), (140, .aload_n 0, 1, 141), (141, .getfield 37, 3, 144), (144, .invokevirtual 165, 3, 147), (147, .invokespecial 169, 3, 150), (150, .invokevirtual 172, 3, 153), (153, .invokevirtual 98, 3, 156), (156, .ireturn, 1, 157)]
set_option maxRecDepth 100000 in
theorem TX11_edict_1 : zchk (zMc mX11_edict) tX11_edict_1 = true := by decide +kernel
theorem kX11_edict : zOK mX11_edict := ⟨zw462, zw64, by decide, by decide +kernel, by decide +kernel⟩
def mX11_fault : zM := (yX11_fault, prog_1_method_9_code, 1, (Option.some Jvm.ClassFile.FieldType.int), [])
def tX11_fault : List (Nat × Instr × Nat × Nat) := [(0, .aload_n 0, 1, 1), (1, .getfield 81, 3, 4), (4, .ireturn, 1, 5)]
set_option maxRecDepth 100000 in
theorem TX11_fault : zchk (zMc mX11_fault) tX11_fault = true := by decide +kernel
theorem kX11_fault : zOK mX11_fault := ⟨zw636, zw64, by decide, by decide +kernel, by decide +kernel⟩
def mX11_where : zM := (yX11_where, prog_1_method_10_code, 1, (Option.some Jvm.ClassFile.FieldType.int), [])
def tX11_where : List (Nat × Instr × Nat × Nat) := [(0, .aload_n 0, 1, 1), (1, .getfield 78, 3, 4), (4, .iconst 4, 1, 5), (5, .if_icmp .ne 10, 3, 8), (8, .aload_n 0, 1, 9), (9, .getfield 84, 3, 12), (12, .goto 4, 3, 15), (15, .iconst (-1), 1, 16), (16, .ireturn, 1, 17)]
set_option maxRecDepth 100000 in
theorem TX11_where : zchk (zMc mX11_where) tX11_where = true := by decide +kernel
theorem kX11_where : zOK mX11_where := ⟨zw640, zw64, by decide, by decide +kernel, by decide +kernel⟩
def mX11_force : zM := (yX11_force, prog_1_method_11_code, 3, (Option.some Jvm.ClassFile.FieldType.int), [])
def tX11_force : List (Nat × Instr × Nat × Nat) := [(0, .aload_n 0, 1, 1), (1, .iload_n 1, 1, 2), (2, .invokevirtual 101, 3, 5), (5, .ifnull 13, 3, 8), (8, .iload_n 2, 1, 9), (9, .iconst 0, 1, 10), (10, .bipush 99, 2, 12), (12, .invokestatic 123, 3, 15), (15, .ifCond .ne 5, 3, 18), (18, .iconst (-1), 1, 19), (19, .ireturn, 1, 20), (20, .aload_n 0, 1, 21), (21, .getfield 44, 3, 24), (24, .iload_n 1, 1, 25), (25, .iload_n 2, 1, 26), (26, .invokevirtual 176, 3, 29), (29, .ireturn, 1, 30)]
set_option maxRecDepth 100000 in
theorem TX11_force : zchk (zMc mX11_force) tX11_force = true := by decide +kernel
theorem kX11_force : zOK mX11_force := ⟨zw644, zw64, by decide, by decide +kernel, by decide +kernel⟩
def mX11_price : zM := (yX11_price, prog_1_method_12_code, 5, (Option.some Jvm.ClassFile.FieldType.int), [])
def tX11_price : List (Nat × Instr × Nat × Nat) := [(0, .aload_n 0, 1, 1), (1, .iload_n 1, 1, 2), (2, .invokevirtual 101, 3, 5), (5, .astore 4, 2, 7), (7, .aload 4, 2, 9), (9, .ifnull 13, 3, 12), (12, .iload_n 2, 1, 13), (13, .iconst 0, 1, 14), (14, .bipush 99, 2, 16), (16, .invokestatic 123, 3, 19), (19, .ifCond .ne 5, 3, 22), (22, .iconst (-1), 1, 23), (23, .ireturn, 1, 24), (24, .aload_n 0, 1, 25), (25, .getfield 44, 3, 28), (28, .aload 4, 2, 30), (30, .iload_n 1, 1, 31), (31, .iload_n 2, 1, 32), (32, .invokevirtual 180, 3, 35), (35, .iload_n 3, 1, 36), (36, .ifCond .eq 13, 3, 39), (39, .aload 4, 2, 41), (41, .getfield 184, 3, 44), (44, .iload_n 2, 1, 45), (45, .iaload, 1, 46), (46, .goto 10, 3, 49), (49, .aload 4, 2, 51), (51, .getfield 188, 3, 54), (54, .iload_n 2, 1, 55), (55, .iaload, 1, 56), (56, .ireturn, 1, 57)]
set_option maxRecDepth 100000 in
theorem TX11_price : zchk (zMc mX11_price) tX11_price = true := by decide +kernel
theorem kX11_price : zOK mX11_price := ⟨zw652, zw64, by decide, by decide +kernel, by decide +kernel⟩
def mX11_brought : zM := (yX11_brought, prog_1_method_13_code, 3, (Option.some Jvm.ClassFile.FieldType.int), [])
def tX11_brought : List (Nat × Instr × Nat × Nat) := [(0, .aload_n 0, 1, 1), (1, .iload_n 1, 1, 2), (2, .invokevirtual 101, 3, 5), (5, .ifnull 11, 3, 8), (8, .aload_n 0, 1, 9), (9, .iload_n 2, 1, 10), (10, .invokevirtual 101, 3, 13), (13, .ifnonnull 5, 3, 16), (16, .iconst (-1), 1, 17), (17, .ireturn, 1, 18), (18, .aload_n 0, 1, 19), (19, .invokevirtual 191, 3, 22), (22, .aload_n 0, 1, 23), (23, .getfield 51, 3, 26), (26, .iload_n 1, 1, 27), (27, .iload_n 2, 1, 28), (28, .invokevirtual 194, 3, 31), (31, .ireturn, 1, 32)]
set_option maxRecDepth 100000 in
theorem TX11_brought : zchk (zMc mX11_brought) tX11_brought = true := by decide +kernel
theorem kX11_brought : zOK mX11_brought := ⟨zw703, zw64, by decide, by decide +kernel, by decide +kernel⟩
def mX11_cheap : zM := (yX11_cheap, prog_1_method_14_code, 2, (Option.some Jvm.ClassFile.FieldType.int), [])
def tX11_cheap : List (Nat × Instr × Nat × Nat) := [(0, .aload_n 0, 1, 1), (1, .iload_n 1, 1, 2), (2, .invokevirtual 101, 3, 5), (5, .ifnonnull 5, 3, 8), (8, .iconst (-1), 1, 9), (9, .ireturn, 1, 10), (10, .aload_n 0, 1, 11), (11, .invokevirtual 191, 3, 14), (14, .aload_n 0, 1, 15), (15, .getfield 51, 3, 18), (18, .iload_n 1, 1, 19), (19, .invokevirtual 197, 3, 22), (22, .ireturn, 1, 23)]
set_option maxRecDepth 100000 in
theorem TX11_cheap : zchk (zMc mX11_cheap) tX11_cheap = true := by decide +kernel
theorem kX11_cheap : zOK mX11_cheap := ⟨zw736, zw64, by decide, by decide +kernel, by decide +kernel⟩
def mX11_source : zM := (yX11_source, prog_1_method_15_code, 2, (Option.some Jvm.ClassFile.FieldType.int), [])
def tX11_source : List (Nat × Instr × Nat × Nat) := [(0, .aload_n 0, 1, 1), (1, .iload_n 1, 1, 2), (2, .invokevirtual 101, 3, 5), (5, .ifnonnull 5, 3, 8), (8, .iconst (-1), 1, 9), (9, .ireturn, 1, 10), (10, .aload_n 0, 1, 11), (11, .invokevirtual 191, 3, 14), (14, .aload_n 0, 1, 15), (15, .getfield 51, 3, 18), (18, .iload_n 1, 1, 19), (19, .invokevirtual 200, 3, 22), (22, .ireturn, 1, 23)]
set_option maxRecDepth 100000 in
theorem TX11_source : zchk (zMc mX11_source) tX11_source = true := by decide +kernel
theorem kX11_source : zOK mX11_source := ⟨zw744, zw64, by decide, by decide +kernel, by decide +kernel⟩
def mX11_taken : zM := (yX11_taken, prog_1_method_16_code, 2, (Option.some Jvm.ClassFile.FieldType.long), [])
def tX11_taken : List (Nat × Instr × Nat × Nat) := [(0, .aload_n 0, 1, 1), (1, .iload_n 1, 1, 2), (2, .invokevirtual 101, 3, 5), (5, .ifnonnull 7, 3, 8), (8, .ldc2_w 203, 3, 11), (11, .lreturn, 1, 12), (12, .aload_n 0, 1, 13), (13, .invokevirtual 191, 3, 16), (16, .aload_n 0, 1, 17), (17, .getfield 51, 3, 20), (20, .iload_n 1, 1, 21), (21, .invokevirtual 205, 3, 24), (24, .lreturn, 1, 25)]
set_option maxRecDepth 100000 in
theorem TX11_taken : zchk (zMc mX11_taken) tX11_taken = true := by decide +kernel
theorem kX11_taken : zOK mX11_taken := ⟨zw753, zw64, by decide, by decide +kernel, by decide +kernel⟩
def mX11_crown : zM := (yX11_crown, prog_1_method_17_code, 1, (Option.some Jvm.ClassFile.FieldType.long), [])
def tX11_crown : List (Nat × Instr × Nat × Nat) := [(0, .aload_n 0, 1, 1), (1, .invokevirtual 191, 3, 4), (4, .aload_n 0, 1, 5), (5, .getfield 51, 3, 8), (8, .invokevirtual 209, 3, 11), (11, .lreturn, 1, 12)]
set_option maxRecDepth 100000 in
theorem TX11_crown : zchk (zMc mX11_crown) tX11_crown = true := by decide +kernel
theorem kX11_crown : zOK mX11_crown := ⟨zw763, zw64, by decide, by decide +kernel, by decide +kernel⟩
def mX11_lost : zM := (yX11_lost, prog_1_method_18_code, 1, (Option.some Jvm.ClassFile.FieldType.long), [])
def tX11_lost : List (Nat × Instr × Nat × Nat) := [(0, .aload_n 0, 1, 1), (1, .invokevirtual 191, 3, 4), (4, .aload_n 0, 1, 5), (5, .getfield 51, 3, 8), (8, .invokevirtual 213, 3, 11), (11, .lreturn, 1, 12)]
set_option maxRecDepth 100000 in
theorem TX11_lost : zchk (zMc mX11_lost) tX11_lost = true := by decide +kernel
theorem kX11_lost : zOK mX11_lost := ⟨zw771, zw64, by decide, by decide +kernel, by decide +kernel⟩
def mX11_carried : zM := (yX11_carried, prog_1_method_19_code, 2, (Option.some Jvm.ClassFile.FieldType.long), [])
def tX11_carried : List (Nat × Instr × Nat × Nat) := [(0, .aload_n 0, 1, 1), (1, .iload_n 1, 1, 2), (2, .invokevirtual 130, 3, 5), (5, .ifnonnull 7, 3, 8), (8, .ldc2_w 203, 3, 11), (11, .lreturn, 1, 12), (12, .aload_n 0, 1, 13), (13, .invokevirtual 191, 3, 16), (16, .aload_n 0, 1, 17), (17, .getfield 51, 3, 20), (20, .iload_n 1, 1, 21), (21, .invokevirtual 216, 3, 24), (24, .lreturn, 1, 25)]
set_option maxRecDepth 100000 in
theorem TX11_carried : zchk (zMc mX11_carried) tX11_carried = true := by decide +kernel
theorem kX11_carried : zOK mX11_carried := ⟨zw779, zw64, by decide, by decide +kernel, by decide +kernel⟩
def mX11_way : zM := (yX11_way, prog_1_method_20_code, 2, (Option.some Jvm.ClassFile.FieldType.int), [])
def tX11_way : List (Nat × Instr × Nat × Nat) := [(0, .aload_n 0, 1, 1), (1, .iload_n 1, 1, 2), (2, .invokevirtual 101, 3, 5), (5, .ifnonnull 5, 3, 8), (8, .iconst (-1), 1, 9), (9, .ireturn, 1, 10), (10, .aload_n 0, 1, 11), (11, .invokevirtual 191, 3, 14), (14, .aload_n 0, 1, 15), (15, .getfield 51, 3, 18), (18, .iload_n 1, 1, 19), (19, .invokevirtual 219, 3, 22), (22, .aload_n 0, 1, 23), (23, .getfield 51, 3, 26), (26, .getfield 222, 3, 29), (29, .ireturn, 1, 30)]
set_option maxRecDepth 100000 in
theorem TX11_way : zchk (zMc mX11_way) tX11_way = true := by decide +kernel
theorem kX11_way : zOK mX11_way := ⟨zw795, zw64, by decide, by decide +kernel, by decide +kernel⟩
def mX11_wayAt : zM := (yX11_wayAt, prog_1_method_21_code, 3, (Option.some Jvm.ClassFile.FieldType.int), [])
def tX11_wayAt : List (Nat × Instr × Nat × Nat) := [(0, .aload_n 0, 1, 1), (1, .iload_n 1, 1, 2), (2, .invokevirtual 101, 3, 5), (5, .ifnonnull 5, 3, 8), (8, .iconst (-1), 1, 9), (9, .ireturn, 1, 10), (10, .aload_n 0, 1, 11), (11, .invokevirtual 191, 3, 14), (14, .aload_n 0, 1, 15), (15, .getfield 51, 3, 18), (18, .iload_n 1, 1, 19), (19, .invokevirtual 219, 3, 22), (22, .aload_n 0, 1, 23), (23, .getfield 51, 3, 26), (26, .iload_n 2, 1, 27), (27, .invokevirtual 225, 3, 30), (30, .ireturn, 1, 31)]
set_option maxRecDepth 100000 in
theorem TX11_wayAt : zchk (zMc mX11_wayAt) tX11_wayAt = true := by decide +kernel
theorem kX11_wayAt : zOK mX11_wayAt := ⟨zw800, zw64, by decide, by decide +kernel, by decide +kernel⟩
def mX11_best : zM := (yX11_best, prog_1_method_22_code, 4, (Option.some Jvm.ClassFile.FieldType.long), [])
def tX11_best : List (Nat × Instr × Nat × Nat) := [(0, .iload_n 1, 1, 1), (1, .iconst 0, 1, 2), (2, .iconst 3, 1, 3), (3, .invokestatic 123, 3, 6), (6, .ifCond .ne 10, 3, 9), (9, .aload_n 0, 1, 10), (10, .iconst 2, 1, 11), (11, .invokevirtual 91, 3, 14), (14, .i2l, 1, 15), (15, .lreturn, 1, 16), (16, .aload_n 0, 1, 17), (17, .invokevirtual 191, 3, 20), (20, .iconst 0, 1, 21), (21, .istore_n 2, 1, 22), (22, .iload_n 2, 1, 23), (23, .aload_n 0, 1, 24), (24, .getfield 66, 3, 27), (27, .if_icmp .ge 36, 3, 30), (30, .aload_n 0, 1, 31), (31, .getfield 17, 3, 34), (34, .iload_n 2, 1, 35), (35, .aaload, 1, 36), (36, .astore_n 3, 1, 37), (37, .aload_n 0, 1, 38), (38, .getfield 51, 3, 41), (41, .iload_n 2, 1, 42), (42, .aload_n 3, 1, 43), (43, .getfield 228, 3, 46), (46, .aload_n 3, 1, 47), (47, .getfield 231, 3, 50), (50, .aload_n 3, 1, 51), (51, .getfield 234, 3, 54), (54, .invokevirtual 237, 3, 57), (57, .iinc 2 1, 3, 60), (60, .goto (-38), 3, 63), (63, .aload_n 0, 1, 64), (64, .getfield 58, 3, 67), (67, .aload_n 0, 1, 68), (68, .getfield 51, 3, 71), (71, .iload_n 1, 1, 72), (72, .aload_n 0, 1, 73), (73, .getfield 75, 3, 76), (76, .invokevirtual 241, 3, 79), (79, .lstore_n 2, 1, 80), (80, .aload_n 0, 1, 81), (81, .iconst 0, 1, 82), (82, .putfield 78, 3, 85), (85, .lload_n 2, 1, 86), (86, .lreturn, 1, 87)]
set_option maxRecDepth 100000 in
theorem TX11_best : zchk (zMc mX11_best) tX11_best = true := by decide +kernel
theorem kX11_best : zOK mX11_best := ⟨zw808, zw64, by decide, by decide +kernel, by decide +kernel⟩
def mX11_stand : zM := (yX11_stand, prog_1_method_23_code, 2, (Option.some Jvm.ClassFile.FieldType.int), [])
def tX11_stand : List (Nat × Instr × Nat × Nat) := [(0, .aload_n 0, 1, 1), (1, .getfield 58, 3, 4), (4, .iload_n 1, 1, 5), (5, .invokevirtual 245, 3, 8), (8, .ireturn, 1, 9)]
set_option maxRecDepth 100000 in
theorem TX11_stand : zchk (zMc mX11_stand) tX11_stand = true := by decide +kernel
theorem kX11_stand : zOK mX11_stand := ⟨zw831, zw64, by decide, by decide +kernel, by decide +kernel⟩
def mX11_pass : zM := (yX11_pass, prog_1_method_24_code, 2, (Option.some Jvm.ClassFile.FieldType.int), [])
def tX11_pass : List (Nat × Instr × Nat × Nat) := [(0, .iconst 0, 1, 1), (1, .istore_n 1, 1, 2), (2, .iload_n 1, 1, 3), (3, .aload_n 0, 1, 4), (4, .getfield 69, 3, 7), (7, .if_icmp .ge 27, 3, 10), (10, .aload_n 0, 1, 11), (11, .getfield 23, 3, 14), (14, .iload_n 1, 1, 15), (15, .aaload, 1, 16), (16, .getfield 248, 3, 19), (19, .ifCond .ne 9, 3, 22), (22, .aload_n 0, 1, 23), (23, .iconst 5, 1, 24), (24, .invokevirtual 91, 3, 27), (27, .ireturn, 1, 28), (28, .iinc 1 1, 3, 31), (31, .goto (-29), 3, 34), (34, .aload_n 0, 1, 35), (35, .getfield 72, 3, 38), (38, .bipush 99, 2, 40), (40, .if_icmp .lt 9, 3, 43), (43, .aload_n 0, 1, 44), (44, .iconst 2, 1, 45), (45, .invokevirtual 91, 3, 48), (48, .ireturn, 1, 49), (49, .iconst 0, 1, 50), (50, .istore_n 1, 1, 51), (51, .iload_n 1, 1, 52), (52, .aload_n 0, 1, 53), (53, .getfield 69, 3, 56), (56, .if_icmp .ge 18, 3, 59), (59, .aload_n 0, 1, 60), (60, .getfield 23, 3, 63), (63, .iload_n 1, 1, 64), (64, .aaload, 1, 65), (65, .invokevirtual 252, 3, 68), (68, .iinc 1 1, 3, 71), (71, .goto (-20), 3, 74), (74, .aload_n 0, 1, 75), (75, .dup, 1, 76), (76, .getfield 72, 3, 79), (79, .iconst 1, 1, 80), (80, .iadd, 1, 81), (81, .putfield 72, 3, 84), (84, .aload_n 0, 1, 85), (85, .aload_n 0, 1, 86), (86, .getfield 72, 3, 89), (89, .invokevirtual 98, 3, 92), (92, .ireturn, 1, 93)]
set_option maxRecDepth 100000 in
theorem TX11_pass : zchk (zMc mX11_pass) tX11_pass = true := by decide +kernel
theorem kX11_pass : zOK mX11_pass := ⟨zw839, zw64, by decide, by decide +kernel, by decide +kernel⟩
def mX11_store : zM := (yX11_store, prog_1_method_25_code, 3, (Option.some Jvm.ClassFile.FieldType.int), [])
def tX11_store : List (Nat × Instr × Nat × Nat) := [(0, .aload_n 0, 1, 1), (1, .iload_n 1, 1, 2), (2, .invokevirtual 101, 3, 5), (5, .ifnonnull 9, 3, 8), (8, .aload_n 0, 1, 9), (9, .iconst 1, 1, 10), (10, .invokevirtual 91, 3, 13), (13, .ireturn, 1, 14), (14, .iload_n 2, 1, 15), (15, .iconst 0, 1, 16), (16, .ldc 255, 2, 18), (18, .invokestatic 123, 3, 21), (21, .ifCond .ne 9, 3, 24), (24, .aload_n 0, 1, 25), (25, .iconst 2, 1, 26), (26, .invokevirtual 91, 3, 29), (29, .ireturn, 1, 30), (30, .aload_n 0, 1, 31), (31, .getfield 69, 3, 34), (34, .bipush 8, 2, 36), (36, .if_icmp .lt 9, 3, 39), (39, .aload_n 0, 1, 40), (40, .iconst 3, 1, 41), (41, .invokevirtual 91, 3, 44), (44, .ireturn, 1, 45), (45, .aload_n 0, 1, 46), (46, .getfield 23, 3, 49), (49, .aload_n 0, 1, 50), (50, .getfield 69, 3, 53), (53, .new 21, 3, 56), (56, .dup, 1, 57), (57, .iload_n 2, 1, 58), (58, .invokespecial 256, 3, 61), (61, .aastore, 1, 62), (62, .aload_n 0, 1, 63), (63, .dup, 1, 64), (64, .getfield 69, 3, 67), (67, .iconst 1, 1, 68), (68, .iadd, 1, 69), (69, .putfield 69, 3, 72), (72, .aload_n 0, 1, 73), (73, .aload_n 0, 1, 74), (74, .getfield 69, 3, 77), (77, .iconst 1, 1, 78), (78, .isub, 1, 79), (79, .invokevirtual 98, 3, 82), (82, .ireturn, 1, 83)]
set_option maxRecDepth 100000 in
theorem TX11_store : zchk (zMc mX11_store) tX11_store = true := by decide +kernel
theorem kX11_store : zOK mX11_store := ⟨zw851, zw64, by decide, by decide +kernel, by decide +kernel⟩
def mX11_moves : zM := (yX11_moves, prog_1_method_26_code, 6, (Option.some Jvm.ClassFile.FieldType.int), [])
def tX11_moves : List (Nat × Instr × Nat × Nat) := [(0, .aload_n 0, 1, 1), (1, .iload_n 1, 1, 2), (2, .invokevirtual 258, 3, 5), (5, .astore 4, 2, 7), (7, .aload 4, 2, 9), (9, .ifnonnull 9, 3, 12), (12, .aload_n 0, 1, 13), (13, .iconst 1, 1, 14), (14, .invokevirtual 91, 3, 17), (17, .ireturn, 1, 18), (18, .iload_n 3, 1, 19), (19, .ifCond .eq 11, 3, 22), (22, .aload 4, 2, 24), (24, .getfield 262, 3, 27), (27, .goto 8, 3, 30), (30, .aload 4, 2, 32), (32, .getfield 265, 3, 35), (35, .istore 5, 2, 37), (37, .iload_n 2, 1, 38), (38, .iconst 1, 1, 39), (39, .ldc 255, 2, 41), (41, .invokestatic 123, 3, 44), (44, .ifCond .eq 13, 3, 47), (47, .iload_n 2, 1, 48), (48, .ldc_w 268, 3, 51), (51, .iload 5, 2, 53), (53, .isub, 1, 54), (54, .if_icmp .le 9, 3, 57), (57, .aload_n 0, 1, 58), (58, .iconst 2, 1, 59), (59, .invokevirtual 91, 3, 62), (62, .ireturn, 1, 63), (63, .iload_n 3, 1, 64), (64, .ifCond .eq 15, 3, 67), (67, .aload 4, 2, 69), (69, .iload 5, 2, 71), (71, .iload_n 2, 1, 72), (72, .iadd, 1, 73), (73, .putfield 262, 3, 76), (76, .goto 12, 3, 79), (79, .aload 4, 2, 81), (81, .iload 5, 2, 83), (83, .iload_n 2, 1, 84), (84, .iadd, 1, 85), (85, .putfield 265, 3, 88), (88, .aload_n 0, 1, 89), (89, .iload 5, 2, 91), (91, .iload_n 2, 1, 92), (92, .iadd, 1, 93), (93, .invokevirtual 98, 3, 96), (96, .ireturn, 1, 97)]
set_option maxRecDepth 100000 in
theorem TX11_moves : zchk (zMc mX11_moves) tX11_moves = true := by decide +kernel
theorem kX11_moves : zOK mX11_moves := ⟨zw885, zw64, by decide, by decide +kernel, by decide +kernel⟩
def mX11_counted : zM := (yX11_counted, prog_1_method_27_code, 4, (Option.some Jvm.ClassFile.FieldType.int), [])
def tX11_counted : List (Nat × Instr × Nat × Nat) := [(0, .aload_n 0, 1, 1), (1, .iload_n 1, 1, 2), (2, .invokevirtual 258, 3, 5), (5, .astore_n 3, 1, 6), (6, .aload_n 3, 1, 7), (7, .ifnonnull 9, 3, 10), (10, .aload_n 0, 1, 11), (11, .iconst 1, 1, 12), (12, .invokevirtual 91, 3, 15), (15, .ireturn, 1, 16), (16, .iload_n 2, 1, 17), (17, .iconst 0, 1, 18), (18, .ldc_w 268, 3, 21), (21, .invokestatic 123, 3, 24), (24, .ifCond .ne 9, 3, 27), (27, .aload_n 0, 1, 28), (28, .iconst 2, 1, 29), (29, .invokevirtual 91, 3, 32), (32, .ireturn, 1, 33), (33, .aload_n 3, 1, 34), (34, .iload_n 2, 1, 35), (35, .putfield 269, 3, 38), (38, .aload_n 3, 1, 39), (39, .iconst 1, 1, 40), (40, .putfield 248, 3, 43), (43, .aload_n 0, 1, 44), (44, .aload_n 3, 1, 45), (45, .invokevirtual 272, 3, 48), (48, .invokevirtual 98, 3, 51), (51, .ireturn, 1, 52)]
set_option maxRecDepth 100000 in
theorem TX11_counted : zchk (zMc mX11_counted) tX11_counted = true := by decide +kernel
theorem kX11_counted : zOK mX11_counted := ⟨zw894, zw64, by decide, by decide +kernel, by decide +kernel⟩
def mX11_missing : zM := (yX11_missing, prog_1_method_28_code, 3, (Option.some Jvm.ClassFile.FieldType.long), [])
def tX11_missing : List (Nat × Instr × Nat × Nat) := [(0, .aload_n 0, 1, 1), (1, .iload_n 1, 1, 2), (2, .invokevirtual 258, 3, 5), (5, .astore_n 2, 1, 6), (6, .aload_n 2, 1, 7), (7, .ifnonnull 7, 3, 10), (10, .lconst 0, 1, 11), (11, .goto 7, 3, 14), (14, .aload_n 2, 1, 15), (15, .getfield 276, 3, 18), (18, .lreturn, 1, 19)]
set_option maxRecDepth 100000 in
theorem TX11_missing : zchk (zMc mX11_missing) tX11_missing = true := by decide +kernel
theorem kX11_missing : zOK mX11_missing := ⟨zw899, zw64, by decide, by decide +kernel, by decide +kernel⟩
def mX11_worst : zM := (yX11_worst, prog_1_method_29_code, 5, (Option.some Jvm.ClassFile.FieldType.int), [])
def tX11_worst : List (Nat × Instr × Nat × Nat) := [(0, .bipush (-2), 2, 2), (2, .istore_n 1, 1, 3), (3, .lconst 0, 1, 4), (4, .lstore_n 2, 1, 5), (5, .iconst 0, 1, 6), (6, .istore 4, 2, 8), (8, .iload 4, 2, 10), (10, .aload_n 0, 1, 11), (11, .getfield 69, 3, 14), (14, .if_icmp .ge 38, 3, 17), (17, .aload_n 0, 1, 18), (18, .getfield 23, 3, 21), (21, .iload 4, 2, 23), (23, .aaload, 1, 24), (24, .getfield 276, 3, 27), (27, .lload_n 2, 1, 28), (28, .lcmp, 1, 29), (29, .ifCond .le 17, 3, 32), (32, .aload_n 0, 1, 33), (33, .getfield 23, 3, 36), (36, .iload 4, 2, 38), (38, .aaload, 1, 39), (39, .getfield 276, 3, 42), (42, .lstore_n 2, 1, 43), (43, .iload 4, 2, 45), (45, .istore_n 1, 1, 46), (46, .iinc 4 1, 3, 49), (49, .goto (-41), 3, 52), (52, .iload_n 1, 1, 53), (53, .ireturn, 1, 54)]
set_option maxRecDepth 100000 in
theorem TX11_worst : zchk (zMc mX11_worst) tX11_worst = true := by decide +kernel
theorem kX11_worst : zOK mX11_worst := ⟨zw903, zw64, by decide, by decide +kernel, by decide +kernel⟩
def mX11_count : zM := (yX11_count, prog_1_method_30_code, 2, (Option.some Jvm.ClassFile.FieldType.int), [])
def tX11_count : List (Nat × Instr × Nat × Nat) := [(0, .iload_n 1, 1, 1), (1, .tableswitch 84 0 6 #[43, 48, 53, 61, 66, 71, 79], 43, 44), (44, .aload_n 0, 1, 45), (45, .getfield 62, 3, 48), (48, .ireturn, 1, 49), (49, .aload_n 0, 1, 50), (50, .getfield 66, 3, 53), (53, .ireturn, 1, 54), (54, .aload_n 0, 1, 55), (55, .getfield 44, 3, 58), (58, .getfield 280, 3, 61), (61, .ireturn, 1, 62), (62, .aload_n 0, 1, 63), (63, .getfield 72, 3, 66), (66, .ireturn, 1, 67), (67, .aload_n 0, 1, 68), (68, .getfield 69, 3, 71), (71, .ireturn, 1, 72), (72, .aload_n 0, 1, 73), (73, .getfield 30, 3, 76), (76, .getfield 143, 3, 79), (79, .ireturn, 1, 80), (80, .aload_n 0, 1, 81), (81, .invokevirtual 283, 3, 84), (84, .ireturn, 1, 85), (85, .iconst (-1), 1, 86), (86, .ireturn, 1, 87)]
set_option maxRecDepth 100000 in
theorem TX11_count : zchk (zMc mX11_count) tX11_count = true := by decide +kernel
theorem kX11_count : zOK mX11_count := ⟨zw907, zw64, by decide, by decide +kernel, by decide +kernel⟩
def mX11_trouble : zM := (yX11_trouble, prog_1_method_31_code, 1, (Option.some Jvm.ClassFile.FieldType.int), [])
def tX11_trouble : List (Nat × Instr × Nat × Nat) := [(0, .aload_n 0, 1, 1), (1, .getfield 78, 3, 4), (4, .ireturn, 1, 5)]
set_option maxRecDepth 100000 in
theorem TX11_trouble : zchk (zMc mX11_trouble) tX11_trouble = true := by decide +kernel
theorem kX11_trouble : zOK mX11_trouble := ⟨zw915, zw64, by decide, by decide +kernel, by decide +kernel⟩
def mX11_refuse : zM := (yX11_refuse, prog_1_method_32_code, 2, (Option.some Jvm.ClassFile.FieldType.int), [])
def tX11_refuse : List (Nat × Instr × Nat × Nat) := [(0, .aload_n 0, 1, 1), (1, .iload_n 1, 1, 2), (2, .putfield 78, 3, 5), (5, .iconst (-1), 1, 6), (6, .ireturn, 1, 7)]
set_option maxRecDepth 100000 in
theorem TX11_refuse : zchk (zMc mX11_refuse) tX11_refuse = true := by decide +kernel
theorem kX11_refuse : zOK mX11_refuse := ⟨zw347, zw64, by decide, by decide +kernel, by decide +kernel⟩
def mX11_grant : zM := (yX11_grant, prog_1_method_33_code, 2, (Option.some Jvm.ClassFile.FieldType.int), [])
def tX11_grant : List (Nat × Instr × Nat × Nat) := [(0, .aload_n 0, 1, 1), (1, .iconst 0, 1, 2), (2, .putfield 78, 3, 5), (5, .iload_n 1, 1, 6), (6, .ireturn, 1, 7)]
set_option maxRecDepth 100000 in
theorem TX11_grant : zchk (zMc mX11_grant) tX11_grant = true := by decide +kernel
theorem kX11_grant : zOK mX11_grant := ⟨zw385, zw64, by decide, by decide +kernel, by decide +kernel⟩
def mX11_deny : zM := (yX11_deny, prog_1_method_34_code, 2, (Option.some Jvm.ClassFile.FieldType.boolean), [])
def tX11_deny : List (Nat × Instr × Nat × Nat) := [(0, .aload_n 0, 1, 1), (1, .iload_n 1, 1, 2), (2, .putfield 78, 3, 5), (5, .iconst 0, 1, 6), (6, .ireturn, 1, 7)]
set_option maxRecDepth 100000 in
theorem TX11_deny : zchk (zMc mX11_deny) tX11_deny = true := by decide +kernel
theorem kX11_deny : zOK mX11_deny := ⟨zw397, zw64, by decide, by decide +kernel, by decide +kernel⟩
def mX11_allow : zM := (yX11_allow, prog_1_method_35_code, 1, (Option.some Jvm.ClassFile.FieldType.boolean), [])
def tX11_allow : List (Nat × Instr × Nat × Nat) := [(0, .aload_n 0, 1, 1), (1, .iconst 0, 1, 2), (2, .putfield 78, 3, 5), (5, .iconst 1, 1, 6), (6, .ireturn, 1, 7)]
set_option maxRecDepth 100000 in
theorem TX11_allow : zchk (zMc mX11_allow) tX11_allow = true := by decide +kernel
theorem kX11_allow : zOK mX11_allow := ⟨zw408, zw64, by decide, by decide +kernel, by decide +kernel⟩
def mX11_provinceAt : zM := (yX11_provinceAt, prog_1_method_36_code, 2, (Option.some (Jvm.ClassFile.FieldType.object "SaltFarm$Province")), [])
def tX11_provinceAt : List (Nat × Instr × Nat × Nat) := [(0, .iload_n 1, 1, 1), (1, .iconst 0, 1, 2), (2, .aload_n 0, 1, 3), (3, .getfield 62, 3, 6), (6, .iconst 1, 1, 7), (7, .isub, 1, 8), (8, .invokestatic 123, 3, 11), (11, .ifCond .eq 12, 3, 14), (14, .aload_n 0, 1, 15), (15, .getfield 11, 3, 18), (18, .iload_n 1, 1, 19), (19, .aaload, 1, 20), (20, .goto 4, 3, 23), (23, .aconst_null, 1, 24), (24, .areturn, 1, 25)]
set_option maxRecDepth 100000 in
theorem TX11_provinceAt : zchk (zMc mX11_provinceAt) tX11_provinceAt = true := by decide +kernel
theorem kX11_provinceAt : zOK mX11_provinceAt := ⟨zw393, zw64, by decide, by decide +kernel, by decide +kernel⟩
def mX11_borderAt : zM := (yX11_borderAt, prog_1_method_37_code, 2, (Option.some (Jvm.ClassFile.FieldType.object "SaltFarm$Border")), [])
def tX11_borderAt : List (Nat × Instr × Nat × Nat) := [(0, .iload_n 1, 1, 1), (1, .iconst 0, 1, 2), (2, .aload_n 0, 1, 3), (3, .getfield 66, 3, 6), (6, .iconst 1, 1, 7), (7, .isub, 1, 8), (8, .invokestatic 123, 3, 11), (11, .ifCond .eq 12, 3, 14), (14, .aload_n 0, 1, 15), (15, .getfield 17, 3, 18), (18, .iload_n 1, 1, 19), (19, .aaload, 1, 20), (20, .goto 4, 3, 23), (23, .aconst_null, 1, 24), (24, .areturn, 1, 25)]
set_option maxRecDepth 100000 in
theorem TX11_borderAt : zchk (zMc mX11_borderAt) tX11_borderAt = true := by decide +kernel
theorem kX11_borderAt : zOK mX11_borderAt := ⟨zw442, zw64, by decide, by decide +kernel, by decide +kernel⟩
def mX11_storeAt : zM := (yX11_storeAt, prog_1_method_38_code, 2, (Option.some (Jvm.ClassFile.FieldType.object "SaltFarm$Store")), [])
def tX11_storeAt : List (Nat × Instr × Nat × Nat) := [(0, .iload_n 1, 1, 1), (1, .iconst 0, 1, 2), (2, .aload_n 0, 1, 3), (3, .getfield 69, 3, 6), (6, .iconst 1, 1, 7), (7, .isub, 1, 8), (8, .invokestatic 123, 3, 11), (11, .ifCond .eq 12, 3, 14), (14, .aload_n 0, 1, 15), (15, .getfield 23, 3, 18), (18, .iload_n 1, 1, 19), (19, .aaload, 1, 20), (20, .goto 4, 3, 23), (23, .aconst_null, 1, 24), (24, .areturn, 1, 25)]
set_option maxRecDepth 100000 in
theorem TX11_storeAt : zchk (zMc mX11_storeAt) tX11_storeAt = true := by decide +kernel
theorem kX11_storeAt : zOK mX11_storeAt := ⟨zw889, zw64, by decide, by decide +kernel, by decide +kernel⟩
def mX11_guardsInAll : zM := (yX11_guardsInAll, prog_1_method_39_code, 3, (Option.some Jvm.ClassFile.FieldType.int), [])
def tX11_guardsInAll : List (Nat × Instr × Nat × Nat) := [(0, .iconst 0, 1, 1), (1, .istore_n 1, 1, 2), (2, .iconst 0, 1, 3), (3, .istore_n 2, 1, 4), (4, .iload_n 2, 1, 5), (5, .aload_n 0, 1, 6), (6, .getfield 66, 3, 9), (9, .if_icmp .ge 21, 3, 12), (12, .iload_n 1, 1, 13), (13, .aload_n 0, 1, 14), (14, .getfield 17, 3, 17), (17, .iload_n 2, 1, 18), (18, .aaload, 1, 19), (19, .getfield 134, 3, 22), (22, .iadd, 1, 23), (23, .istore_n 1, 1, 24), (24, .iinc 2 1, 3, 27), (27, .goto (-23), 3, 30), (30, .iload_n 1, 1, 31), (31, .ireturn, 1, 32)]
set_option maxRecDepth 100000 in
theorem TX11_guardsInAll : zchk (zMc mX11_guardsInAll) tX11_guardsInAll = true := by decide +kernel
theorem kX11_guardsInAll : zOK mX11_guardsInAll := ⟨zw911, zw64, by decide, by decide +kernel, by decide +kernel⟩
def mX11_survey : zM := (yX11_survey, prog_1_method_40_code, 3, none, [])
def tX11_survey_0 : List (Nat × Instr × Nat × Nat) := [(0, .aload_n 0, 1, 1), (1, .getfield 51, 3, 4), (4, .aload_n 0, 1, 5), (5, .getfield 62, 3, 8), (8, .putfield 286, 3, 11), (11, .aload_n 0, 1, 12), (12, .getfield 51, 3, 15), (15, .aload_n 0, 1, 16), (16, .getfield 66, 3, 19), (19, .putfield 287, 3, 22), (22, .iconst 0, 1, 23), (23, .istore_n 1, 1, 24), (24, .iload_n 1, 1, 25), (25, .aload_n 0, 1, 26), (26, .getfield 62, 3, 29), (29, .if_icmp .ge 42, 3, 32), (32, .aload_n 0, 1, 33), (33, .getfield 11, 3, 36), (36, .iload_n 1, 1, 37), (37, .aaload, 1, 38), (38, .astore_n 2, 1, 39), (39, .aload_n 0, 1, 40), (40, .getfield 44, 3, 43), (43, .aload_n 2, 1, 44), (44, .iload_n 1, 1, 45), (45, .aload_n 0, 1, 46), (46, .getfield 72, 3, 49), (49, .invokevirtual 180, 3, 52), (52, .aload_n 0, 1, 53), (53, .getfield 51, 3, 56), (56, .iload_n 1, 1, 57), (57, .aload_n 2, 1, 58), (58, .aload_n 0, 1, 59), (59, .getfield 72, 3, 62), (62, .invokevirtual 288, 3, 65), (65, .iinc 1 1, 3, 68), (68, .goto (-44), 3, 71), (71, .iconst 0, 1, 72), (72, .istore_n 1, 1, 73), (73, .iload_n 1, 1, 74), (74, .aload_n 0, 1, 75), (75, .getfield 66, 3, 78), (78, .if_icmp .ge 46, 3, 81), (81, .aload_n 0, 1, 82), (82, .getfield 17, 3, 85), (85, .iload_n 1, 1, 86), (86, .aaload, 1, 87), (87, .astore_n 2, 1, 88), (88, .aload_n 0, 1, 89), (89, .getfield 51, 3, 92), (92, .iload_n 1, 1, 93), (93, .aload_n 2, 1, 94), (94, .getfield 228, 3, 97), (97, .aload_n 2, 1, 98), (98, .getfield 231, 3, 101), (101, .aload_n 2, 1, 102), (102, .getfield 234, 3, 105), (105, .aload_n 2, 1, 106), (106, .getfield 134, 3, 109), (109, .aload_n 0, 1, 110)]
set_option maxRecDepth 100000 in
theorem TX11_survey_0 : zchk (zMc mX11_survey) tX11_survey_0 = true := by decide +kernel
def tX11_survey_1 : List (Nat × Instr × Nat × Nat) := [(110, .getfield 75, 3, 113), (113, .imul, 1, 114), (114, .iadd, 1, 115), (115, .invokevirtual 237, 3, 118), (118, .iinc 1 1, 3, 121), (121, .goto (-48), 3, 124), (124, .aload_n 0, 1, 125), (125, .getfield 51, 3, 128), (128, .invokevirtual 292, 3, 131), (131, .return_, 1, 132)]
set_option maxRecDepth 100000 in
theorem TX11_survey_1 : zchk (zMc mX11_survey) tX11_survey_1 = true := by decide +kernel
theorem kX11_survey : zOK mX11_survey := ⟨zw707, zw64, by decide, by decide +kernel, by decide +kernel⟩
def mX11_fitsPeople : zM := (yX11_fitsPeople, prog_1_method_41_code, 2, (Option.some Jvm.ClassFile.FieldType.boolean), [])
def tX11_fitsPeople : List (Nat × Instr × Nat × Nat) := [(0, .iload_n 0, 1, 1), (1, .iconst 0, 1, 2), (2, .ldc_w 295, 3, 5), (5, .invokestatic 123, 3, 8), (8, .ifCond .eq 17, 3, 11), (11, .iload_n 1, 1, 12), (12, .iconst 0, 1, 13), (13, .bipush 50, 2, 15), (15, .invokestatic 123, 3, 18), (18, .ifCond .eq 7, 3, 21), (21, .iconst 1, 1, 22), (22, .goto 4, 3, 25), (25, .iconst 0, 1, 26), (26, .ireturn, 1, 27)]
set_option maxRecDepth 100000 in
theorem TX11_fitsPeople : zchk (zMc mX11_fitsPeople) tX11_fitsPeople = true := by decide +kernel
theorem kX11_fitsPeople : zOK mX11_fitsPeople := ⟨zw339, zw64, by decide, by decide +kernel, by decide +kernel⟩
def mX11_within : zM := (yX11_within, prog_1_method_42_code, 3, (Option.some Jvm.ClassFile.FieldType.boolean), [])
def tX11_within : List (Nat × Instr × Nat × Nat) := [(0, .iload_n 0, 1, 1), (1, .iload_n 1, 1, 2), (2, .if_icmp .lt 12, 3, 5), (5, .iload_n 0, 1, 6), (6, .iload_n 2, 1, 7), (7, .if_icmp .gt 7, 3, 10), (10, .iconst 1, 1, 11), (11, .goto 4, 3, 14), (14, .iconst 0, 1, 15), (15, .ireturn, 1, 16)]
set_option maxRecDepth 100000 in
theorem TX11_within : zchk (zMc mX11_within) tX11_within = true := by decide +kernel
theorem kX11_within : zOK mX11_within := ⟨zw343, zw64, by decide, by decide +kernel, by decide +kernel⟩
def mX11_bound : zM := (yX11_bound, prog_1_method_43_code, 4, (Option.some Jvm.ClassFile.FieldType.int), [])
def tX11_bound : List (Nat × Instr × Nat × Nat) := [(0, .iload_n 2, 1, 1), (1, .i2l, 1, 2), (2, .iload_n 3, 1, 3), (3, .i2l, 1, 4), (4, .lload_n 0, 1, 5), (5, .invokestatic 296, 3, 8), (8, .invokestatic 302, 3, 11), (11, .l2i, 1, 12), (12, .ireturn, 1, 13)]
set_option maxRecDepth 100000 in
theorem TX11_bound : zchk (zMc mX11_bound) tX11_bound = true := by decide +kernel
theorem kX11_bound : zOK mX11_bound := ⟨zw692, zw64, by decide, by decide +kernel, by decide +kernel⟩
def mX12_init : zM := (yX12_init, prog_15_method_1_code, 1, none, [])
def tX12_init : List (Nat × Instr × Nat × Nat) := [(0, .aload_n 0, 1, 1), (1, .invokespecial 3, 3, 4), (4, .aload_n 0, 1, 5), (5, .bipush 12, 2, 7), (7, .newarray .boolean, 2, 9), (9, .putfield 9, 3, 12), (12, .aload_n 0, 1, 13), (13, .bipush 12, 2, 15), (15, .newarray .int, 2, 17), (17, .putfield 15, 3, 20), (20, .aload_n 0, 1, 21), (21, .bipush 12, 2, 23), (23, .newarray .int, 2, 25), (25, .putfield 19, 3, 28), (28, .aload_n 0, 1, 29), (29, .bipush 12, 2, 31), (31, .newarray .int, 2, 33), (33, .putfield 22, 3, 36), (36, .aload_n 0, 1, 37), (37, .sipush 320, 3, 40), (40, .newarray .int, 2, 42), (42, .putfield 25, 3, 45), (45, .aload_n 0, 1, 46), (46, .sipush 320, 3, 49), (49, .newarray .int, 2, 51), (51, .putfield 28, 3, 54), (54, .return_, 1, 55)]
set_option maxRecDepth 100000 in
theorem TX12_init : zchk (zMc mX12_init) tX12_init = true := by decide +kernel
theorem kX12_init : zOK mX12_init := ⟨zw927, zw73, by decide, by decide +kernel, by decide +kernel⟩
def mX12_put : zM := (yX12_put, prog_15_method_2_code, 3, none, [])
def tX12_put : List (Nat × Instr × Nat × Nat) := [(0, .aload_n 0, 1, 1), (1, .getfield 25, 3, 4), (4, .aload_n 0, 1, 5), (5, .getfield 31, 3, 8), (8, .iload_n 1, 1, 9), (9, .iastore, 1, 10), (10, .aload_n 0, 1, 11), (11, .getfield 28, 3, 14), (14, .aload_n 0, 1, 15), (15, .getfield 31, 3, 18), (18, .iload_n 2, 1, 19), (19, .iastore, 1, 20), (20, .aload_n 0, 1, 21), (21, .dup, 1, 22), (22, .getfield 31, 3, 25), (25, .iconst 1, 1, 26), (26, .iadd, 1, 27), (27, .putfield 31, 3, 30), (30, .return_, 1, 31)]
set_option maxRecDepth 100000 in
theorem TX12_put : zchk (zMc mX12_put) tX12_put = true := by decide +kernel
theorem kX12_put : zOK mX12_put := ⟨zw1304, zw73, by decide, by decide +kernel, by decide +kernel⟩
def mX13_init : zM := (yX13_init, prog_16_method_1_code, 1, none, [])
def tX13_init : List (Nat × Instr × Nat × Nat) := [(0, .aload_n 0, 1, 1), (1, .aconst_null, 1, 2), (2, .aconst_null, 1, 3), (3, .iconst 0, 1, 4), (4, .iconst 0, 1, 5), (5, .invokespecial 1, 3, 8), (8, .return_, 1, 9)]
set_option maxRecDepth 100000 in
theorem TX13_init : zchk (zMc mX13_init) tX13_init = true := by decide +kernel
theorem kX13_init : zOK mX13_init := ⟨zw1009, zw77, by decide, by decide +kernel, by decide +kernel⟩
end
section
def mX14_init : zM := (yX14_init, prog_14_method_1_code, 1, none, [])
def tX14_init_0 : List (Nat × Instr × Nat × Nat) := [(0, .aload_n 0, 1, 1), (1, .invokespecial 1, 3, 4), (4, .aload_n 0, 1, 5), (5, .iconst (-1), 1, 6), (6, .putfield 9, 3, 9), (9, .aload_n 0, 1, 10), (10, .bipush 10, 2, 12), (12, .putfield 13, 3, 15), (15, .aload_n 0, 1, 16), (16, .bipush 10, 2, 18), (18, .newarray .int, 2, 20), (20, .putfield 16, 3, 23), (23, .aload_n 0, 1, 24), (24, .bipush 10, 2, 26), (26, .newarray .int, 2, 28), (28, .putfield 20, 3, 31), (31, .aload_n 0, 1, 32), (32, .bipush 16, 2, 34), (34, .newarray .int, 2, 36), (36, .putfield 23, 3, 39), (39, .aload_n 0, 1, 40), (40, .bipush 16, 2, 42), (42, .newarray .int, 2, 44), (44, .putfield 26, 3, 47), (47, .aload_n 0, 1, 48), (48, .bipush 16, 2, 50), (50, .newarray .int, 2, 52), (52, .putfield 29, 3, 55), (55, .aload_n 0, 1, 56), (56, .bipush 16, 2, 58), (58, .newarray .int, 2, 60), (60, .putfield 32, 3, 63), (63, .aload_n 0, 1, 64), (64, .bipush 30, 2, 66), (66, .anewarray 35, 3, 69), (69, .putfield 37, 3, 72), (72, .aload_n 0, 1, 73), (73, .new 35, 3, 76), (76, .dup, 1, 77), (77, .invokespecial 41, 3, 80), (80, .putfield 42, 3, 83), (83, .aload_n 0, 1, 84), (84, .new 46, 3, 87), (87, .dup, 1, 88), (88, .invokespecial 48, 3, 91), (91, .putfield 49, 3, 94), (94, .aload_n 0, 1, 95), (95, .sipush 300, 3, 98), (98, .newarray .byte, 2, 100), (100, .putfield 53, 3, 103), (103, .aload_n 0, 1, 104), (104, .sipush 320, 3, 107), (107, .newarray .int, 2, 109), (109, .putfield 57, 3, 112), (112, .aload_n 0, 1, 113), (113, .bipush 10, 2, 115), (115, .newarray .int, 2, 117), (117, .putfield 60, 3, 120), (120, .aload_n 0, 1, 121), (121, .bipush 10, 2, 123)]
set_option maxRecDepth 100000 in
theorem TX14_init_0 : zchk (zMc mX14_init) tX14_init_0 = true := by decide +kernel
def tX14_init_1 : List (Nat × Instr × Nat × Nat) := [(123, .newarray .int, 2, 125), (125, .putfield 63, 3, 128), (128, .aload_n 0, 1, 129), (129, .bipush 100, 2, 131), (131, .newarray .int, 2, 133), (133, .putfield 66, 3, 136), (136, .aload_n 0, 1, 137), (137, .bipush 10, 2, 139), (139, .newarray .int, 2, 141), (141, .putfield 69, 3, 144), (144, .aload_n 0, 1, 145), (145, .bipush 10, 2, 147), (147, .newarray .int, 2, 149), (149, .putfield 72, 3, 152), (152, .aload_n 0, 1, 153), (153, .bipush 16, 2, 155), (155, .newarray .int, 2, 157), (157, .putfield 75, 3, 160), (160, .aload_n 0, 1, 161), (161, .bipush 16, 2, 163), (163, .newarray .int, 2, 165), (165, .putfield 78, 3, 168), (168, .aload_n 0, 1, 169), (169, .bipush 8, 2, 171), (171, .newarray .int, 2, 173), (173, .putfield 81, 3, 176), (176, .aload_n 0, 1, 177), (177, .bipush 8, 2, 179), (179, .newarray .int, 2, 181), (181, .putfield 84, 3, 184), (184, .aload_n 0, 1, 185), (185, .bipush 8, 2, 187), (187, .newarray .int, 2, 189), (189, .putfield 87, 3, 192), (192, .aload_n 0, 1, 193), (193, .bipush 8, 2, 195), (195, .newarray .int, 2, 197), (197, .putfield 90, 3, 200), (200, .aload_n 0, 1, 201), (201, .bipush 8, 2, 203), (203, .newarray .int, 2, 205), (205, .putfield 93, 3, 208), (208, .aload_n 0, 1, 209), (209, .bipush 8, 2, 211), (211, .newarray .long, 2, 213), (213, .putfield 96, 3, 216), (216, .return_, 1, 217)]
set_option maxRecDepth 100000 in
theorem TX14_init_1 : zchk (zMc mX14_init) tX14_init_1 = true := by decide +kernel
theorem kX14_init : zOK mX14_init := ⟨zw920, zw72, by decide, by decide +kernel, by decide +kernel⟩
def mX14_refused : zM := (yX14_refused, prog_14_method_3_code, 2, (Option.some Jvm.ClassFile.FieldType.int), [])
def tX14_refused : List (Nat × Instr × Nat × Nat) := [(0, .aload_n 0, 1, 1), (1, .iload_n 1, 1, 2), (2, .putfield 103, 3, 5), (5, .aload_n 0, 1, 6), (6, .iconst (-1), 1, 7), (7, .putfield 9, 3, 10), (10, .iconst (-1), 1, 11), (11, .ireturn, 1, 12)]
set_option maxRecDepth 100000 in
theorem TX14_refused : zchk (zMc mX14_refused) tX14_refused = true := by decide +kernel
theorem kX14_refused : zOK mX14_refused := ⟨zw1191, zw72, by decide, by decide +kernel, by decide +kernel⟩
def mX14_denied : zM := (yX14_denied, prog_14_method_4_code, 2, (Option.some Jvm.ClassFile.FieldType.boolean), [])
def tX14_denied : List (Nat × Instr × Nat × Nat) := [(0, .aload_n 0, 1, 1), (1, .iload_n 1, 1, 2), (2, .putfield 103, 3, 5), (5, .aload_n 0, 1, 6), (6, .iconst (-1), 1, 7), (7, .putfield 9, 3, 10), (10, .iconst 0, 1, 11), (11, .ireturn, 1, 12)]
set_option maxRecDepth 100000 in
theorem TX14_denied : zchk (zMc mX14_denied) tX14_denied = true := by decide +kernel
theorem kX14_denied : zOK mX14_denied := ⟨zw1207, zw72, by decide, by decide +kernel, by decide +kernel⟩
def mX14_done : zM := (yX14_done, prog_14_method_5_code, 2, (Option.some Jvm.ClassFile.FieldType.int), [])
def tX14_done : List (Nat × Instr × Nat × Nat) := [(0, .aload_n 0, 1, 1), (1, .iconst 0, 1, 2), (2, .putfield 103, 3, 5), (5, .aload_n 0, 1, 6), (6, .iconst (-1), 1, 7), (7, .putfield 9, 3, 10), (10, .iload_n 1, 1, 11), (11, .ireturn, 1, 12)]
set_option maxRecDepth 100000 in
theorem TX14_done : zchk (zMc mX14_done) tX14_done = true := by decide +kernel
theorem kX14_done : zOK mX14_done := ⟨zw1195, zw72, by decide, by decide +kernel, by decide +kernel⟩
def mX14_granted : zM := (yX14_granted, prog_14_method_6_code, 1, (Option.some Jvm.ClassFile.FieldType.boolean), [])
def tX14_granted : List (Nat × Instr × Nat × Nat) := [(0, .aload_n 0, 1, 1), (1, .iconst 0, 1, 2), (2, .putfield 103, 3, 5), (5, .aload_n 0, 1, 6), (6, .iconst (-1), 1, 7), (7, .putfield 9, 3, 10), (10, .iconst 1, 1, 11), (11, .ireturn, 1, 12)]
set_option maxRecDepth 100000 in
theorem TX14_granted : zchk (zMc mX14_granted) tX14_granted = true := by decide +kernel
theorem kX14_granted : zOK mX14_granted := ⟨zw1211, zw72, by decide, by decide +kernel, by decide +kernel⟩
def mX14_in : zM := (yX14_in, prog_14_method_7_code, 3, (Option.some Jvm.ClassFile.FieldType.boolean), [])
def tX14_in : List (Nat × Instr × Nat × Nat) := [(0, .iload_n 0, 1, 1), (1, .iload_n 1, 1, 2), (2, .if_icmp .lt 12, 3, 5), (5, .iload_n 0, 1, 6), (6, .iload_n 2, 1, 7), (7, .if_icmp .gt 7, 3, 10), (10, .iconst 1, 1, 11), (11, .goto 4, 3, 14), (14, .iconst 0, 1, 15), (15, .ireturn, 1, 16)]
set_option maxRecDepth 100000 in
theorem TX14_in : zchk (zMc mX14_in) tX14_in = true := by decide +kernel
theorem kX14_in : zOK mX14_in := ⟨zw1187, zw72, by decide, by decide +kernel, by decide +kernel⟩
def mX14_isProvince : zM := (yX14_isProvince, prog_14_method_8_code, 2, (Option.some Jvm.ClassFile.FieldType.boolean), [])
def tX14_isProvince : List (Nat × Instr × Nat × Nat) := [(0, .iload_n 1, 1, 1), (1, .ifCond .lt 15, 3, 4), (4, .iload_n 1, 1, 5), (5, .aload_n 0, 1, 6), (6, .getfield 106, 3, 9), (9, .if_icmp .ge 7, 3, 12), (12, .iconst 1, 1, 13), (13, .goto 4, 3, 16), (16, .iconst 0, 1, 17), (17, .ireturn, 1, 18)]
set_option maxRecDepth 100000 in
theorem TX14_isProvince : zchk (zMc mX14_isProvince) tX14_isProvince = true := by decide +kernel
theorem kX14_isProvince : zOK mX14_isProvince := ⟨zw1203, zw72, by decide, by decide +kernel, by decide +kernel⟩
def mX14_isBorder : zM := (yX14_isBorder, prog_14_method_9_code, 2, (Option.some Jvm.ClassFile.FieldType.boolean), [])
def tX14_isBorder : List (Nat × Instr × Nat × Nat) := [(0, .iload_n 1, 1, 1), (1, .ifCond .lt 15, 3, 4), (4, .iload_n 1, 1, 5), (5, .aload_n 0, 1, 6), (6, .getfield 109, 3, 9), (9, .if_icmp .ge 7, 3, 12), (12, .iconst 1, 1, 13), (13, .goto 4, 3, 16), (16, .iconst 0, 1, 17), (17, .ireturn, 1, 18)]
set_option maxRecDepth 100000 in
theorem TX14_isBorder : zchk (zMc mX14_isBorder) tX14_isBorder = true := by decide +kernel
theorem kX14_isBorder : zOK mX14_isBorder := ⟨zw1223, zw72, by decide, by decide +kernel, by decide +kernel⟩
def mX14_province : zM := (yX14_province, prog_14_method_10_code, 3, (Option.some Jvm.ClassFile.FieldType.int), [])
def tX14_province : List (Nat × Instr × Nat × Nat) := [(0, .aload_n 0, 1, 1), (1, .iconst 0, 1, 2), (2, .putfield 100, 3, 5), (5, .iload_n 1, 1, 6), (6, .iconst 0, 1, 7), (7, .ldc 112, 2, 9), (9, .invokestatic 113, 3, 12), (12, .ifCond .eq 13, 3, 15), (15, .iload_n 2, 1, 16), (16, .iconst 0, 1, 17), (17, .bipush 50, 2, 19), (19, .invokestatic 113, 3, 22), (22, .ifCond .ne 9, 3, 25), (25, .aload_n 0, 1, 26), (26, .iconst 2, 1, 27), (27, .invokevirtual 117, 3, 30), (30, .ireturn, 1, 31), (31, .aload_n 0, 1, 32), (32, .getfield 106, 3, 35), (35, .bipush 10, 2, 37), (37, .if_icmp .ne 9, 3, 40), (40, .aload_n 0, 1, 41), (41, .iconst 3, 1, 42), (42, .invokevirtual 117, 3, 45), (45, .ireturn, 1, 46), (46, .aload_n 0, 1, 47), (47, .getfield 16, 3, 50), (50, .aload_n 0, 1, 51), (51, .getfield 106, 3, 54), (54, .iload_n 1, 1, 55), (55, .iastore, 1, 56), (56, .aload_n 0, 1, 57), (57, .getfield 20, 3, 60), (60, .aload_n 0, 1, 61), (61, .getfield 106, 3, 64), (64, .iload_n 2, 1, 65), (65, .iastore, 1, 66), (66, .aload_n 0, 1, 67), (67, .dup, 1, 68), (68, .getfield 106, 3, 71), (71, .iconst 1, 1, 72), (72, .iadd, 1, 73), (73, .putfield 106, 3, 76), (76, .aload_n 0, 1, 77), (77, .aload_n 0, 1, 78), (78, .getfield 106, 3, 81), (81, .iconst 1, 1, 82), (82, .isub, 1, 83), (83, .invokevirtual 121, 3, 86), (86, .ireturn, 1, 87)]
set_option maxRecDepth 100000 in
theorem TX14_province : zchk (zMc mX14_province) tX14_province = true := by decide +kernel
theorem kX14_province : zOK mX14_province := ⟨zw1183, zw72, by decide, by decide +kernel, by decide +kernel⟩
def mX14_people : zM := (yX14_people, prog_14_method_11_code, 4, (Option.some Jvm.ClassFile.FieldType.boolean), [])
def tX14_people : List (Nat × Instr × Nat × Nat) := [(0, .aload_n 0, 1, 1), (1, .iconst 0, 1, 2), (2, .putfield 100, 3, 5), (5, .aload_n 0, 1, 6), (6, .iload_n 1, 1, 7), (7, .invokevirtual 124, 3, 10), (10, .ifCond .ne 9, 3, 13), (13, .aload_n 0, 1, 14), (14, .iconst 1, 1, 15), (15, .invokevirtual 128, 3, 18), (18, .ireturn, 1, 19), (19, .iload_n 2, 1, 20), (20, .iconst 0, 1, 21), (21, .ldc 112, 2, 23), (23, .invokestatic 113, 3, 26), (26, .ifCond .eq 13, 3, 29), (29, .iload_n 3, 1, 30), (30, .iconst 0, 1, 31), (31, .bipush 50, 2, 33), (33, .invokestatic 113, 3, 36), (36, .ifCond .ne 9, 3, 39), (39, .aload_n 0, 1, 40), (40, .iconst 2, 1, 41), (41, .invokevirtual 128, 3, 44), (44, .ireturn, 1, 45), (45, .aload_n 0, 1, 46), (46, .getfield 16, 3, 49), (49, .iload_n 1, 1, 50), (50, .iload_n 2, 1, 51), (51, .iastore, 1, 52), (52, .aload_n 0, 1, 53), (53, .getfield 20, 3, 56), (56, .iload_n 1, 1, 57), (57, .iload_n 3, 1, 58), (58, .iastore, 1, 59), (59, .aload_n 0, 1, 60), (60, .invokevirtual 131, 3, 63), (63, .ireturn, 1, 64)]
set_option maxRecDepth 100000 in
theorem TX14_people : zchk (zMc mX14_people) tX14_people = true := by decide +kernel
theorem kX14_people : zOK mX14_people := ⟨zw1199, zw72, by decide, by decide +kernel, by decide +kernel⟩
def mX14_border : zM := (yX14_border, prog_14_method_12_code, 4, (Option.some Jvm.ClassFile.FieldType.int), [])
def tX14_border_0 : List (Nat × Instr × Nat × Nat) := [(0, .aload_n 0, 1, 1), (1, .iconst 0, 1, 2), (2, .putfield 100, 3, 5), (5, .aload_n 0, 1, 6), (6, .iload_n 1, 1, 7), (7, .invokevirtual 124, 3, 10), (10, .ifCond .eq 16, 3, 13), (13, .aload_n 0, 1, 14), (14, .iload_n 2, 1, 15), (15, .invokevirtual 124, 3, 18), (18, .ifCond .eq 8, 3, 21), (21, .iload_n 1, 1, 22), (22, .iload_n 2, 1, 23), (23, .if_icmp .ne 9, 3, 26), (26, .aload_n 0, 1, 27), (27, .iconst 1, 1, 28), (28, .invokevirtual 117, 3, 31), (31, .ireturn, 1, 32), (32, .iload_n 3, 1, 33), (33, .iconst 1, 1, 34), (34, .sipush 500, 3, 37), (37, .invokestatic 113, 3, 40), (40, .ifCond .ne 9, 3, 43), (43, .aload_n 0, 1, 44), (44, .iconst 2, 1, 45), (45, .invokevirtual 117, 3, 48), (48, .ireturn, 1, 49), (49, .aload_n 0, 1, 50), (50, .getfield 109, 3, 53), (53, .bipush 16, 2, 55), (55, .if_icmp .ne 9, 3, 58), (58, .aload_n 0, 1, 59), (59, .iconst 3, 1, 60), (60, .invokevirtual 117, 3, 63), (63, .ireturn, 1, 64), (64, .aload_n 0, 1, 65), (65, .getfield 23, 3, 68), (68, .aload_n 0, 1, 69), (69, .getfield 109, 3, 72), (72, .iload_n 1, 1, 73), (73, .iastore, 1, 74), (74, .aload_n 0, 1, 75), (75, .getfield 26, 3, 78), (78, .aload_n 0, 1, 79), (79, .getfield 109, 3, 82), (82, .iload_n 2, 1, 83), (83, .iastore, 1, 84), (84, .aload_n 0, 1, 85), (85, .getfield 29, 3, 88), (88, .aload_n 0, 1, 89), (89, .getfield 109, 3, 92), (92, .iload_n 3, 1, 93), (93, .iastore, 1, 94), (94, .aload_n 0, 1, 95), (95, .dup, 1, 96), (96, .getfield 109, 3, 99), (99, .iconst 1, 1, 100), (100, .iadd, 1, 101), (101, .putfield 109, 3, 104), (104, .aload_n 0, 1, 105)]
set_option maxRecDepth 100000 in
theorem TX14_border_0 : zchk (zMc mX14_border) tX14_border_0 = true := by decide +kernel
def tX14_border_1 : List (Nat × Instr × Nat × Nat) := [(105, .aload_n 0, 1, 106), (106, .getfield 109, 3, 109), (109, .iconst 1, 1, 110), (110, .isub, 1, 111), (111, .invokevirtual 121, 3, 114), (114, .ireturn, 1, 115)]
set_option maxRecDepth 100000 in
theorem TX14_border_1 : zchk (zMc mX14_border) tX14_border_1 = true := by decide +kernel
theorem kX14_border : zOK mX14_border := ⟨zw1215, zw72, by decide, by decide +kernel, by decide +kernel⟩
def mX14_guard : zM := (yX14_guard, prog_14_method_13_code, 3, (Option.some Jvm.ClassFile.FieldType.boolean), [])
def tX14_guard : List (Nat × Instr × Nat × Nat) := [(0, .aload_n 0, 1, 1), (1, .iconst 0, 1, 2), (2, .putfield 100, 3, 5), (5, .aload_n 0, 1, 6), (6, .iload_n 1, 1, 7), (7, .invokevirtual 135, 3, 10), (10, .ifCond .ne 9, 3, 13), (13, .aload_n 0, 1, 14), (14, .iconst 1, 1, 15), (15, .invokevirtual 128, 3, 18), (18, .ireturn, 1, 19), (19, .iload_n 2, 1, 20), (20, .iconst 0, 1, 21), (21, .bipush 9, 2, 23), (23, .invokestatic 113, 3, 26), (26, .ifCond .ne 9, 3, 29), (29, .aload_n 0, 1, 30), (30, .iconst 2, 1, 31), (31, .invokevirtual 128, 3, 34), (34, .ireturn, 1, 35), (35, .aload_n 0, 1, 36), (36, .getfield 32, 3, 39), (39, .iload_n 1, 1, 40), (40, .iload_n 2, 1, 41), (41, .iastore, 1, 42), (42, .aload_n 0, 1, 43), (43, .invokevirtual 131, 3, 46), (46, .ireturn, 1, 47)]
set_option maxRecDepth 100000 in
theorem TX14_guard : zchk (zMc mX14_guard) tX14_guard = true := by decide +kernel
theorem kX14_guard : zOK mX14_guard := ⟨zw1219, zw72, by decide, by decide +kernel, by decide +kernel⟩
def mX14_weight : zM := (yX14_weight, prog_14_method_14_code, 2, (Option.some Jvm.ClassFile.FieldType.boolean), [])
def tX14_weight : List (Nat × Instr × Nat × Nat) := [(0, .aload_n 0, 1, 1), (1, .iconst 0, 1, 2), (2, .putfield 100, 3, 5), (5, .iload_n 1, 1, 6), (6, .iconst 0, 1, 7), (7, .sipush 200, 3, 10), (10, .invokestatic 113, 3, 13), (13, .ifCond .ne 9, 3, 16), (16, .aload_n 0, 1, 17), (17, .iconst 2, 1, 18), (18, .invokevirtual 128, 3, 21), (21, .ireturn, 1, 22), (22, .aload_n 0, 1, 23), (23, .iload_n 1, 1, 24), (24, .putfield 13, 3, 27), (27, .aload_n 0, 1, 28), (28, .invokevirtual 131, 3, 31), (31, .ireturn, 1, 32)]
set_option maxRecDepth 100000 in
theorem TX14_weight : zchk (zMc mX14_weight) tX14_weight = true := by decide +kernel
theorem kX14_weight : zOK mX14_weight := ⟨zw1227, zw72, by decide, by decide +kernel, by decide +kernel⟩
def mX14_stop : zM := (yX14_stop, prog_14_method_15_code, 2, (Option.some (Jvm.ClassFile.FieldType.object "SaltFarmModel$Stop")), [])
def tX14_stop : List (Nat × Instr × Nat × Nat) := [(0, .aload_n 0, 1, 1), (1, .getfield 49, 3, 4), (4, .iload_n 1, 1, 5), (5, .putfield 138, 3, 8), (8, .aload_n 0, 1, 9), (9, .getfield 49, 3, 12), (12, .aload_n 0, 1, 13), (13, .getfield 141, 3, 16), (16, .putfield 144, 3, 19), (19, .aload_n 0, 1, 20), (20, .getfield 49, 3, 23), (23, .areturn, 1, 24)]
set_option maxRecDepth 100000 in
theorem TX14_stop : zchk (zMc mX14_stop) tX14_stop = true := by decide +kernel
theorem kX14_stop : zOK mX14_stop := ⟨zw1269, zw72, by decide, by decide +kernel, by decide +kernel⟩
def mX14_byteAt : zM := (yX14_byteAt, prog_14_method_16_code, 2, (Option.some Jvm.ClassFile.FieldType.int), [])
def tX14_byteAt : List (Nat × Instr × Nat × Nat) := [(0, .iload_n 1, 1, 1), (1, .aload_n 0, 1, 2), (2, .getfield 145, 3, 5), (5, .if_icmp .ge 16, 3, 8), (8, .aload_n 0, 1, 9), (9, .getfield 53, 3, 12), (12, .iload_n 1, 1, 13), (13, .baload, 1, 14), (14, .sipush 255, 3, 17), (17, .iand, 1, 18), (18, .goto 4, 3, 21), (21, .iconst (-1), 1, 22), (22, .ireturn, 1, 23)]
set_option maxRecDepth 100000 in
theorem TX14_byteAt : zchk (zMc mX14_byteAt) tX14_byteAt = true := by decide +kernel
theorem kX14_byteAt : zOK mX14_byteAt := ⟨zw1247, zw72, by decide, by decide +kernel, by decide +kernel⟩
def mX14_isLetter : zM := (yX14_isLetter, prog_14_method_17_code, 1, (Option.some Jvm.ClassFile.FieldType.boolean), [])
def tX14_isLetter : List (Nat × Instr × Nat × Nat) := [(0, .iload_n 0, 1, 1), (1, .bipush 97, 2, 3), (3, .if_icmp .lt 13, 3, 6), (6, .iload_n 0, 1, 7), (7, .bipush 122, 2, 9), (9, .if_icmp .gt 7, 3, 12), (12, .iconst 1, 1, 13), (13, .goto 4, 3, 16), (16, .iconst 0, 1, 17), (17, .ireturn, 1, 18)]
set_option maxRecDepth 100000 in
theorem TX14_isLetter : zchk (zMc mX14_isLetter) tX14_isLetter = true := by decide +kernel
theorem kX14_isLetter : zOK mX14_isLetter := ⟨zw1250, zw72, by decide, by decide +kernel, by decide +kernel⟩
def mX14_isDigit : zM := (yX14_isDigit, prog_14_method_18_code, 1, (Option.some Jvm.ClassFile.FieldType.boolean), [])
def tX14_isDigit : List (Nat × Instr × Nat × Nat) := [(0, .iload_n 0, 1, 1), (1, .bipush 48, 2, 3), (3, .if_icmp .lt 13, 3, 6), (6, .iload_n 0, 1, 7), (7, .bipush 57, 2, 9), (9, .if_icmp .gt 7, 3, 12), (12, .iconst 1, 1, 13), (13, .goto 4, 3, 16), (16, .iconst 0, 1, 17), (17, .ireturn, 1, 18)]
set_option maxRecDepth 100000 in
theorem TX14_isDigit : zchk (zMc mX14_isDigit) tX14_isDigit = true := by decide +kernel
theorem kX14_isDigit : zOK mX14_isDigit := ⟨zw1254, zw72, by decide, by decide +kernel, by decide +kernel⟩
def mX14_wordOf : zM := (yX14_wordOf, prog_14_method_19_code, 4, (Option.some Jvm.ClassFile.FieldType.long), [])
def tX14_wordOf : List (Nat × Instr × Nat × Nat) := [(0, .lconst 0, 1, 1), (1, .lstore_n 1, 1, 2), (2, .iconst 0, 1, 3), (3, .istore_n 3, 1, 4), (4, .iload_n 3, 1, 5), (5, .aload_n 0, 1, 6), (6, .invokevirtual 148, 3, 9), (9, .if_icmp .ge 27, 3, 12), (12, .ldc2_w 154, 3, 15), (15, .lload_n 1, 1, 16), (16, .lmul, 1, 17), (17, .aload_n 0, 1, 18), (18, .iload_n 3, 1, 19), (19, .invokevirtual 156, 3, 22), (22, .bipush 97, 2, 24), (24, .isub, 1, 25), (25, .iconst 1, 1, 26), (26, .iadd, 1, 27), (27, .i2l, 1, 28), (28, .ladd, 1, 29), (29, .lstore_n 1, 1, 30), (30, .iinc 3 1, 3, 33), (33, .goto (-29), 3, 36), (36, .lload_n 1, 1, 37), (37, .lreturn, 1, 38)]
set_option maxRecDepth 100000 in
theorem TX14_wordOf : zchk (zMc mX14_wordOf) tX14_wordOf = true := by decide +kernel
theorem kX14_wordOf : zOK mX14_wordOf := ⟨zw1262, zw72, by decide, by decide +kernel, by decide +kernel⟩
def mX14_next : zM := (yX14_next, prog_14_method_20_code, 3, none, [])
def tX14_next_0 : List (Nat × Instr × Nat × Nat) := [(0, .aload_n 0, 1, 1), (1, .aload_n 0, 1, 2), (2, .getfield 160, 3, 5), (5, .invokevirtual 163, 3, 8), (8, .bipush 32, 2, 10), (10, .if_icmp .ne 16, 3, 13), (13, .aload_n 0, 1, 14), (14, .dup, 1, 15), (15, .getfield 160, 3, 18), (18, .iconst 1, 1, 19), (19, .iadd, 1, 20), (20, .putfield 160, 3, 23), (23, .goto (-23), 3, 26), (26, .aload_n 0, 1, 27), (27, .aload_n 0, 1, 28), (28, .getfield 160, 3, 31), (31, .putfield 141, 3, 34), (34, .aload_n 0, 1, 35), (35, .iconst 0, 1, 36), (36, .putfield 166, 3, 39), (39, .aload_n 0, 1, 40), (40, .iconst 0, 1, 41), (41, .putfield 169, 3, 44), (44, .aload_n 0, 1, 45), (45, .aload_n 0, 1, 46), (46, .getfield 160, 3, 49), (49, .invokevirtual 163, 3, 52), (52, .istore_n 1, 1, 53), (53, .iconst 0, 1, 54), (54, .istore_n 2, 1, 55), (55, .iload_n 1, 1, 56), (56, .iconst (-1), 1, 57), (57, .if_icmp .ne 11, 3, 60), (60, .aload_n 0, 1, 61), (61, .iconst 1, 1, 62), (62, .putfield 166, 3, 65), (65, .goto 255, 3, 68), (68, .iload_n 1, 1, 69), (69, .invokestatic 172, 3, 72), (72, .ifCond .eq 85, 3, 75), (75, .aload_n 0, 1, 76), (76, .lconst 0, 1, 77), (77, .putfield 175, 3, 80), (80, .aload_n 0, 1, 81), (81, .aload_n 0, 1, 82), (82, .getfield 160, 3, 85), (85, .invokevirtual 163, 3, 88), (88, .invokestatic 172, 3, 91), (91, .ifCond .eq 52, 3, 94), (94, .iload_n 2, 1, 95), (95, .bipush 8, 2, 97), (97, .if_icmp .ge 30, 3, 100), (100, .aload_n 0, 1, 101), (101, .ldc2_w 154, 3, 104), (104, .aload_n 0, 1, 105), (105, .getfield 175, 3, 108), (108, .lmul, 1, 109), (109, .aload_n 0, 1, 110), (110, .aload_n 0, 1, 111), (111, .getfield 160, 3, 114)]
set_option maxRecDepth 100000 in
theorem TX14_next_0 : zchk (zMc mX14_next) tX14_next_0 = true := by decide +kernel
def tX14_next_1 : List (Nat × Instr × Nat × Nat) := [(114, .invokevirtual 163, 3, 117), (117, .bipush 97, 2, 119), (119, .isub, 1, 120), (120, .iconst 1, 1, 121), (121, .iadd, 1, 122), (122, .i2l, 1, 123), (123, .ladd, 1, 124), (124, .putfield 175, 3, 127), (127, .iinc 2 1, 3, 130), (130, .aload_n 0, 1, 131), (131, .dup, 1, 132), (132, .getfield 160, 3, 135), (135, .iconst 1, 1, 136), (136, .iadd, 1, 137), (137, .putfield 160, 3, 140), (140, .goto (-60), 3, 143), (143, .iload_n 2, 1, 144), (144, .bipush 9, 2, 146), (146, .if_icmp .ge 174, 3, 149), (149, .aload_n 0, 1, 150), (150, .iconst 2, 1, 151), (151, .putfield 166, 3, 154), (154, .goto 166, 3, 157), (157, .iload_n 1, 1, 158), (158, .invokestatic 179, 3, 161), (161, .ifCond .eq 79, 3, 164), (164, .aload_n 0, 1, 165), (165, .iconst 0, 1, 166), (166, .putfield 182, 3, 169), (169, .aload_n 0, 1, 170), (170, .aload_n 0, 1, 171), (171, .getfield 160, 3, 174), (174, .invokevirtual 163, 3, 177), (177, .invokestatic 179, 3, 180), (180, .ifCond .eq 47, 3, 183), (183, .iload_n 2, 1, 184), (184, .iconst 4, 1, 185), (185, .if_icmp .ge 26, 3, 188), (188, .aload_n 0, 1, 189), (189, .bipush 10, 2, 191), (191, .aload_n 0, 1, 192), (192, .getfield 182, 3, 195), (195, .imul, 1, 196), (196, .aload_n 0, 1, 197), (197, .aload_n 0, 1, 198), (198, .getfield 160, 3, 201), (201, .invokevirtual 163, 3, 204), (204, .iadd, 1, 205), (205, .bipush 48, 2, 207), (207, .isub, 1, 208), (208, .putfield 182, 3, 211), (211, .iinc 2 1, 3, 214), (214, .aload_n 0, 1, 215), (215, .dup, 1, 216), (216, .getfield 160, 3, 219), (219, .iconst 1, 1, 220), (220, .iadd, 1, 221), (221, .putfield 160, 3, 224), (224, .goto (-55), 3, 227), (227, .iload_n 2, 1, 228)]
set_option maxRecDepth 100000 in
theorem TX14_next_1 : zchk (zMc mX14_next) tX14_next_1 = true := by decide +kernel
def tX14_next_2 : List (Nat × Instr × Nat × Nat) := [(228, .iconst 5, 1, 229), (229, .if_icmp .ge 91, 3, 232), (232, .aload_n 0, 1, 233), (233, .iconst 3, 1, 234), (234, .putfield 166, 3, 237), (237, .goto 83, 3, 240), (240, .iload_n 1, 1, 241), (241, .bipush 60, 2, 243), (243, .if_icmp .eq 57, 3, 246), (246, .iload_n 1, 1, 247), (247, .bipush 62, 2, 249), (249, .if_icmp .eq 51, 3, 252), (252, .iload_n 1, 1, 253), (253, .bipush 61, 2, 255), (255, .if_icmp .eq 45, 3, 258), (258, .iload_n 1, 1, 259), (259, .bipush 43, 2, 261), (261, .if_icmp .eq 39, 3, 264), (264, .iload_n 1, 1, 265), (265, .bipush 45, 2, 267), (267, .if_icmp .eq 33, 3, 270), (270, .iload_n 1, 1, 271), (271, .bipush 42, 2, 273), (273, .if_icmp .eq 27, 3, 276), (276, .iload_n 1, 1, 277), (277, .bipush 47, 2, 279), (279, .if_icmp .eq 21, 3, 282), (282, .iload_n 1, 1, 283), (283, .bipush 40, 2, 285), (285, .if_icmp .eq 15, 3, 288), (288, .iload_n 1, 1, 289), (289, .bipush 41, 2, 291), (291, .if_icmp .eq 9, 3, 294), (294, .iload_n 1, 1, 295), (295, .bipush 59, 2, 297), (297, .if_icmp .ne 23, 3, 300), (300, .aload_n 0, 1, 301), (301, .iconst 4, 1, 302), (302, .putfield 166, 3, 305), (305, .aload_n 0, 1, 306), (306, .iload_n 1, 1, 307), (307, .putfield 169, 3, 310), (310, .aload_n 0, 1, 311), (311, .dup, 1, 312), (312, .getfield 160, 3, 315), (315, .iconst 1, 1, 316), (316, .iadd, 1, 317), (317, .putfield 160, 3, 320), (320, .return_, 1, 321)]
set_option maxRecDepth 100000 in
theorem TX14_next_2 : zchk (zMc mX14_next) tX14_next_2 = true := by decide +kernel
theorem kX14_next : zOK mX14_next := ⟨zw1243, zw72, by decide, by decide +kernel, by decide +kernel⟩
def mX14_isWord : zM := (yX14_isWord, prog_14_method_21_code, 2, (Option.some Jvm.ClassFile.FieldType.boolean), [])
def tX14_isWord : List (Nat × Instr × Nat × Nat) := [(0, .aload_n 0, 1, 1), (1, .getfield 166, 3, 4), (4, .iconst 2, 1, 5), (5, .if_icmp .ne 19, 3, 8), (8, .aload_n 0, 1, 9), (9, .getfield 175, 3, 12), (12, .aload_n 1, 1, 13), (13, .invokestatic 185, 3, 16), (16, .lcmp, 1, 17), (17, .ifCond .ne 7, 3, 20), (20, .iconst 1, 1, 21), (21, .goto 4, 3, 24), (24, .iconst 0, 1, 25), (25, .ireturn, 1, 26)]
set_option maxRecDepth 100000 in
theorem TX14_isWord : zchk (zMc mX14_isWord) tX14_isWord = true := by decide +kernel
theorem kX14_isWord : zOK mX14_isWord := ⟨zw1259, zw72, by decide, by decide +kernel, by decide +kernel⟩
def mX14_is : zM := (yX14_is, prog_14_method_22_code, 2, (Option.some Jvm.ClassFile.FieldType.boolean), [])
def tX14_is : List (Nat × Instr × Nat × Nat) := [(0, .aload_n 0, 1, 1), (1, .getfield 166, 3, 4), (4, .iconst 4, 1, 5), (5, .if_icmp .ne 15, 3, 8), (8, .aload_n 0, 1, 9), (9, .getfield 169, 3, 12), (12, .iload_n 1, 1, 13), (13, .if_icmp .ne 7, 3, 16), (16, .iconst 1, 1, 17), (17, .goto 4, 3, 20), (20, .iconst 0, 1, 21), (21, .ireturn, 1, 22)]
set_option maxRecDepth 100000 in
theorem TX14_is : zchk (zMc mX14_is) tX14_is = true := by decide +kernel
theorem kX14_is : zOK mX14_is := ⟨zw1278, zw72, by decide, by decide +kernel, by decide +kernel⟩
def mX14_nameHere : zM := (yX14_nameHere, prog_14_method_23_code, 2, (Option.some Jvm.ClassFile.FieldType.int), [])
def tX14_nameHere_0 : List (Nat × Instr × Nat × Nat) := [(0, .aload_n 0, 1, 1), (1, .getfield 166, 3, 4), (4, .iconst 2, 1, 5), (5, .if_icmp .ne 48, 3, 8), (8, .aload_n 0, 1, 9), (9, .ldc 189, 2, 11), (11, .invokevirtual 190, 3, 14), (14, .ifCond .ne 39, 3, 17), (17, .aload_n 0, 1, 18), (18, .ldc 194, 2, 20), (20, .invokevirtual 190, 3, 23), (23, .ifCond .ne 30, 3, 26), (26, .aload_n 0, 1, 27), (27, .ldc 195, 2, 29), (29, .invokevirtual 190, 3, 32), (32, .ifCond .ne 21, 3, 35), (35, .aload_n 0, 1, 36), (36, .ldc 197, 2, 38), (38, .invokevirtual 190, 3, 41), (41, .ifCond .ne 12, 3, 44), (44, .aload_n 0, 1, 45), (45, .ldc 199, 2, 47), (47, .invokevirtual 190, 3, 50), (50, .ifCond .eq 9, 3, 53), (53, .aload_n 0, 1, 54), (54, .iconst 1, 1, 55), (55, .invokevirtual 201, 3, 58), (58, .athrow, 1, 59), (59, .aload_n 0, 1, 60), (60, .ldc 204, 2, 62), (62, .invokevirtual 190, 3, 65), (65, .ifCond .eq 7, 3, 68), (68, .iconst 0, 1, 69), (69, .goto 43, 3, 72), (72, .aload_n 0, 1, 73), (73, .ldc 206, 2, 75), (75, .invokevirtual 190, 3, 78), (78, .ifCond .eq 7, 3, 81), (81, .iconst 1, 1, 82), (82, .goto 30, 3, 85), (85, .aload_n 0, 1, 86), (86, .ldc 207, 2, 88), (88, .invokevirtual 190, 3, 91), (91, .ifCond .eq 7, 3, 94), (94, .iconst 2, 1, 95), (95, .goto 17, 3, 98), (98, .aload_n 0, 1, 99), (99, .ldc 208, 2, 101), (101, .invokevirtual 190, 3, 104), (104, .ifCond .eq 7, 3, 107), (107, .iconst 3, 1, 108), (108, .goto 4, 3, 111), (111, .iconst (-1), 1, 112), (112, .istore_n 1, 1, 113), (113, .iload_n 1, 1, 114), (114, .iconst (-1), 1, 115), (115, .if_icmp .ne 9, 3, 118), (118, .aload_n 0, 1, 119), (119, .iconst 2, 1, 120), (120, .invokevirtual 201, 3, 123)]
set_option maxRecDepth 100000 in
theorem TX14_nameHere_0 : zchk (zMc mX14_nameHere) tX14_nameHere_0 = true := by decide +kernel
def tX14_nameHere_1 : List (Nat × Instr × Nat × Nat) := [(123, .athrow, 1, 124), (124, .iload_n 1, 1, 125), (125, .ireturn, 1, 126)]
set_option maxRecDepth 100000 in
theorem TX14_nameHere_1 : zchk (zMc mX14_nameHere) tX14_nameHere_1 = true := by decide +kernel
theorem kX14_nameHere : zOK mX14_nameHere := ⟨zw1282, zw72, by decide, by decide +kernel, by decide +kernel⟩
def mX14_reads : zM := (yX14_reads, prog_14_method_24_code, 4, none, [])
def tX14_reads_0 : List (Nat × Instr × Nat × Nat) := [(0, .aload_n 0, 1, 1), (1, .getfield 42, 3, 4), (4, .iconst 0, 1, 5), (5, .putfield 210, 3, 8), (8, .aload_n 0, 1, 9), (9, .getfield 42, 3, 12), (12, .iconst 0, 1, 13), (13, .putfield 213, 3, 16), (16, .aload_n 0, 1, 17), (17, .iconst 0, 1, 18), (18, .putfield 216, 3, 21), (21, .aload_n 0, 1, 22), (22, .iconst 0, 1, 23), (23, .putfield 219, 3, 26), (26, .aload_n 0, 1, 27), (27, .invokevirtual 222, 3, 30), (30, .iconst 1, 1, 31), (31, .istore_n 1, 1, 32), (32, .iload_n 1, 1, 33), (33, .ifCond .eq 198, 3, 36), (36, .aload_n 0, 1, 37), (37, .ldc 189, 2, 39), (39, .invokevirtual 190, 3, 42), (42, .ifCond .ne 18, 3, 45), (45, .aload_n 0, 1, 46), (46, .ldc 194, 2, 48), (48, .invokevirtual 190, 3, 51), (51, .ifCond .ne 9, 3, 54), (54, .aload_n 0, 1, 55), (55, .iconst 1, 1, 56), (56, .invokevirtual 201, 3, 59), (59, .athrow, 1, 60), (60, .aload_n 0, 1, 61), (61, .getfield 42, 3, 64), (64, .getfield 210, 3, 67), (67, .bipush 12, 2, 69), (69, .if_icmp .ne 9, 3, 72), (72, .aload_n 0, 1, 73), (73, .iconst 3, 1, 74), (74, .invokevirtual 201, 3, 77), (77, .athrow, 1, 78), (78, .aload_n 0, 1, 79), (79, .getfield 42, 3, 82), (82, .getfield 210, 3, 85), (85, .istore_n 2, 1, 86), (86, .aload_n 0, 1, 87), (87, .getfield 42, 3, 90), (90, .getfield 225, 3, 93), (93, .iload_n 2, 1, 94), (94, .aload_n 0, 1, 95), (95, .ldc 194, 2, 97), (97, .invokevirtual 190, 3, 100), (100, .bastore, 1, 101), (101, .aload_n 0, 1, 102), (102, .getfield 42, 3, 105), (105, .getfield 229, 3, 108), (108, .iload_n 2, 1, 109), (109, .iconst 0, 1, 110), (110, .iastore, 1, 111), (111, .aload_n 0, 1, 112)]
set_option maxRecDepth 100000 in
theorem TX14_reads_0 : zchk (zMc mX14_reads) tX14_reads_0 = true := by decide +kernel
def tX14_reads_1 : List (Nat × Instr × Nat × Nat) := [(112, .getfield 42, 3, 115), (115, .getfield 232, 3, 118), (118, .iload_n 2, 1, 119), (119, .aload_n 0, 1, 120), (120, .getfield 42, 3, 123), (123, .getfield 213, 3, 126), (126, .iastore, 1, 127), (127, .aload_n 0, 1, 128), (128, .invokevirtual 222, 3, 131), (131, .aload_n 0, 1, 132), (132, .ldc 195, 2, 134), (134, .invokevirtual 190, 3, 137), (137, .istore_n 3, 1, 138), (138, .iload_n 3, 1, 139), (139, .ifCond .eq 22, 3, 142), (142, .aload_n 0, 1, 143), (143, .invokevirtual 222, 3, 146), (146, .aload_n 0, 1, 147), (147, .iload_n 2, 1, 148), (148, .invokevirtual 235, 3, 151), (151, .aload_n 0, 1, 152), (152, .ldc 197, 2, 154), (154, .invokevirtual 190, 3, 157), (157, .istore_n 3, 1, 158), (158, .goto (-20), 3, 161), (161, .aload_n 0, 1, 162), (162, .ldc 199, 2, 164), (164, .invokevirtual 190, 3, 167), (167, .ifCond .ne 9, 3, 170), (170, .aload_n 0, 1, 171), (171, .iconst 1, 1, 172), (172, .invokevirtual 201, 3, 175), (175, .athrow, 1, 176), (176, .aload_n 0, 1, 177), (177, .invokevirtual 222, 3, 180), (180, .aload_n 0, 1, 181), (181, .invokevirtual 239, 3, 184), (184, .aload_n 0, 1, 185), (185, .getfield 42, 3, 188), (188, .getfield 242, 3, 191), (191, .iload_n 2, 1, 192), (192, .aload_n 0, 1, 193), (193, .getfield 42, 3, 196), (196, .getfield 213, 3, 199), (199, .iastore, 1, 200), (200, .aload_n 0, 1, 201), (201, .getfield 42, 3, 204), (204, .dup, 1, 205), (205, .getfield 210, 3, 208), (208, .iconst 1, 1, 209), (209, .iadd, 1, 210), (210, .putfield 210, 3, 213), (213, .aload_n 0, 1, 214), (214, .bipush 59, 2, 216), (216, .invokevirtual 245, 3, 219), (219, .istore_n 1, 1, 220), (220, .iload_n 1, 1, 221), (221, .ifCond .eq 7, 3, 224), (224, .aload_n 0, 1, 225), (225, .invokevirtual 222, 3, 228)]
set_option maxRecDepth 100000 in
theorem TX14_reads_1 : zchk (zMc mX14_reads) tX14_reads_1 = true := by decide +kernel
def tX14_reads_2 : List (Nat × Instr × Nat × Nat) := [(228, .goto (-196), 3, 231), (231, .aload_n 0, 1, 232), (232, .getfield 166, 3, 235), (235, .iconst 1, 1, 236), (236, .if_icmp .eq 9, 3, 239), (239, .aload_n 0, 1, 240), (240, .iconst 1, 1, 241), (241, .invokevirtual 201, 3, 244), (244, .athrow, 1, 245), (245, .return_, 1, 246)]
set_option maxRecDepth 100000 in
theorem TX14_reads_2 : zchk (zMc mX14_reads) tX14_reads_2 = true := by decide +kernel
theorem kX14_reads : zOK mX14_reads := ⟨zw1239, zw72, by decide, by decide +kernel, by decide +kernel⟩
def mX14_readTest : zM := (yX14_readTest, prog_14_method_25_code, 3, none, [])
def tX14_readTest_0 : List (Nat × Instr × Nat × Nat) := [(0, .aload_n 0, 1, 1), (1, .getfield 166, 3, 4), (4, .iconst 3, 1, 5), (5, .if_icmp .eq 17, 3, 8), (8, .aload_n 0, 1, 9), (9, .bipush 40, 2, 11), (11, .invokevirtual 245, 3, 14), (14, .ifCond .ne 8, 3, 17), (17, .aload_n 0, 1, 18), (18, .invokevirtual 247, 3, 21), (21, .istore_n 2, 1, 22), (22, .aload_n 0, 1, 23), (23, .getfield 42, 3, 26), (26, .getfield 229, 3, 29), (29, .iload_n 1, 1, 30), (30, .iaload, 1, 31), (31, .iconst 4, 1, 32), (32, .if_icmp .ne 9, 3, 35), (35, .aload_n 0, 1, 36), (36, .iconst 3, 1, 37), (37, .invokevirtual 201, 3, 40), (40, .athrow, 1, 41), (41, .aload_n 0, 1, 42), (42, .invokevirtual 239, 3, 45), (45, .aload_n 0, 1, 46), (46, .bipush 60, 2, 48), (48, .invokevirtual 245, 3, 51), (51, .ifCond .eq 8, 3, 54), (54, .bipush 6, 2, 56), (56, .goto 32, 3, 59), (59, .aload_n 0, 1, 60), (60, .bipush 62, 2, 62), (62, .invokevirtual 245, 3, 65), (65, .ifCond .eq 8, 3, 68), (68, .bipush 7, 2, 70), (70, .goto 18, 3, 73), (73, .aload_n 0, 1, 74), (74, .bipush 61, 2, 76), (76, .invokevirtual 245, 3, 79), (79, .ifCond .eq 8, 3, 82), (82, .bipush 8, 2, 84), (84, .goto 4, 3, 87), (87, .iconst (-1), 1, 88), (88, .istore_n 2, 1, 89), (89, .iload_n 2, 1, 90), (90, .iconst (-1), 1, 91), (91, .if_icmp .ne 9, 3, 94), (94, .aload_n 0, 1, 95), (95, .iconst 1, 1, 96), (96, .invokevirtual 201, 3, 99), (99, .athrow, 1, 100), (100, .aload_n 0, 1, 101), (101, .invokevirtual 222, 3, 104), (104, .aload_n 0, 1, 105), (105, .invokevirtual 239, 3, 108), (108, .aload_n 0, 1, 109), (109, .getfield 42, 3, 112), (112, .iload_n 2, 1, 113), (113, .iconst 0, 1, 114), (114, .invokevirtual 250, 3, 117)]
set_option maxRecDepth 100000 in
theorem TX14_readTest_0 : zchk (zMc mX14_readTest) tX14_readTest_0 = true := by decide +kernel
def tX14_readTest_1 : List (Nat × Instr × Nat × Nat) := [(117, .aload_n 0, 1, 118), (118, .getfield 42, 3, 121), (121, .getfield 229, 3, 124), (124, .iload_n 1, 1, 125), (125, .dup2, 1, 126), (126, .iaload, 1, 127), (127, .iconst 1, 1, 128), (128, .iadd, 1, 129), (129, .iastore, 1, 130), (130, .return_, 1, 131)]
set_option maxRecDepth 100000 in
theorem TX14_readTest_1 : zchk (zMc mX14_readTest) tX14_readTest_1 = true := by decide +kernel
theorem kX14_readTest : zOK mX14_readTest := ⟨zw1274, zw72, by decide, by decide +kernel, by decide +kernel⟩
def mX14_sign : zM := (yX14_sign, prog_14_method_26_code, 1, none, [])
def tX14_sign : List (Nat × Instr × Nat × Nat) := [(0, .aload_n 0, 1, 1), (1, .getfield 219, 3, 4), (4, .bipush 60, 2, 6), (6, .if_icmp .ne 9, 3, 9), (9, .aload_n 0, 1, 10), (10, .iconst 3, 1, 11), (11, .invokevirtual 201, 3, 14), (14, .athrow, 1, 15), (15, .aload_n 0, 1, 16), (16, .dup, 1, 17), (17, .getfield 219, 3, 20), (20, .iconst 1, 1, 21), (21, .iadd, 1, 22), (22, .putfield 219, 3, 25), (25, .aload_n 0, 1, 26), (26, .invokevirtual 222, 3, 29), (29, .return_, 1, 30)]
set_option maxRecDepth 100000 in
theorem TX14_sign : zchk (zMc mX14_sign) tX14_sign = true := by decide +kernel
theorem kX14_sign : zOK mX14_sign := ⟨zw1308, zw72, by decide, by decide +kernel, by decide +kernel⟩
def mX14_readSum : zM := (yX14_readSum, prog_14_method_27_code, 2, none, [])
def tX14_readSum : List (Nat × Instr × Nat × Nat) := [(0, .aload_n 0, 1, 1), (1, .invokevirtual 254, 3, 4), (4, .aload_n 0, 1, 5), (5, .bipush 43, 2, 7), (7, .invokevirtual 245, 3, 10), (10, .ifCond .ne 12, 3, 13), (13, .aload_n 0, 1, 14), (14, .bipush 45, 2, 16), (16, .invokevirtual 245, 3, 19), (19, .ifCond .eq 38, 3, 22), (22, .aload_n 0, 1, 23), (23, .bipush 43, 2, 25), (25, .invokevirtual 245, 3, 28), (28, .ifCond .eq 7, 3, 31), (31, .iconst 2, 1, 32), (32, .goto 4, 3, 35), (35, .iconst 3, 1, 36), (36, .istore_n 1, 1, 37), (37, .aload_n 0, 1, 38), (38, .invokevirtual 257, 3, 41), (41, .aload_n 0, 1, 42), (42, .invokevirtual 254, 3, 45), (45, .aload_n 0, 1, 46), (46, .getfield 42, 3, 49), (49, .iload_n 1, 1, 50), (50, .iconst 0, 1, 51), (51, .invokevirtual 250, 3, 54), (54, .goto (-50), 3, 57), (57, .return_, 1, 58)]
set_option maxRecDepth 100000 in
theorem TX14_readSum : zchk (zMc mX14_readSum) tX14_readSum = true := by decide +kernel
theorem kX14_readSum : zOK mX14_readSum := ⟨zw1292, zw72, by decide, by decide +kernel, by decide +kernel⟩
def mX14_readTerm : zM := (yX14_readTerm, prog_14_method_28_code, 2, none, [])
def tX14_readTerm : List (Nat × Instr × Nat × Nat) := [(0, .aload_n 0, 1, 1), (1, .invokevirtual 260, 3, 4), (4, .aload_n 0, 1, 5), (5, .bipush 42, 2, 7), (7, .invokevirtual 245, 3, 10), (10, .ifCond .ne 12, 3, 13), (13, .aload_n 0, 1, 14), (14, .bipush 47, 2, 16), (16, .invokevirtual 245, 3, 19), (19, .ifCond .eq 38, 3, 22), (22, .aload_n 0, 1, 23), (23, .bipush 42, 2, 25), (25, .invokevirtual 245, 3, 28), (28, .ifCond .eq 7, 3, 31), (31, .iconst 4, 1, 32), (32, .goto 4, 3, 35), (35, .iconst 5, 1, 36), (36, .istore_n 1, 1, 37), (37, .aload_n 0, 1, 38), (38, .invokevirtual 257, 3, 41), (41, .aload_n 0, 1, 42), (42, .invokevirtual 260, 3, 45), (45, .aload_n 0, 1, 46), (46, .getfield 42, 3, 49), (49, .iload_n 1, 1, 50), (50, .iconst 0, 1, 51), (51, .invokevirtual 250, 3, 54), (54, .goto (-50), 3, 57), (57, .return_, 1, 58)]
set_option maxRecDepth 100000 in
theorem TX14_readTerm : zchk (zMc mX14_readTerm) tX14_readTerm = true := by decide +kernel
theorem kX14_readTerm : zOK mX14_readTerm := ⟨zw1296, zw72, by decide, by decide +kernel, by decide +kernel⟩
def mX14_readOne : zM := (yX14_readOne, prog_14_method_29_code, 1, none, [])
def tX14_readOne_0 : List (Nat × Instr × Nat × Nat) := [(0, .aload_n 0, 1, 1), (1, .getfield 166, 3, 4), (4, .iconst 3, 1, 5), (5, .if_icmp .ne 22, 3, 8), (8, .aload_n 0, 1, 9), (9, .getfield 42, 3, 12), (12, .iconst 0, 1, 13), (13, .aload_n 0, 1, 14), (14, .getfield 182, 3, 17), (17, .invokevirtual 250, 3, 20), (20, .aload_n 0, 1, 21), (21, .invokevirtual 222, 3, 24), (24, .goto 93, 3, 27), (27, .aload_n 0, 1, 28), (28, .bipush 40, 2, 30), (30, .invokevirtual 245, 3, 33), (33, .ifCond .eq 68, 3, 36), (36, .aload_n 0, 1, 37), (37, .getfield 216, 3, 40), (40, .bipush 8, 2, 42), (42, .if_icmp .ne 9, 3, 45), (45, .aload_n 0, 1, 46), (46, .iconst 3, 1, 47), (47, .invokevirtual 201, 3, 50), (50, .athrow, 1, 51), (51, .aload_n 0, 1, 52), (52, .dup, 1, 53), (53, .getfield 216, 3, 56), (56, .iconst 1, 1, 57), (57, .iadd, 1, 58), (58, .putfield 216, 3, 61), (61, .aload_n 0, 1, 62), (62, .invokevirtual 222, 3, 65), (65, .aload_n 0, 1, 66), (66, .invokevirtual 239, 3, 69), (69, .aload_n 0, 1, 70), (70, .bipush 41, 2, 72), (72, .invokevirtual 245, 3, 75), (75, .ifCond .ne 9, 3, 78), (78, .aload_n 0, 1, 79), (79, .iconst 1, 1, 80), (80, .invokevirtual 201, 3, 83), (83, .athrow, 1, 84), (84, .aload_n 0, 1, 85), (85, .invokevirtual 222, 3, 88), (88, .aload_n 0, 1, 89), (89, .dup, 1, 90), (90, .getfield 216, 3, 93), (93, .iconst 1, 1, 94), (94, .isub, 1, 95), (95, .putfield 216, 3, 98), (98, .goto 19, 3, 101), (101, .aload_n 0, 1, 102), (102, .getfield 42, 3, 105), (105, .iconst 1, 1, 106), (106, .aload_n 0, 1, 107), (107, .invokevirtual 247, 3, 110), (110, .invokevirtual 250, 3, 113), (113, .aload_n 0, 1, 114), (114, .invokevirtual 222, 3, 117)]
set_option maxRecDepth 100000 in
theorem TX14_readOne_0 : zchk (zMc mX14_readOne) tX14_readOne_0 = true := by decide +kernel
def tX14_readOne_1 : List (Nat × Instr × Nat × Nat) := [(117, .return_, 1, 118)]
set_option maxRecDepth 100000 in
theorem TX14_readOne_1 : zchk (zMc mX14_readOne) tX14_readOne_1 = true := by decide +kernel
theorem kX14_readOne : zOK mX14_readOne := ⟨zw1300, zw72, by decide, by decide +kernel, by decide +kernel⟩
def mX14_feed : zM := (yX14_feed, prog_14_method_30_code, 8, (Option.some Jvm.ClassFile.FieldType.int), [])
def tX14_feed_0 : List (Nat × Instr × Nat × Nat) := [(0, .aload_n 0, 1, 1), (1, .iconst 0, 1, 2), (2, .putfield 100, 3, 5), (5, .aload_n 0, 1, 6), (6, .getfield 263, 3, 9), (9, .bipush 20, 2, 11), (11, .iadd, 1, 12), (12, .sipush 300, 3, 15), (15, .if_icmp .le 5, 3, 18), (18, .iconst (-1), 1, 19), (19, .ireturn, 1, 20), (20, .iconst 0, 1, 21), (21, .istore 6, 2, 23), (23, .iload 6, 2, 25), (25, .bipush 20, 2, 27), (27, .if_icmp .ge 90, 3, 30), (30, .iload 6, 2, 32), (32, .iconst 4, 1, 33), (33, .if_icmp .ge 7, 3, 36), (36, .iload_n 1, 1, 37), (37, .goto 39, 3, 40), (40, .iload 6, 2, 42), (42, .bipush 8, 2, 44), (44, .if_icmp .ge 7, 3, 47), (47, .iload_n 2, 1, 48), (48, .goto 28, 3, 51), (51, .iload 6, 2, 53), (53, .bipush 12, 2, 55), (55, .if_icmp .ge 7, 3, 58), (58, .iload_n 3, 1, 59), (59, .goto 17, 3, 62), (62, .iload 6, 2, 64), (64, .bipush 16, 2, 66), (66, .if_icmp .ge 8, 3, 69), (69, .iload 4, 2, 71), (71, .goto 5, 3, 74), (74, .iload 5, 2, 76), (76, .istore 7, 2, 78), (78, .aload_n 0, 1, 79), (79, .getfield 53, 3, 82), (82, .aload_n 0, 1, 83), (83, .getfield 263, 3, 86), (86, .iload 7, 2, 88), (88, .bipush 24, 2, 90), (90, .bipush 8, 2, 92), (92, .iload 6, 2, 94), (94, .iconst 4, 1, 95), (95, .irem, 1, 96), (96, .imul, 1, 97), (97, .isub, 1, 98), (98, .ishr, 1, 99), (99, .i2b, 1, 100), (100, .bastore, 1, 101), (101, .aload_n 0, 1, 102), (102, .dup, 1, 103), (103, .getfield 263, 3, 106), (106, .iconst 1, 1, 107), (107, .iadd, 1, 108), (108, .putfield 263, 3, 111), (111, .iinc 6 1, 3, 114)]
set_option maxRecDepth 100000 in
theorem TX14_feed_0 : zchk (zMc mX14_feed) tX14_feed_0 = true := by decide +kernel
def tX14_feed_1 : List (Nat × Instr × Nat × Nat) := [(114, .goto (-91), 3, 117), (117, .aload_n 0, 1, 118), (118, .getfield 263, 3, 121), (121, .ireturn, 1, 122)]
set_option maxRecDepth 100000 in
theorem TX14_feed_1 : zchk (zMc mX14_feed) tX14_feed_1 = true := by decide +kernel
theorem kX14_feed : zOK mX14_feed := ⟨zw1231, zw72, by decide, by decide +kernel, by decide +kernel⟩
def mX14_edict : zM := (yX14_edict, prog_14_method_31_code, 5, (Option.some Jvm.ClassFile.FieldType.int), [(67, 71, 74, 46)])
def tX14_edict_0 : List (Nat × Instr × Nat × Nat) := [(0, .aload_n 0, 1, 1), (1, .iconst 0, 1, 2), (2, .putfield 100, 3, 5), (5, .aload_n 0, 1, 6), (6, .iload_n 1, 1, 7), (7, .invokevirtual 124, 3, 10), (10, .ifCond .ne 9, 3, 13), (13, .aload_n 0, 1, 14), (14, .iconst 1, 1, 15), (15, .invokevirtual 117, 3, 18), (18, .ireturn, 1, 19), (19, .iload_n 2, 1, 20), (20, .iconst 0, 1, 21), (21, .bipush 99, 2, 23), (23, .invokestatic 113, 3, 26), (26, .ifCond .eq 15, 3, 29), (29, .iload_n 3, 1, 30), (30, .ifCond .lt 11, 3, 33), (33, .iload_n 3, 1, 34), (34, .aload_n 0, 1, 35), (35, .getfield 263, 3, 38), (38, .if_icmp .le 9, 3, 41), (41, .aload_n 0, 1, 42), (42, .iconst 2, 1, 43), (43, .invokevirtual 117, 3, 46), (46, .ireturn, 1, 47), (47, .aload_n 0, 1, 48), (48, .iload_n 3, 1, 49), (49, .putfield 145, 3, 52), (52, .aload_n 0, 1, 53), (53, .iconst 0, 1, 54), (54, .putfield 263, 3, 57), (57, .aload_n 0, 1, 58), (58, .iconst 0, 1, 59), (59, .putfield 160, 3, 62), (62, .aload_n 0, 1, 63), (63, .iconst 0, 1, 64), (64, .putfield 266, 3, 67), (67, .aload_n 0, 1, 68), (68, .invokevirtual 269, 3, 71), (71, .goto 30, 3, 74), (74, .astore 4, 2, 76), (76, .aload_n 0, 1, 77), (77, .aload 4, 2, 79), (79, .getfield 138, 3, 82), (82, .putfield 266, 3, 85), (85, .aload_n 0, 1, 86), (86, .iconst 4, 1, 87), (87, .putfield 103, 3, 90), (90, .aload_n 0, 1, 91), (91, .aload 4, 2, 93), (93, .getfield 144, 3, 96), (96, .putfield 9, 3, 99), (99, .iconst (-1), 1, 100), (100, .ireturn, 1, 101), (101, .aload_n 0, 1, 102), (102, .getfield 272, 3, 105), (105, .bipush 30, 2, 107), (107, .if_icmp .ne 9, 3, 110), (110, .aload_n 0, 1, 111)]
set_option maxRecDepth 100000 in
theorem TX14_edict_0 : zchk (zMc mX14_edict) tX14_edict_0 = true := by decide +kernel
def tX14_edict_1 : List (Nat × Instr × Nat × Nat) := [(111, .iconst 3, 1, 112), (112, .invokevirtual 117, 3, 115), (115, .ireturn, 1, 116), (116, .aload_n 0, 1, 117), (117, .getfield 42, 3, 120), (120, .iload_n 1, 1, 121), (121, .putfield 275, 3, 124), (124, .aload_n 0, 1, 125), (125, .getfield 42, 3, 128), (128, .iload_n 2, 1, 129), (129, .putfield 278, 3, 132), (132, .aload_n 0, 1, 133), (133, .getfield 37, 3, 136), (136, .aload_n 0, 1, 137), (137, .getfield 272, 3, 140), (140, .aload_n 0, 1, 141), (141, .getfield 42, 3, 144), (144, .aastore, 1, 145), (145, .aload_n 0, 1, 146), (146, .new 35, 3, 149), (149, .dup, 1, 150), (150, .invokespecial 41, 3, 153), (153, .putfield 42, 3, 156), (156, .aload_n 0, 1, 157), (157, .dup, 1, 158), (158, .getfield 272, 3, 161), (161, .iconst 1, 1, 162), (162, .iadd, 1, 163), (163, .putfield 272, 3, 166), (166, .aload_n 0, 1, 167), (167, .aload_n 0, 1, 168), (168, .getfield 272, 3, 171), (171, .iconst 1, 1, 172), (172, .isub, 1, 173), (173, .invokevirtual 121, 3, 176), (176, .ireturn, 1, 177)]
set_option maxRecDepth 100000 in
theorem TX14_edict_1 : zchk (zMc mX14_edict) tX14_edict_1 = true := by decide +kernel
theorem kX14_edict : zOK mX14_edict := ⟨zw1235, zw72, by decide, by decide +kernel, by decide +kernel⟩
def mX14_fault : zM := (yX14_fault, prog_14_method_32_code, 1, (Option.some Jvm.ClassFile.FieldType.int), [])
def tX14_fault : List (Nat × Instr × Nat × Nat) := [(0, .aload_n 0, 1, 1), (1, .iconst 0, 1, 2), (2, .putfield 100, 3, 5), (5, .aload_n 0, 1, 6), (6, .getfield 266, 3, 9), (9, .ireturn, 1, 10)]
set_option maxRecDepth 100000 in
theorem TX14_fault : zchk (zMc mX14_fault) tX14_fault = true := by decide +kernel
theorem kX14_fault : zOK mX14_fault := ⟨zw1312, zw72, by decide, by decide +kernel, by decide +kernel⟩
def mX14_where : zM := (yX14_where, prog_14_method_33_code, 1, (Option.some Jvm.ClassFile.FieldType.int), [])
def tX14_where : List (Nat × Instr × Nat × Nat) := [(0, .aload_n 0, 1, 1), (1, .iconst 0, 1, 2), (2, .putfield 100, 3, 5), (5, .aload_n 0, 1, 6), (6, .getfield 9, 3, 9), (9, .ireturn, 1, 10)]
set_option maxRecDepth 100000 in
theorem TX14_where : zchk (zMc mX14_where) tX14_where = true := by decide +kernel
theorem kX14_where : zOK mX14_where := ⟨zw1316, zw72, by decide, by decide +kernel, by decide +kernel⟩
def mX14_forceOf : zM := (yX14_forceOf, prog_14_method_34_code, 5, (Option.some Jvm.ClassFile.FieldType.int), [])
def tX14_forceOf : List (Nat × Instr × Nat × Nat) := [(0, .bipush (-2), 2, 2), (2, .istore_n 3, 1, 3), (3, .iconst 0, 1, 4), (4, .istore 4, 2, 6), (6, .iload 4, 2, 8), (8, .aload_n 0, 1, 9), (9, .getfield 272, 3, 12), (12, .if_icmp .ge 68, 3, 15), (15, .aload_n 0, 1, 16), (16, .getfield 37, 3, 19), (19, .iload 4, 2, 21), (21, .aaload, 1, 22), (22, .getfield 275, 3, 25), (25, .iload_n 1, 1, 26), (26, .if_icmp .ne 48, 3, 29), (29, .aload_n 0, 1, 30), (30, .getfield 37, 3, 33), (33, .iload 4, 2, 35), (35, .aaload, 1, 36), (36, .getfield 278, 3, 39), (39, .iload_n 2, 1, 40), (40, .if_icmp .gt 34, 3, 43), (43, .iload_n 3, 1, 44), (44, .bipush (-2), 2, 46), (46, .if_icmp .eq 25, 3, 49), (49, .aload_n 0, 1, 50), (50, .getfield 37, 3, 53), (53, .iload 4, 2, 55), (55, .aaload, 1, 56), (56, .getfield 278, 3, 59), (59, .aload_n 0, 1, 60), (60, .getfield 37, 3, 63), (63, .iload_n 3, 1, 64), (64, .aaload, 1, 65), (65, .getfield 278, 3, 68), (68, .if_icmp .lt 6, 3, 71), (71, .iload 4, 2, 73), (73, .istore_n 3, 1, 74), (74, .iinc 4 1, 3, 77), (77, .goto (-71), 3, 80), (80, .iload_n 3, 1, 81), (81, .ireturn, 1, 82)]
set_option maxRecDepth 100000 in
theorem TX14_forceOf : zchk (zMc mX14_forceOf) tX14_forceOf = true := by decide +kernel
theorem kX14_forceOf : zOK mX14_forceOf := ⟨zw1324, zw72, by decide, by decide +kernel, by decide +kernel⟩
def mX14_force : zM := (yX14_force, prog_14_method_35_code, 3, (Option.some Jvm.ClassFile.FieldType.int), [])
def tX14_force : List (Nat × Instr × Nat × Nat) := [(0, .aload_n 0, 1, 1), (1, .iconst 0, 1, 2), (2, .putfield 100, 3, 5), (5, .aload_n 0, 1, 6), (6, .iload_n 1, 1, 7), (7, .invokevirtual 124, 3, 10), (10, .ifCond .eq 22, 3, 13), (13, .iload_n 2, 1, 14), (14, .iconst 0, 1, 15), (15, .bipush 99, 2, 17), (17, .invokestatic 113, 3, 20), (20, .ifCond .eq 12, 3, 23), (23, .aload_n 0, 1, 24), (24, .iload_n 1, 1, 25), (25, .iload_n 2, 1, 26), (26, .invokevirtual 280, 3, 29), (29, .goto 4, 3, 32), (32, .iconst (-1), 1, 33), (33, .ireturn, 1, 34)]
set_option maxRecDepth 100000 in
theorem TX14_force : zchk (zMc mX14_force) tX14_force = true := by decide +kernel
theorem kX14_force : zOK mX14_force := ⟨zw1320, zw72, by decide, by decide +kernel, by decide +kernel⟩
def mX14_bound : zM := (yX14_bound, prog_14_method_36_code, 2, (Option.some Jvm.ClassFile.FieldType.int), [])
def tX14_bound : List (Nat × Instr × Nat × Nat) := [(0, .ldc2_w 284, 3, 3), (3, .ldc2_w 286, 3, 6), (6, .lload_n 0, 1, 7), (7, .invokestatic 288, 3, 10), (10, .invokestatic 294, 3, 13), (13, .l2i, 1, 14), (14, .ireturn, 1, 15)]
set_option maxRecDepth 100000 in
theorem TX14_bound : zchk (zMc mX14_bound) tX14_bound = true := by decide +kernel
theorem kX14_bound : zOK mX14_bound := ⟨zw1342, zw72, by decide, by decide +kernel, by decide +kernel⟩
def mX14_both : zM := (yX14_both, prog_14_method_37_code, 5, (Option.some Jvm.ClassFile.FieldType.int), [])
def tX14_both : List (Nat × Instr × Nat × Nat) := [(0, .iload_n 0, 1, 1), (1, .tableswitch 48 2 4 #[27, 34, 41], 27, 28), (28, .lload_n 1, 1, 29), (29, .lload_n 3, 1, 30), (30, .ladd, 1, 31), (31, .invokestatic 297, 3, 34), (34, .ireturn, 1, 35), (35, .lload_n 1, 1, 36), (36, .lload_n 3, 1, 37), (37, .lsub, 1, 38), (38, .invokestatic 297, 3, 41), (41, .ireturn, 1, 42), (42, .lload_n 1, 1, 43), (43, .lload_n 3, 1, 44), (44, .lmul, 1, 45), (45, .invokestatic 297, 3, 48), (48, .ireturn, 1, 49), (49, .lload_n 3, 1, 50), (50, .lconst 0, 1, 51), (51, .lcmp, 1, 52), (52, .ifCond .ne 7, 3, 55), (55, .iconst 0, 1, 56), (56, .goto 9, 3, 59), (59, .lload_n 1, 1, 60), (60, .lload_n 3, 1, 61), (61, .ldiv, 1, 62), (62, .invokestatic 297, 3, 65), (65, .ireturn, 1, 66)]
set_option maxRecDepth 100000 in
theorem TX14_both : zchk (zMc mX14_both) tX14_both = true := by decide +kernel
theorem kX14_both : zOK mX14_both := ⟨zw1339, zw72, by decide, by decide +kernel, by decide +kernel⟩
def mX14_tells : zM := (yX14_tells, prog_14_method_38_code, 12, (Option.some Jvm.ClassFile.FieldType.int), [])
def tX14_tells_0 : List (Nat × Instr × Nat × Nat) := [(0, .iconst 0, 1, 1), (1, .istore 6, 2, 3), (3, .iconst 1, 1, 4), (4, .istore 7, 2, 6), (6, .aload_n 1, 1, 7), (7, .getfield 232, 3, 10), (10, .iload_n 2, 1, 11), (11, .iaload, 1, 12), (12, .istore 8, 2, 14), (14, .iload 8, 2, 16), (16, .aload_n 1, 1, 17), (17, .getfield 242, 3, 20), (20, .iload_n 2, 1, 21), (21, .iaload, 1, 22), (22, .if_icmp .ge 224, 3, 25), (25, .aload_n 1, 1, 26), (26, .getfield 301, 3, 29), (29, .iload 8, 2, 31), (31, .iaload, 1, 32), (32, .istore 9, 2, 34), (34, .iload 9, 2, 36), (36, .ifCond .eq 9, 3, 39), (39, .iload 9, 2, 41), (41, .iconst 1, 1, 42), (42, .if_icmp .ne 77, 3, 45), (45, .aload_n 1, 1, 46), (46, .getfield 303, 3, 49), (49, .iload 8, 2, 51), (51, .iaload, 1, 52), (52, .istore 10, 2, 54), (54, .aload_n 0, 1, 55), (55, .getfield 57, 3, 58), (58, .iload 6, 2, 60), (60, .iload 9, 2, 62), (62, .ifCond .ne 8, 3, 65), (65, .iload 10, 2, 67), (67, .goto 45, 3, 70), (70, .iload 10, 2, 72), (72, .ifCond .ne 8, 3, 75), (75, .iload 4, 2, 77), (77, .goto 35, 3, 80), (80, .iload 10, 2, 82), (82, .iconst 1, 1, 83), (83, .if_icmp .ne 12, 3, 86), (86, .aload_n 0, 1, 87), (87, .getfield 16, 3, 90), (90, .iload_n 3, 1, 91), (91, .iaload, 1, 92), (92, .goto 20, 3, 95), (95, .iload 10, 2, 97), (97, .iconst 2, 1, 98), (98, .if_icmp .ne 12, 3, 101), (101, .aload_n 0, 1, 102), (102, .getfield 20, 3, 105), (105, .iload_n 3, 1, 106), (106, .iaload, 1, 107), (107, .goto 5, 3, 110), (110, .iload 5, 2, 112), (112, .iastore, 1, 113), (113, .iinc 6 1, 3, 116)]
set_option maxRecDepth 100000 in
theorem TX14_tells_0 : zchk (zMc mX14_tells) tX14_tells_0 = true := by decide +kernel
def tX14_tells_1 : List (Nat × Instr × Nat × Nat) := [(116, .goto 124, 3, 119), (119, .iload 9, 2, 121), (121, .bipush 6, 2, 123), (123, .if_icmp .lt 82, 3, 126), (126, .iinc 6 (-2), 3, 129), (129, .aload_n 0, 1, 130), (130, .getfield 57, 3, 133), (133, .iload 6, 2, 135), (135, .iaload, 1, 136), (136, .istore 10, 2, 138), (138, .aload_n 0, 1, 139), (139, .getfield 57, 3, 142), (142, .iload 6, 2, 144), (144, .iconst 1, 1, 145), (145, .iadd, 1, 146), (146, .iaload, 1, 147), (147, .istore 11, 2, 149), (149, .iload 7, 2, 151), (151, .ifCond .eq 48, 3, 154), (154, .iload 9, 2, 156), (156, .bipush 6, 2, 158), (158, .if_icmp .ne 13, 3, 161), (161, .iload 10, 2, 163), (163, .iload 11, 2, 165), (165, .if_icmp .ge 34, 3, 168), (168, .goto 27, 3, 171), (171, .iload 9, 2, 173), (173, .bipush 7, 2, 175), (175, .if_icmp .ne 13, 3, 178), (178, .iload 10, 2, 180), (180, .iload 11, 2, 182), (182, .if_icmp .le 17, 3, 185), (185, .goto 10, 3, 188), (188, .iload 10, 2, 190), (190, .iload 11, 2, 192), (192, .if_icmp .ne 7, 3, 195), (195, .iconst 1, 1, 196), (196, .goto 4, 3, 199), (199, .iconst 0, 1, 200), (200, .istore 7, 2, 202), (202, .goto 38, 3, 205), (205, .iinc 6 (-1), 3, 208), (208, .aload_n 0, 1, 209), (209, .getfield 57, 3, 212), (212, .iload 6, 2, 214), (214, .iconst 1, 1, 215), (215, .isub, 1, 216), (216, .iload 9, 2, 218), (218, .aload_n 0, 1, 219), (219, .getfield 57, 3, 222), (222, .iload 6, 2, 224), (224, .iconst 1, 1, 225), (225, .isub, 1, 226), (226, .iaload, 1, 227), (227, .i2l, 1, 228), (228, .aload_n 0, 1, 229), (229, .getfield 57, 3, 232), (232, .iload 6, 2, 234), (234, .iaload, 1, 235), (235, .i2l, 1, 236)]
set_option maxRecDepth 100000 in
theorem TX14_tells_1 : zchk (zMc mX14_tells) tX14_tells_1 = true := by decide +kernel
def tX14_tells_2 : List (Nat × Instr × Nat × Nat) := [(236, .invokestatic 306, 3, 239), (239, .iastore, 1, 240), (240, .iinc 8 1, 3, 243), (243, .goto (-229), 3, 246), (246, .iload 7, 2, 248), (248, .ifCond .eq 12, 3, 251), (251, .aload_n 0, 1, 252), (252, .getfield 57, 3, 255), (255, .iconst 0, 1, 256), (256, .iaload, 1, 257), (257, .goto 6, 3, 260), (260, .ldc_w 310, 3, 263), (263, .ireturn, 1, 264)]
set_option maxRecDepth 100000 in
theorem TX14_tells_2 : zchk (zMc mX14_tells) tX14_tells_2 = true := by decide +kernel
theorem kX14_tells : zOK mX14_tells := ⟨zw1336, zw72, by decide, by decide +kernel, by decide +kernel⟩
def mX14_priceOf : zM := (yX14_priceOf, prog_14_method_39_code, 11, (Option.some Jvm.ClassFile.FieldType.int), [])
def tX14_priceOf_0 : List (Nat × Instr × Nat × Nat) := [(0, .iconst 0, 1, 1), (1, .istore 4, 2, 3), (3, .iconst 0, 1, 4), (4, .istore 5, 2, 6), (6, .iload 5, 2, 8), (8, .iload_n 2, 1, 9), (9, .if_icmp .gt 149, 3, 12), (12, .aload_n 0, 1, 13), (13, .iload_n 1, 1, 14), (14, .iload 5, 2, 16), (16, .invokevirtual 280, 3, 19), (19, .istore 6, 2, 21), (21, .iconst 0, 1, 22), (22, .istore 7, 2, 24), (24, .iconst 0, 1, 25), (25, .istore 8, 2, 27), (27, .iconst 0, 1, 28), (28, .istore 9, 2, 30), (30, .iload 6, 2, 32), (32, .ifCond .lt 93, 3, 35), (35, .iload 9, 2, 37), (37, .aload_n 0, 1, 38), (38, .getfield 37, 3, 41), (41, .iload 6, 2, 43), (43, .aaload, 1, 44), (44, .getfield 210, 3, 47), (47, .if_icmp .ge 78, 3, 50), (50, .iload 8, 2, 52), (52, .ifCond .ne 73, 3, 55), (55, .aload_n 0, 1, 56), (56, .getfield 37, 3, 59), (59, .iload 6, 2, 61), (61, .aaload, 1, 62), (62, .getfield 225, 3, 65), (65, .iload 9, 2, 67), (67, .baload, 1, 68), (68, .iload_n 3, 1, 69), (69, .if_icmp .eq 6, 3, 72), (72, .goto 47, 3, 75), (75, .aload_n 0, 1, 76), (76, .aload_n 0, 1, 77), (77, .getfield 37, 3, 80), (80, .iload 6, 2, 82), (82, .aaload, 1, 83), (83, .iload 9, 2, 85), (85, .iload_n 1, 1, 86), (86, .iload 5, 2, 88), (88, .iload 4, 2, 90), (90, .invokevirtual 311, 3, 93), (93, .istore 10, 2, 95), (95, .iload 10, 2, 97), (97, .ldc_w 315, 3, 100), (100, .if_icmp .lt 7, 3, 103), (103, .iconst 1, 1, 104), (104, .goto 4, 3, 107), (107, .iconst 0, 1, 108), (108, .istore 8, 2, 110), (110, .iload 8, 2, 112), (112, .ifCond .eq 7, 3, 115), (115, .iload 10, 2, 117)]
set_option maxRecDepth 100000 in
theorem TX14_priceOf_0 : zchk (zMc mX14_priceOf) tX14_priceOf_0 = true := by decide +kernel
def tX14_priceOf_1 : List (Nat × Instr × Nat × Nat) := [(117, .istore 7, 2, 119), (119, .iinc 9 1, 3, 122), (122, .goto (-92), 3, 125), (125, .iconst 0, 1, 126), (126, .iload_n 3, 1, 127), (127, .ifCond .eq 12, 3, 130), (130, .aload_n 0, 1, 131), (131, .getfield 20, 3, 134), (134, .iload_n 1, 1, 135), (135, .iaload, 1, 136), (136, .goto 6, 3, 139), (139, .sipush 1000, 3, 142), (142, .iload 7, 2, 144), (144, .invokestatic 316, 3, 147), (147, .invokestatic 318, 3, 150), (150, .istore 4, 2, 152), (152, .iinc 5 1, 3, 155), (155, .goto (-149), 3, 158), (158, .iload 4, 2, 160), (160, .ireturn, 1, 161)]
set_option maxRecDepth 100000 in
theorem TX14_priceOf_1 : zchk (zMc mX14_priceOf) tX14_priceOf_1 = true := by decide +kernel
theorem kX14_priceOf : zOK mX14_priceOf := ⟨zw1332, zw72, by decide, by decide +kernel, by decide +kernel⟩
def mX14_price : zM := (yX14_price, prog_14_method_40_code, 4, (Option.some Jvm.ClassFile.FieldType.int), [])
def tX14_price : List (Nat × Instr × Nat × Nat) := [(0, .aload_n 0, 1, 1), (1, .iconst 0, 1, 2), (2, .putfield 100, 3, 5), (5, .aload_n 0, 1, 6), (6, .iload_n 1, 1, 7), (7, .invokevirtual 124, 3, 10), (10, .ifCond .eq 23, 3, 13), (13, .iload_n 2, 1, 14), (14, .iconst 0, 1, 15), (15, .bipush 99, 2, 17), (17, .invokestatic 113, 3, 20), (20, .ifCond .eq 13, 3, 23), (23, .aload_n 0, 1, 24), (24, .iload_n 1, 1, 25), (25, .iload_n 2, 1, 26), (26, .iload_n 3, 1, 27), (27, .invokevirtual 320, 3, 30), (30, .goto 4, 3, 33), (33, .iconst (-1), 1, 34), (34, .ireturn, 1, 35)]
set_option maxRecDepth 100000 in
theorem TX14_price : zchk (zMc mX14_price) tX14_price = true := by decide +kernel
theorem kX14_price : zOK mX14_price := ⟨zw1328, zw72, by decide, by decide +kernel, by decide +kernel⟩
def mX14_prices : zM := (yX14_prices, prog_14_method_41_code, 2, none, [])
def tX14_prices : List (Nat × Instr × Nat × Nat) := [(0, .iconst 0, 1, 1), (1, .istore_n 1, 1, 2), (2, .iload_n 1, 1, 3), (3, .aload_n 0, 1, 4), (4, .getfield 106, 3, 7), (7, .if_icmp .ge 41, 3, 10), (10, .aload_n 0, 1, 11), (11, .getfield 60, 3, 14), (14, .iload_n 1, 1, 15), (15, .aload_n 0, 1, 16), (16, .iload_n 1, 1, 17), (17, .aload_n 0, 1, 18), (18, .getfield 324, 3, 21), (21, .iconst 0, 1, 22), (22, .invokevirtual 320, 3, 25), (25, .iastore, 1, 26), (26, .aload_n 0, 1, 27), (27, .getfield 63, 3, 30), (30, .iload_n 1, 1, 31), (31, .aload_n 0, 1, 32), (32, .iload_n 1, 1, 33), (33, .aload_n 0, 1, 34), (34, .getfield 324, 3, 37), (37, .iconst 1, 1, 38), (38, .invokevirtual 320, 3, 41), (41, .iastore, 1, 42), (42, .iinc 1 1, 3, 45), (45, .goto (-43), 3, 48), (48, .return_, 1, 49)]
set_option maxRecDepth 100000 in
theorem TX14_prices : zchk (zMc mX14_prices) tX14_prices = true := by decide +kernel
theorem kX14_prices : zOK mX14_prices := ⟨zw1364, zw72, by decide, by decide +kernel, by decide +kernel⟩
def mX14_costOf : zM := (yX14_costOf, prog_14_method_42_code, 3, (Option.some Jvm.ClassFile.FieldType.int), [])
def tX14_costOf : List (Nat × Instr × Nat × Nat) := [(0, .aload_n 0, 1, 1), (1, .getfield 29, 3, 4), (4, .iload_n 1, 1, 5), (5, .iaload, 1, 6), (6, .iload_n 2, 1, 7), (7, .aload_n 0, 1, 8), (8, .getfield 13, 3, 11), (11, .imul, 1, 12), (12, .iadd, 1, 13), (13, .ireturn, 1, 14)]
set_option maxRecDepth 100000 in
theorem TX14_costOf : zchk (zMc mX14_costOf) tX14_costOf = true := by decide +kernel
theorem kX14_costOf : zOK mX14_costOf := ⟨zw1373, zw72, by decide, by decide +kernel, by decide +kernel⟩
def mX14_ways : zM := (yX14_ways, prog_14_method_43_code, 5, none, [])
def tX14_ways_0 : List (Nat × Instr × Nat × Nat) := [(0, .iconst 0, 1, 1), (1, .istore_n 2, 1, 2), (2, .iload_n 2, 1, 3), (3, .aload_n 0, 1, 4), (4, .getfield 106, 3, 7), (7, .if_icmp .ge 48, 3, 10), (10, .iconst 0, 1, 11), (11, .istore_n 3, 1, 12), (12, .iload_n 3, 1, 13), (13, .aload_n 0, 1, 14), (14, .getfield 106, 3, 17), (17, .if_icmp .ge 32, 3, 20), (20, .aload_n 0, 1, 21), (21, .getfield 66, 3, 24), (24, .bipush 10, 2, 26), (26, .iload_n 2, 1, 27), (27, .imul, 1, 28), (28, .iload_n 3, 1, 29), (29, .iadd, 1, 30), (30, .iload_n 2, 1, 31), (31, .iload_n 3, 1, 32), (32, .if_icmp .ne 7, 3, 35), (35, .iconst 0, 1, 36), (36, .goto 6, 3, 39), (39, .ldc_w 325, 3, 42), (42, .iastore, 1, 43), (43, .iinc 3 1, 3, 46), (46, .goto (-34), 3, 49), (49, .iinc 2 1, 3, 52), (52, .goto (-50), 3, 55), (55, .iconst 0, 1, 56), (56, .istore_n 2, 1, 57), (57, .iload_n 2, 1, 58), (58, .aload_n 0, 1, 59), (59, .getfield 109, 3, 62), (62, .if_icmp .ge 110, 3, 65), (65, .aload_n 0, 1, 66), (66, .iload_n 2, 1, 67), (67, .aload_n 1, 1, 68), (68, .iload_n 2, 1, 69), (69, .iaload, 1, 70), (70, .invokevirtual 326, 3, 73), (73, .istore_n 3, 1, 74), (74, .aload_n 0, 1, 75), (75, .getfield 66, 3, 78), (78, .bipush 10, 2, 80), (80, .aload_n 0, 1, 81), (81, .getfield 23, 3, 84), (84, .iload_n 2, 1, 85), (85, .iaload, 1, 86), (86, .imul, 1, 87), (87, .aload_n 0, 1, 88), (88, .getfield 26, 3, 91), (91, .iload_n 2, 1, 92), (92, .iaload, 1, 93), (93, .iadd, 1, 94), (94, .aload_n 0, 1, 95), (95, .getfield 66, 3, 98), (98, .bipush 10, 2, 100), (100, .aload_n 0, 1, 101)]
set_option maxRecDepth 100000 in
theorem TX14_ways_0 : zchk (zMc mX14_ways) tX14_ways_0 = true := by decide +kernel
def tX14_ways_1 : List (Nat × Instr × Nat × Nat) := [(101, .getfield 23, 3, 104), (104, .iload_n 2, 1, 105), (105, .iaload, 1, 106), (106, .imul, 1, 107), (107, .aload_n 0, 1, 108), (108, .getfield 26, 3, 111), (111, .iload_n 2, 1, 112), (112, .iaload, 1, 113), (113, .iadd, 1, 114), (114, .iaload, 1, 115), (115, .iload_n 3, 1, 116), (116, .invokestatic 316, 3, 119), (119, .iastore, 1, 120), (120, .aload_n 0, 1, 121), (121, .getfield 66, 3, 124), (124, .bipush 10, 2, 126), (126, .aload_n 0, 1, 127), (127, .getfield 26, 3, 130), (130, .iload_n 2, 1, 131), (131, .iaload, 1, 132), (132, .imul, 1, 133), (133, .aload_n 0, 1, 134), (134, .getfield 23, 3, 137), (137, .iload_n 2, 1, 138), (138, .iaload, 1, 139), (139, .iadd, 1, 140), (140, .aload_n 0, 1, 141), (141, .getfield 66, 3, 144), (144, .bipush 10, 2, 146), (146, .aload_n 0, 1, 147), (147, .getfield 26, 3, 150), (150, .iload_n 2, 1, 151), (151, .iaload, 1, 152), (152, .imul, 1, 153), (153, .aload_n 0, 1, 154), (154, .getfield 23, 3, 157), (157, .iload_n 2, 1, 158), (158, .iaload, 1, 159), (159, .iadd, 1, 160), (160, .iaload, 1, 161), (161, .iload_n 3, 1, 162), (162, .invokestatic 316, 3, 165), (165, .iastore, 1, 166), (166, .iinc 2 1, 3, 169), (169, .goto (-112), 3, 172), (172, .iconst 0, 1, 173), (173, .istore_n 2, 1, 174), (174, .iload_n 2, 1, 175), (175, .aload_n 0, 1, 176), (176, .getfield 106, 3, 179), (179, .if_icmp .ge 94, 3, 182), (182, .iconst 0, 1, 183), (183, .istore_n 3, 1, 184), (184, .iload_n 3, 1, 185), (185, .aload_n 0, 1, 186), (186, .getfield 106, 3, 189), (189, .if_icmp .ge 78, 3, 192), (192, .iconst 0, 1, 193), (193, .istore 4, 2, 195), (195, .iload 4, 2, 197)]
set_option maxRecDepth 100000 in
theorem TX14_ways_1 : zchk (zMc mX14_ways) tX14_ways_1 = true := by decide +kernel
def tX14_ways_2 : List (Nat × Instr × Nat × Nat) := [(197, .aload_n 0, 1, 198), (198, .getfield 106, 3, 201), (201, .if_icmp .ge 60, 3, 204), (204, .aload_n 0, 1, 205), (205, .getfield 66, 3, 208), (208, .bipush 10, 2, 210), (210, .iload_n 3, 1, 211), (211, .imul, 1, 212), (212, .iload 4, 2, 214), (214, .iadd, 1, 215), (215, .aload_n 0, 1, 216), (216, .getfield 66, 3, 219), (219, .bipush 10, 2, 221), (221, .iload_n 3, 1, 222), (222, .imul, 1, 223), (223, .iload 4, 2, 225), (225, .iadd, 1, 226), (226, .iaload, 1, 227), (227, .aload_n 0, 1, 228), (228, .getfield 66, 3, 231), (231, .bipush 10, 2, 233), (233, .iload_n 3, 1, 234), (234, .imul, 1, 235), (235, .iload_n 2, 1, 236), (236, .iadd, 1, 237), (237, .iaload, 1, 238), (238, .aload_n 0, 1, 239), (239, .getfield 66, 3, 242), (242, .bipush 10, 2, 244), (244, .iload_n 2, 1, 245), (245, .imul, 1, 246), (246, .iload 4, 2, 248), (248, .iadd, 1, 249), (249, .iaload, 1, 250), (250, .iadd, 1, 251), (251, .invokestatic 316, 3, 254), (254, .iastore, 1, 255), (255, .iinc 4 1, 3, 258), (258, .goto (-63), 3, 261), (261, .iinc 3 1, 3, 264), (264, .goto (-80), 3, 267), (267, .iinc 2 1, 3, 270), (270, .goto (-96), 3, 273), (273, .iconst 0, 1, 274), (274, .istore_n 2, 1, 275), (275, .iload_n 2, 1, 276), (276, .aload_n 0, 1, 277), (277, .getfield 106, 3, 280), (280, .if_icmp .ge 88, 3, 283), (283, .aload_n 0, 1, 284), (284, .getfield 69, 3, 287), (287, .iload_n 2, 1, 288), (288, .iload_n 2, 1, 289), (289, .iastore, 1, 290), (290, .iconst 0, 1, 291), (291, .istore_n 3, 1, 292), (292, .iload_n 3, 1, 293), (293, .aload_n 0, 1, 294), (294, .getfield 106, 3, 297), (297, .if_icmp .ge 65, 3, 300)]
set_option maxRecDepth 100000 in
theorem TX14_ways_2 : zchk (zMc mX14_ways) tX14_ways_2 = true := by decide +kernel
def tX14_ways_3 : List (Nat × Instr × Nat × Nat) := [(300, .aload_n 0, 1, 301), (301, .getfield 60, 3, 304), (304, .iload_n 3, 1, 305), (305, .iaload, 1, 306), (306, .aload_n 0, 1, 307), (307, .getfield 66, 3, 310), (310, .bipush 10, 2, 312), (312, .iload_n 3, 1, 313), (313, .imul, 1, 314), (314, .iload_n 2, 1, 315), (315, .iadd, 1, 316), (316, .iaload, 1, 317), (317, .iadd, 1, 318), (318, .aload_n 0, 1, 319), (319, .getfield 60, 3, 322), (322, .aload_n 0, 1, 323), (323, .getfield 69, 3, 326), (326, .iload_n 2, 1, 327), (327, .iaload, 1, 328), (328, .iaload, 1, 329), (329, .aload_n 0, 1, 330), (330, .getfield 66, 3, 333), (333, .bipush 10, 2, 335), (335, .aload_n 0, 1, 336), (336, .getfield 69, 3, 339), (339, .iload_n 2, 1, 340), (340, .iaload, 1, 341), (341, .imul, 1, 342), (342, .iload_n 2, 1, 343), (343, .iadd, 1, 344), (344, .iaload, 1, 345), (345, .iadd, 1, 346), (346, .if_icmp .ge 10, 3, 349), (349, .aload_n 0, 1, 350), (350, .getfield 69, 3, 353), (353, .iload_n 2, 1, 354), (354, .iload_n 3, 1, 355), (355, .iastore, 1, 356), (356, .iinc 3 1, 3, 359), (359, .goto (-67), 3, 362), (362, .iinc 2 1, 3, 365), (365, .goto (-90), 3, 368), (368, .return_, 1, 369)]
set_option maxRecDepth 100000 in
theorem TX14_ways_3 : zchk (zMc mX14_ways) tX14_ways_3 = true := by decide +kernel
theorem kX14_ways : zOK mX14_ways := ⟨zw1368, zw72, by decide, by decide +kernel, by decide +kernel⟩
def mX14_now : zM := (yX14_now, prog_14_method_44_code, 1, none, [])
def tX14_now : List (Nat × Instr × Nat × Nat) := [(0, .aload_n 0, 1, 1), (1, .invokevirtual 329, 3, 4), (4, .aload_n 0, 1, 5), (5, .aload_n 0, 1, 6), (6, .getfield 32, 3, 9), (9, .invokevirtual 332, 3, 12), (12, .return_, 1, 13)]
set_option maxRecDepth 100000 in
theorem TX14_now : zchk (zMc mX14_now) tX14_now = true := by decide +kernel
theorem kX14_now : zOK mX14_now := ⟨zw1360, zw72, by decide, by decide +kernel, by decide +kernel⟩
def mX14_brought : zM := (yX14_brought, prog_14_method_45_code, 4, (Option.some Jvm.ClassFile.FieldType.int), [])
def tX14_brought : List (Nat × Instr × Nat × Nat) := [(0, .aload_n 0, 1, 1), (1, .iconst 0, 1, 2), (2, .putfield 100, 3, 5), (5, .aload_n 0, 1, 6), (6, .iload_n 1, 1, 7), (7, .invokevirtual 124, 3, 10), (10, .ifCond .eq 11, 3, 13), (13, .aload_n 0, 1, 14), (14, .iload_n 2, 1, 15), (15, .invokevirtual 124, 3, 18), (18, .ifCond .ne 5, 3, 21), (21, .iconst (-1), 1, 22), (22, .ireturn, 1, 23), (23, .aload_n 0, 1, 24), (24, .invokevirtual 336, 3, 27), (27, .aload_n 0, 1, 28), (28, .getfield 66, 3, 31), (31, .bipush 10, 2, 33), (33, .iload_n 1, 1, 34), (34, .imul, 1, 35), (35, .iload_n 2, 1, 36), (36, .iadd, 1, 37), (37, .iaload, 1, 38), (38, .istore_n 3, 1, 39), (39, .iload_n 3, 1, 40), (40, .ldc_w 325, 3, 43), (43, .if_icmp .lt 8, 3, 46), (46, .bipush (-2), 2, 48), (48, .goto 11, 3, 51), (51, .aload_n 0, 1, 52), (52, .getfield 60, 3, 55), (55, .iload_n 1, 1, 56), (56, .iaload, 1, 57), (57, .iload_n 3, 1, 58), (58, .iadd, 1, 59), (59, .ireturn, 1, 60)]
set_option maxRecDepth 100000 in
theorem TX14_brought : zchk (zMc mX14_brought) tX14_brought = true := by decide +kernel
theorem kX14_brought : zOK mX14_brought := ⟨zw1356, zw72, by decide, by decide +kernel, by decide +kernel⟩
def mX14_cheap : zM := (yX14_cheap, prog_14_method_46_code, 2, (Option.some Jvm.ClassFile.FieldType.int), [])
def tX14_cheap : List (Nat × Instr × Nat × Nat) := [(0, .aload_n 0, 1, 1), (1, .iconst 0, 1, 2), (2, .putfield 100, 3, 5), (5, .aload_n 0, 1, 6), (6, .iload_n 1, 1, 7), (7, .invokevirtual 124, 3, 10), (10, .ifCond .ne 5, 3, 13), (13, .iconst (-1), 1, 14), (14, .ireturn, 1, 15), (15, .aload_n 0, 1, 16), (16, .invokevirtual 336, 3, 19), (19, .aload_n 0, 1, 20), (20, .getfield 60, 3, 23), (23, .aload_n 0, 1, 24), (24, .getfield 69, 3, 27), (27, .iload_n 1, 1, 28), (28, .iaload, 1, 29), (29, .iaload, 1, 30), (30, .aload_n 0, 1, 31), (31, .getfield 66, 3, 34), (34, .bipush 10, 2, 36), (36, .aload_n 0, 1, 37), (37, .getfield 69, 3, 40), (40, .iload_n 1, 1, 41), (41, .iaload, 1, 42), (42, .imul, 1, 43), (43, .iload_n 1, 1, 44), (44, .iadd, 1, 45), (45, .iaload, 1, 46), (46, .iadd, 1, 47), (47, .ireturn, 1, 48)]
set_option maxRecDepth 100000 in
theorem TX14_cheap : zchk (zMc mX14_cheap) tX14_cheap = true := by decide +kernel
theorem kX14_cheap : zOK mX14_cheap := ⟨zw1377, zw72, by decide, by decide +kernel, by decide +kernel⟩
def mX14_source : zM := (yX14_source, prog_14_method_47_code, 2, (Option.some Jvm.ClassFile.FieldType.int), [])
def tX14_source : List (Nat × Instr × Nat × Nat) := [(0, .aload_n 0, 1, 1), (1, .iconst 0, 1, 2), (2, .putfield 100, 3, 5), (5, .aload_n 0, 1, 6), (6, .iload_n 1, 1, 7), (7, .invokevirtual 124, 3, 10), (10, .ifCond .ne 5, 3, 13), (13, .iconst (-1), 1, 14), (14, .ireturn, 1, 15), (15, .aload_n 0, 1, 16), (16, .invokevirtual 336, 3, 19), (19, .aload_n 0, 1, 20), (20, .getfield 69, 3, 23), (23, .iload_n 1, 1, 24), (24, .iaload, 1, 25), (25, .ireturn, 1, 26)]
set_option maxRecDepth 100000 in
theorem TX14_source : zchk (zMc mX14_source) tX14_source = true := by decide +kernel
theorem kX14_source : zOK mX14_source := ⟨zw1381, zw72, by decide, by decide +kernel, by decide +kernel⟩
def mX14_restOf : zM := (yX14_restOf, prog_14_method_48_code, 2, (Option.some Jvm.ClassFile.FieldType.long), [])
def tX14_restOf : List (Nat × Instr × Nat × Nat) := [(0, .aload_n 0, 1, 1), (1, .getfield 16, 3, 4), (4, .iload_n 1, 1, 5), (5, .iaload, 1, 6), (6, .i2l, 1, 7), (7, .aload_n 0, 1, 8), (8, .getfield 20, 3, 11), (11, .iload_n 1, 1, 12), (12, .iaload, 1, 13), (13, .aload_n 0, 1, 14), (14, .getfield 63, 3, 17), (17, .iload_n 1, 1, 18), (18, .iaload, 1, 19), (19, .isub, 1, 20), (20, .i2l, 1, 21), (21, .lmul, 1, 22), (22, .lreturn, 1, 23)]
set_option maxRecDepth 100000 in
theorem TX14_restOf : zchk (zMc mX14_restOf) tX14_restOf = true := by decide +kernel
theorem kX14_restOf : zOK mX14_restOf := ⟨zw1394, zw72, by decide, by decide +kernel, by decide +kernel⟩
def mX14_takenOf : zM := (yX14_takenOf, prog_14_method_49_code, 5, (Option.some Jvm.ClassFile.FieldType.long), [])
def tX14_takenOf : List (Nat × Instr × Nat × Nat) := [(0, .aload_n 0, 1, 1), (1, .getfield 16, 3, 4), (4, .iload_n 1, 1, 5), (5, .iaload, 1, 6), (6, .i2l, 1, 7), (7, .aload_n 0, 1, 8), (8, .getfield 63, 3, 11), (11, .iload_n 1, 1, 12), (12, .iaload, 1, 13), (13, .i2l, 1, 14), (14, .lmul, 1, 15), (15, .aload_n 0, 1, 16), (16, .getfield 60, 3, 19), (19, .iload_n 1, 1, 20), (20, .iaload, 1, 21), (21, .i2l, 1, 22), (22, .lmul, 1, 23), (23, .lstore_n 2, 1, 24), (24, .iconst 0, 1, 25), (25, .istore 4, 2, 27), (27, .iload 4, 2, 29), (29, .aload_n 0, 1, 30), (30, .getfield 106, 3, 33), (33, .if_icmp .ge 41, 3, 36), (36, .lload_n 2, 1, 37), (37, .aload_n 0, 1, 38), (38, .getfield 69, 3, 41), (41, .iload 4, 2, 43), (43, .iaload, 1, 44), (44, .iload_n 1, 1, 45), (45, .if_icmp .ne 20, 3, 48), (48, .aload_n 0, 1, 49), (49, .iload 4, 2, 51), (51, .invokevirtual 339, 3, 54), (54, .aload_n 0, 1, 55), (55, .getfield 60, 3, 58), (58, .iload_n 1, 1, 59), (59, .iaload, 1, 60), (60, .i2l, 1, 61), (61, .lmul, 1, 62), (62, .goto 4, 3, 65), (65, .lconst 0, 1, 66), (66, .ladd, 1, 67), (67, .lstore_n 2, 1, 68), (68, .iinc 4 1, 3, 71), (71, .goto (-44), 3, 74), (74, .lload_n 2, 1, 75), (75, .lreturn, 1, 76)]
set_option maxRecDepth 100000 in
theorem TX14_takenOf : zchk (zMc mX14_takenOf) tX14_takenOf = true := by decide +kernel
theorem kX14_takenOf : zOK mX14_takenOf := ⟨zw1390, zw72, by decide, by decide +kernel, by decide +kernel⟩
def mX14_crownOf : zM := (yX14_crownOf, prog_14_method_50_code, 4, (Option.some Jvm.ClassFile.FieldType.long), [])
def tX14_crownOf : List (Nat × Instr × Nat × Nat) := [(0, .lconst 0, 1, 1), (1, .lstore_n 1, 1, 2), (2, .iconst 0, 1, 3), (3, .istore_n 3, 1, 4), (4, .iload_n 3, 1, 5), (5, .aload_n 0, 1, 6), (6, .getfield 106, 3, 9), (9, .if_icmp .ge 17, 3, 12), (12, .lload_n 1, 1, 13), (13, .aload_n 0, 1, 14), (14, .iload_n 3, 1, 15), (15, .invokevirtual 343, 3, 18), (18, .ladd, 1, 19), (19, .lstore_n 1, 1, 20), (20, .iinc 3 1, 3, 23), (23, .goto (-19), 3, 26), (26, .lload_n 1, 1, 27), (27, .lreturn, 1, 28)]
set_option maxRecDepth 100000 in
theorem TX14_crownOf : zchk (zMc mX14_crownOf) tX14_crownOf = true := by decide +kernel
theorem kX14_crownOf : zOK mX14_crownOf := ⟨zw1402, zw72, by decide, by decide +kernel, by decide +kernel⟩
def mX14_taken : zM := (yX14_taken, prog_14_method_51_code, 2, (Option.some Jvm.ClassFile.FieldType.long), [])
def tX14_taken : List (Nat × Instr × Nat × Nat) := [(0, .aload_n 0, 1, 1), (1, .iconst 0, 1, 2), (2, .putfield 100, 3, 5), (5, .aload_n 0, 1, 6), (6, .iload_n 1, 1, 7), (7, .invokevirtual 124, 3, 10), (10, .ifCond .ne 7, 3, 13), (13, .ldc2_w 346, 3, 16), (16, .lreturn, 1, 17), (17, .aload_n 0, 1, 18), (18, .invokevirtual 336, 3, 21), (21, .aload_n 0, 1, 22), (22, .iload_n 1, 1, 23), (23, .invokevirtual 343, 3, 26), (26, .lreturn, 1, 27)]
set_option maxRecDepth 100000 in
theorem TX14_taken : zchk (zMc mX14_taken) tX14_taken = true := by decide +kernel
theorem kX14_taken : zOK mX14_taken := ⟨zw1385, zw72, by decide, by decide +kernel, by decide +kernel⟩
def mX14_crown : zM := (yX14_crown, prog_14_method_52_code, 1, (Option.some Jvm.ClassFile.FieldType.long), [])
def tX14_crown : List (Nat × Instr × Nat × Nat) := [(0, .aload_n 0, 1, 1), (1, .iconst 0, 1, 2), (2, .putfield 100, 3, 5), (5, .aload_n 0, 1, 6), (6, .invokevirtual 336, 3, 9), (9, .aload_n 0, 1, 10), (10, .invokevirtual 348, 3, 13), (13, .lreturn, 1, 14)]
set_option maxRecDepth 100000 in
theorem TX14_crown : zchk (zMc mX14_crown) tX14_crown = true := by decide +kernel
theorem kX14_crown : zOK mX14_crown := ⟨zw1398, zw72, by decide, by decide +kernel, by decide +kernel⟩
def mX14_lost : zM := (yX14_lost, prog_14_method_53_code, 4, (Option.some Jvm.ClassFile.FieldType.long), [])
def tX14_lost : List (Nat × Instr × Nat × Nat) := [(0, .aload_n 0, 1, 1), (1, .iconst 0, 1, 2), (2, .putfield 100, 3, 5), (5, .aload_n 0, 1, 6), (6, .invokevirtual 336, 3, 9), (9, .lconst 0, 1, 10), (10, .lstore_n 1, 1, 11), (11, .iconst 0, 1, 12), (12, .istore_n 3, 1, 13), (13, .iload_n 3, 1, 14), (14, .aload_n 0, 1, 15), (15, .getfield 106, 3, 18), (18, .if_icmp .ge 37, 3, 21), (21, .lload_n 1, 1, 22), (22, .aload_n 0, 1, 23), (23, .iload_n 3, 1, 24), (24, .invokevirtual 339, 3, 27), (27, .aload_n 0, 1, 28), (28, .getfield 60, 3, 31), (31, .iload_n 3, 1, 32), (32, .iaload, 1, 33), (33, .aload_n 0, 1, 34), (34, .getfield 60, 3, 37), (37, .aload_n 0, 1, 38), (38, .getfield 69, 3, 41), (41, .iload_n 3, 1, 42), (42, .iaload, 1, 43), (43, .iaload, 1, 44), (44, .isub, 1, 45), (45, .i2l, 1, 46), (46, .lmul, 1, 47), (47, .ladd, 1, 48), (48, .lstore_n 1, 1, 49), (49, .iinc 3 1, 3, 52), (52, .goto (-39), 3, 55), (55, .lload_n 1, 1, 56), (56, .lreturn, 1, 57)]
set_option maxRecDepth 100000 in
theorem TX14_lost : zchk (zMc mX14_lost) tX14_lost = true := by decide +kernel
theorem kX14_lost : zOK mX14_lost := ⟨zw1406, zw72, by decide, by decide +kernel, by decide +kernel⟩
def mX14_walks : zM := (yX14_walks, prog_14_method_54_code, 6, none, [])
def tX14_walks_0 : List (Nat × Instr × Nat × Nat) := [(0, .aload_n 0, 1, 1), (1, .iconst 0, 1, 2), (2, .putfield 352, 3, 5), (5, .aload_n 0, 1, 6), (6, .getfield 69, 3, 9), (9, .iload_n 1, 1, 10), (10, .iaload, 1, 11), (11, .istore_n 2, 1, 12), (12, .iload_n 2, 1, 13), (13, .iload_n 1, 1, 14), (14, .if_icmp .eq 137, 3, 17), (17, .iconst 0, 1, 18), (18, .istore_n 3, 1, 19), (19, .iconst (-1), 1, 20), (20, .istore 4, 2, 22), (22, .iload 4, 2, 24), (24, .iconst (-1), 1, 25), (25, .if_icmp .ne 98, 3, 28), (28, .aload_n 0, 1, 29), (29, .getfield 23, 3, 32), (32, .iload_n 3, 1, 33), (33, .iaload, 1, 34), (34, .iload_n 2, 1, 35), (35, .if_icmp .ne 12, 3, 38), (38, .aload_n 0, 1, 39), (39, .getfield 26, 3, 42), (42, .iload_n 3, 1, 43), (43, .iaload, 1, 44), (44, .goto 23, 3, 47), (47, .aload_n 0, 1, 48), (48, .getfield 26, 3, 51), (51, .iload_n 3, 1, 52), (52, .iaload, 1, 53), (53, .iload_n 2, 1, 54), (54, .if_icmp .ne 12, 3, 57), (57, .aload_n 0, 1, 58), (58, .getfield 23, 3, 61), (61, .iload_n 3, 1, 62), (62, .iaload, 1, 63), (63, .goto 4, 3, 66), (66, .iconst (-1), 1, 67), (67, .istore 5, 2, 69), (69, .iload 5, 2, 71), (71, .iconst (-1), 1, 72), (72, .if_icmp .eq 45, 3, 75), (75, .aload_n 0, 1, 76), (76, .iload_n 3, 1, 77), (77, .aload_n 0, 1, 78), (78, .getfield 32, 3, 81), (81, .iload_n 3, 1, 82), (82, .iaload, 1, 83), (83, .invokevirtual 326, 3, 86), (86, .aload_n 0, 1, 87), (87, .getfield 66, 3, 90), (90, .bipush 10, 2, 92), (92, .iload 5, 2, 94), (94, .imul, 1, 95), (95, .iload_n 1, 1, 96), (96, .iadd, 1, 97), (97, .iaload, 1, 98)]
set_option maxRecDepth 100000 in
theorem TX14_walks_0 : zchk (zMc mX14_walks) tX14_walks_0 = true := by decide +kernel
def tX14_walks_1 : List (Nat × Instr × Nat × Nat) := [(98, .iadd, 1, 99), (99, .aload_n 0, 1, 100), (100, .getfield 66, 3, 103), (103, .bipush 10, 2, 105), (105, .iload_n 2, 1, 106), (106, .imul, 1, 107), (107, .iload_n 1, 1, 108), (108, .iadd, 1, 109), (109, .iaload, 1, 110), (110, .if_icmp .ne 7, 3, 113), (113, .iload 5, 2, 115), (115, .istore 4, 2, 117), (117, .iinc 3 1, 3, 120), (120, .goto (-98), 3, 123), (123, .aload_n 0, 1, 124), (124, .getfield 72, 3, 127), (127, .aload_n 0, 1, 128), (128, .getfield 352, 3, 131), (131, .iload_n 3, 1, 132), (132, .iconst 1, 1, 133), (133, .isub, 1, 134), (134, .iastore, 1, 135), (135, .aload_n 0, 1, 136), (136, .dup, 1, 137), (137, .getfield 352, 3, 140), (140, .iconst 1, 1, 141), (141, .iadd, 1, 142), (142, .putfield 352, 3, 145), (145, .iload 4, 2, 147), (147, .istore_n 2, 1, 148), (148, .goto (-136), 3, 151), (151, .return_, 1, 152)]
set_option maxRecDepth 100000 in
theorem TX14_walks_1 : zchk (zMc mX14_walks) tX14_walks_1 = true := by decide +kernel
theorem kX14_walks : zOK mX14_walks := ⟨zw1414, zw72, by decide, by decide +kernel, by decide +kernel⟩
def mX14_carried : zM := (yX14_carried, prog_14_method_55_code, 6, (Option.some Jvm.ClassFile.FieldType.long), [])
def tX14_carried : List (Nat × Instr × Nat × Nat) := [(0, .aload_n 0, 1, 1), (1, .iconst 0, 1, 2), (2, .putfield 100, 3, 5), (5, .aload_n 0, 1, 6), (6, .iload_n 1, 1, 7), (7, .invokevirtual 135, 3, 10), (10, .ifCond .ne 7, 3, 13), (13, .ldc2_w 346, 3, 16), (16, .lreturn, 1, 17), (17, .aload_n 0, 1, 18), (18, .invokevirtual 336, 3, 21), (21, .lconst 0, 1, 22), (22, .lstore_n 2, 1, 23), (23, .iconst 0, 1, 24), (24, .istore 4, 2, 26), (26, .iload 4, 2, 28), (28, .aload_n 0, 1, 29), (29, .getfield 106, 3, 32), (32, .if_icmp .ge 57, 3, 35), (35, .aload_n 0, 1, 36), (36, .iload 4, 2, 38), (38, .invokevirtual 355, 3, 41), (41, .iconst 0, 1, 42), (42, .istore 5, 2, 44), (44, .iload 5, 2, 46), (46, .aload_n 0, 1, 47), (47, .getfield 352, 3, 50), (50, .if_icmp .ge 33, 3, 53), (53, .lload_n 2, 1, 54), (54, .aload_n 0, 1, 55), (55, .getfield 72, 3, 58), (58, .iload 5, 2, 60), (60, .iaload, 1, 61), (61, .iload_n 1, 1, 62), (62, .if_icmp .ne 12, 3, 65), (65, .aload_n 0, 1, 66), (66, .iload 4, 2, 68), (68, .invokevirtual 339, 3, 71), (71, .goto 4, 3, 74), (74, .lconst 0, 1, 75), (75, .ladd, 1, 76), (76, .lstore_n 2, 1, 77), (77, .iinc 5 1, 3, 80), (80, .goto (-36), 3, 83), (83, .iinc 4 1, 3, 86), (86, .goto (-60), 3, 89), (89, .lload_n 2, 1, 90), (90, .lreturn, 1, 91)]
set_option maxRecDepth 100000 in
theorem TX14_carried : zchk (zMc mX14_carried) tX14_carried = true := by decide +kernel
theorem kX14_carried : zOK mX14_carried := ⟨zw1410, zw72, by decide, by decide +kernel, by decide +kernel⟩
def mX14_way : zM := (yX14_way, prog_14_method_56_code, 2, (Option.some Jvm.ClassFile.FieldType.int), [])
def tX14_way : List (Nat × Instr × Nat × Nat) := [(0, .aload_n 0, 1, 1), (1, .iconst 0, 1, 2), (2, .putfield 100, 3, 5), (5, .aload_n 0, 1, 6), (6, .iload_n 1, 1, 7), (7, .invokevirtual 124, 3, 10), (10, .ifCond .ne 5, 3, 13), (13, .iconst (-1), 1, 14), (14, .ireturn, 1, 15), (15, .aload_n 0, 1, 16), (16, .invokevirtual 336, 3, 19), (19, .aload_n 0, 1, 20), (20, .iload_n 1, 1, 21), (21, .invokevirtual 355, 3, 24), (24, .aload_n 0, 1, 25), (25, .getfield 352, 3, 28), (28, .ireturn, 1, 29)]
set_option maxRecDepth 100000 in
theorem TX14_way : zchk (zMc mX14_way) tX14_way = true := by decide +kernel
theorem kX14_way : zOK mX14_way := ⟨zw1418, zw72, by decide, by decide +kernel, by decide +kernel⟩
def mX14_wayAt : zM := (yX14_wayAt, prog_14_method_57_code, 3, (Option.some Jvm.ClassFile.FieldType.int), [])
def tX14_wayAt : List (Nat × Instr × Nat × Nat) := [(0, .aload_n 0, 1, 1), (1, .iconst 0, 1, 2), (2, .putfield 100, 3, 5), (5, .aload_n 0, 1, 6), (6, .iload_n 1, 1, 7), (7, .invokevirtual 124, 3, 10), (10, .ifCond .ne 5, 3, 13), (13, .iconst (-1), 1, 14), (14, .ireturn, 1, 15), (15, .aload_n 0, 1, 16), (16, .invokevirtual 336, 3, 19), (19, .aload_n 0, 1, 20), (20, .iload_n 1, 1, 21), (21, .invokevirtual 355, 3, 24), (24, .iload_n 2, 1, 25), (25, .ifCond .lt 20, 3, 28), (28, .iload_n 2, 1, 29), (29, .aload_n 0, 1, 30), (30, .getfield 352, 3, 33), (33, .if_icmp .ge 12, 3, 36), (36, .aload_n 0, 1, 37), (37, .getfield 72, 3, 40), (40, .iload_n 2, 1, 41), (41, .iaload, 1, 42), (42, .goto 4, 3, 45), (45, .iconst (-1), 1, 46), (46, .ireturn, 1, 47)]
set_option maxRecDepth 100000 in
theorem TX14_wayAt : zchk (zMc mX14_wayAt) tX14_wayAt = true := by decide +kernel
theorem kX14_wayAt : zOK mX14_wayAt := ⟨zw1422, zw72, by decide, by decide +kernel, by decide +kernel⟩
def mX14_tries : zM := (yX14_tries, prog_14_method_58_code, 6, none, [])
def tX14_tries_0 : List (Nat × Instr × Nat × Nat) := [(0, .iload_n 1, 1, 1), (1, .aload_n 0, 1, 2), (2, .getfield 109, 3, 5), (5, .if_icmp .ne 76, 3, 8), (8, .iload_n 2, 1, 9), (9, .ifCond .le 11, 3, 12), (12, .aload_n 0, 1, 13), (13, .getfield 109, 3, 16), (16, .ifCond .le 4, 3, 19), (19, .return_, 1, 20), (20, .aload_n 0, 1, 21), (21, .aload_n 0, 1, 22), (22, .getfield 75, 3, 25), (25, .invokevirtual 332, 3, 28), (28, .aload_n 0, 1, 29), (29, .invokevirtual 348, 3, 32), (32, .lstore_n 3, 1, 33), (33, .lload_n 3, 1, 34), (34, .aload_n 0, 1, 35), (35, .getfield 358, 3, 38), (38, .lcmp, 1, 39), (39, .ifCond .gt 4, 3, 42), (42, .return_, 1, 43), (43, .aload_n 0, 1, 44), (44, .lload_n 3, 1, 45), (45, .putfield 358, 3, 48), (48, .iconst 0, 1, 49), (49, .istore 5, 2, 51), (51, .iload 5, 2, 53), (53, .aload_n 0, 1, 54), (54, .getfield 109, 3, 57), (57, .if_icmp .ge 23, 3, 60), (60, .aload_n 0, 1, 61), (61, .getfield 78, 3, 64), (64, .iload 5, 2, 66), (66, .aload_n 0, 1, 67), (67, .getfield 75, 3, 70), (70, .iload 5, 2, 72), (72, .iaload, 1, 73), (73, .iastore, 1, 74), (74, .iinc 5 1, 3, 77), (77, .goto (-26), 3, 80), (80, .return_, 1, 81), (81, .iload_n 2, 1, 82), (82, .istore_n 3, 1, 83), (83, .iload_n 3, 1, 84), (84, .ifCond .lt 26, 3, 87), (87, .aload_n 0, 1, 88), (88, .getfield 75, 3, 91), (91, .iload_n 1, 1, 92), (92, .iload_n 3, 1, 93), (93, .iastore, 1, 94), (94, .aload_n 0, 1, 95), (95, .iload_n 1, 1, 96), (96, .iconst 1, 1, 97), (97, .iadd, 1, 98), (98, .iload_n 2, 1, 99), (99, .iload_n 3, 1, 100), (100, .isub, 1, 101), (101, .invokevirtual 361, 3, 104)]
set_option maxRecDepth 100000 in
theorem TX14_tries_0 : zchk (zMc mX14_tries) tX14_tries_0 = true := by decide +kernel
def tX14_tries_1 : List (Nat × Instr × Nat × Nat) := [(104, .iinc 3 (-1), 3, 107), (107, .goto (-24), 3, 110), (110, .return_, 1, 111)]
set_option maxRecDepth 100000 in
theorem TX14_tries_1 : zchk (zMc mX14_tries) tX14_tries_1 = true := by decide +kernel
theorem kX14_tries : zOK mX14_tries := ⟨zw1430, zw72, by decide, by decide +kernel, by decide +kernel⟩
def mX14_best : zM := (yX14_best, prog_14_method_59_code, 2, (Option.some Jvm.ClassFile.FieldType.long), [])
def tX14_best : List (Nat × Instr × Nat × Nat) := [(0, .aload_n 0, 1, 1), (1, .iconst 0, 1, 2), (2, .putfield 100, 3, 5), (5, .iload_n 1, 1, 6), (6, .iconst 0, 1, 7), (7, .iconst 3, 1, 8), (8, .invokestatic 113, 3, 11), (11, .ifCond .ne 10, 3, 14), (14, .aload_n 0, 1, 15), (15, .iconst 2, 1, 16), (16, .invokevirtual 117, 3, 19), (19, .i2l, 1, 20), (20, .lreturn, 1, 21), (21, .aload_n 0, 1, 22), (22, .invokevirtual 329, 3, 25), (25, .aload_n 0, 1, 26), (26, .ldc2_w 346, 3, 29), (29, .putfield 358, 3, 32), (32, .aload_n 0, 1, 33), (33, .iconst 0, 1, 34), (34, .iload_n 1, 1, 35), (35, .invokevirtual 361, 3, 38), (38, .aload_n 0, 1, 39), (39, .aload_n 0, 1, 40), (40, .getfield 109, 3, 43), (43, .putfield 364, 3, 46), (46, .aload_n 0, 1, 47), (47, .iconst 0, 1, 48), (48, .putfield 103, 3, 51), (51, .aload_n 0, 1, 52), (52, .iconst (-1), 1, 53), (53, .putfield 9, 3, 56), (56, .aload_n 0, 1, 57), (57, .getfield 358, 3, 60), (60, .lreturn, 1, 61)]
set_option maxRecDepth 100000 in
theorem TX14_best : zchk (zMc mX14_best) tX14_best = true := by decide +kernel
theorem kX14_best : zOK mX14_best := ⟨zw1426, zw72, by decide, by decide +kernel, by decide +kernel⟩
def mX14_stand : zM := (yX14_stand, prog_14_method_60_code, 2, (Option.some Jvm.ClassFile.FieldType.int), [])
def tX14_stand : List (Nat × Instr × Nat × Nat) := [(0, .aload_n 0, 1, 1), (1, .iconst 0, 1, 2), (2, .putfield 100, 3, 5), (5, .iload_n 1, 1, 6), (6, .ifCond .lt 20, 3, 9), (9, .iload_n 1, 1, 10), (10, .aload_n 0, 1, 11), (11, .getfield 364, 3, 14), (14, .if_icmp .ge 12, 3, 17), (17, .aload_n 0, 1, 18), (18, .getfield 78, 3, 21), (21, .iload_n 1, 1, 22), (22, .iaload, 1, 23), (23, .goto 4, 3, 26), (26, .iconst (-1), 1, 27), (27, .ireturn, 1, 28)]
set_option maxRecDepth 100000 in
theorem TX14_stand : zchk (zMc mX14_stand) tX14_stand = true := by decide +kernel
theorem kX14_stand : zOK mX14_stand := ⟨zw1434, zw72, by decide, by decide +kernel, by decide +kernel⟩
def mX14_isStore : zM := (yX14_isStore, prog_14_method_61_code, 2, (Option.some Jvm.ClassFile.FieldType.boolean), [])
def tX14_isStore : List (Nat × Instr × Nat × Nat) := [(0, .iload_n 1, 1, 1), (1, .ifCond .lt 15, 3, 4), (4, .iload_n 1, 1, 5), (5, .aload_n 0, 1, 6), (6, .getfield 367, 3, 9), (9, .if_icmp .ge 7, 3, 12), (12, .iconst 1, 1, 13), (13, .goto 4, 3, 16), (16, .iconst 0, 1, 17), (17, .ireturn, 1, 18)]
set_option maxRecDepth 100000 in
theorem TX14_isStore : zchk (zMc mX14_isStore) tX14_isStore = true := by decide +kernel
theorem kX14_isStore : zOK mX14_isStore := ⟨zw1455, zw72, by decide, by decide +kernel, by decide +kernel⟩
def mX14_missingNow : zM := (yX14_missingNow, prog_14_method_62_code, 2, (Option.some Jvm.ClassFile.FieldType.int), [])
def tX14_missingNow : List (Nat × Instr × Nat × Nat) := [(0, .aload_n 0, 1, 1), (1, .getfield 81, 3, 4), (4, .iload_n 1, 1, 5), (5, .iaload, 1, 6), (6, .aload_n 0, 1, 7), (7, .getfield 84, 3, 10), (10, .iload_n 1, 1, 11), (11, .iaload, 1, 12), (12, .iadd, 1, 13), (13, .aload_n 0, 1, 14), (14, .getfield 87, 3, 17), (17, .iload_n 1, 1, 18), (18, .iaload, 1, 19), (19, .isub, 1, 20), (20, .aload_n 0, 1, 21), (21, .getfield 90, 3, 24), (24, .iload_n 1, 1, 25), (25, .iaload, 1, 26), (26, .isub, 1, 27), (27, .ireturn, 1, 28)]
set_option maxRecDepth 100000 in
theorem TX14_missingNow : zchk (zMc mX14_missingNow) tX14_missingNow = true := by decide +kernel
theorem kX14_missingNow : zOK mX14_missingNow := ⟨zw1442, zw72, by decide, by decide +kernel, by decide +kernel⟩
def mX14_pass : zM := (yX14_pass, prog_14_method_63_code, 3, (Option.some Jvm.ClassFile.FieldType.int), [])
def tX14_pass_0 : List (Nat × Instr × Nat × Nat) := [(0, .aload_n 0, 1, 1), (1, .iconst 0, 1, 2), (2, .putfield 100, 3, 5), (5, .iconst 1, 1, 6), (6, .istore_n 1, 1, 7), (7, .iconst 0, 1, 8), (8, .istore_n 2, 1, 9), (9, .iload_n 2, 1, 10), (10, .aload_n 0, 1, 11), (11, .getfield 367, 3, 14), (14, .if_icmp .ge 29, 3, 17), (17, .iload_n 1, 1, 18), (18, .ifCond .eq 17, 3, 21), (21, .aload_n 0, 1, 22), (22, .getfield 90, 3, 25), (25, .iload_n 2, 1, 26), (26, .iaload, 1, 27), (27, .iconst (-1), 1, 28), (28, .if_icmp .eq 7, 3, 31), (31, .iconst 1, 1, 32), (32, .goto 4, 3, 35), (35, .iconst 0, 1, 36), (36, .istore_n 1, 1, 37), (37, .iinc 2 1, 3, 40), (40, .goto (-31), 3, 43), (43, .iload_n 1, 1, 44), (44, .ifCond .ne 9, 3, 47), (47, .aload_n 0, 1, 48), (48, .iconst 5, 1, 49), (49, .invokevirtual 117, 3, 52), (52, .ireturn, 1, 53), (53, .aload_n 0, 1, 54), (54, .getfield 324, 3, 57), (57, .bipush 99, 2, 59), (59, .if_icmp .ne 9, 3, 62), (62, .aload_n 0, 1, 63), (63, .iconst 2, 1, 64), (64, .invokevirtual 117, 3, 67), (67, .ireturn, 1, 68), (68, .iconst 0, 1, 69), (69, .istore_n 2, 1, 70), (70, .iload_n 2, 1, 71), (71, .aload_n 0, 1, 72), (72, .getfield 367, 3, 75), (75, .if_icmp .ge 57, 3, 78), (78, .aload_n 0, 1, 79), (79, .getfield 96, 3, 82), (82, .iload_n 2, 1, 83), (83, .dup2, 1, 84), (84, .laload, 1, 85), (85, .aload_n 0, 1, 86), (86, .iload_n 2, 1, 87), (87, .invokevirtual 370, 3, 90), (90, .i2l, 1, 91), (91, .ladd, 1, 92), (92, .lastore, 1, 93), (93, .aload_n 0, 1, 94), (94, .getfield 81, 3, 97), (97, .iload_n 2, 1, 98), (98, .aload_n 0, 1, 99)]
set_option maxRecDepth 100000 in
theorem TX14_pass_0 : zchk (zMc mX14_pass) tX14_pass_0 = true := by decide +kernel
def tX14_pass_1 : List (Nat × Instr × Nat × Nat) := [(99, .getfield 90, 3, 102), (102, .iload_n 2, 1, 103), (103, .iaload, 1, 104), (104, .iastore, 1, 105), (105, .aload_n 0, 1, 106), (106, .getfield 84, 3, 109), (109, .iload_n 2, 1, 110), (110, .iconst 0, 1, 111), (111, .iastore, 1, 112), (112, .aload_n 0, 1, 113), (113, .getfield 87, 3, 116), (116, .iload_n 2, 1, 117), (117, .iconst 0, 1, 118), (118, .iastore, 1, 119), (119, .aload_n 0, 1, 120), (120, .getfield 90, 3, 123), (123, .iload_n 2, 1, 124), (124, .iconst (-1), 1, 125), (125, .iastore, 1, 126), (126, .iinc 2 1, 3, 129), (129, .goto (-59), 3, 132), (132, .aload_n 0, 1, 133), (133, .dup, 1, 134), (134, .getfield 324, 3, 137), (137, .iconst 1, 1, 138), (138, .iadd, 1, 139), (139, .putfield 324, 3, 142), (142, .aload_n 0, 1, 143), (143, .aload_n 0, 1, 144), (144, .getfield 324, 3, 147), (147, .invokevirtual 121, 3, 150), (150, .ireturn, 1, 151)]
set_option maxRecDepth 100000 in
theorem TX14_pass_1 : zchk (zMc mX14_pass) tX14_pass_1 = true := by decide +kernel
theorem kX14_pass : zOK mX14_pass := ⟨zw1438, zw72, by decide, by decide +kernel, by decide +kernel⟩
def mX14_store : zM := (yX14_store, prog_14_method_64_code, 3, (Option.some Jvm.ClassFile.FieldType.int), [])
def tX14_store : List (Nat × Instr × Nat × Nat) := [(0, .aload_n 0, 1, 1), (1, .iconst 0, 1, 2), (2, .putfield 100, 3, 5), (5, .aload_n 0, 1, 6), (6, .iload_n 1, 1, 7), (7, .invokevirtual 124, 3, 10), (10, .ifCond .ne 9, 3, 13), (13, .aload_n 0, 1, 14), (14, .iconst 1, 1, 15), (15, .invokevirtual 117, 3, 18), (18, .ireturn, 1, 19), (19, .iload_n 2, 1, 20), (20, .iconst 0, 1, 21), (21, .ldc_w 373, 3, 24), (24, .invokestatic 113, 3, 27), (27, .ifCond .ne 9, 3, 30), (30, .aload_n 0, 1, 31), (31, .iconst 2, 1, 32), (32, .invokevirtual 117, 3, 35), (35, .ireturn, 1, 36), (36, .aload_n 0, 1, 37), (37, .getfield 367, 3, 40), (40, .bipush 8, 2, 42), (42, .if_icmp .ne 9, 3, 45), (45, .aload_n 0, 1, 46), (46, .iconst 3, 1, 47), (47, .invokevirtual 117, 3, 50), (50, .ireturn, 1, 51), (51, .aload_n 0, 1, 52), (52, .getfield 93, 3, 55), (55, .aload_n 0, 1, 56), (56, .getfield 367, 3, 59), (59, .iload_n 1, 1, 60), (60, .iastore, 1, 61), (61, .aload_n 0, 1, 62), (62, .getfield 81, 3, 65), (65, .aload_n 0, 1, 66), (66, .getfield 367, 3, 69), (69, .iload_n 2, 1, 70), (70, .iastore, 1, 71), (71, .aload_n 0, 1, 72), (72, .getfield 90, 3, 75), (75, .aload_n 0, 1, 76), (76, .getfield 367, 3, 79), (79, .iconst (-1), 1, 80), (80, .iastore, 1, 81), (81, .aload_n 0, 1, 82), (82, .dup, 1, 83), (83, .getfield 367, 3, 86), (86, .iconst 1, 1, 87), (87, .iadd, 1, 88), (88, .putfield 367, 3, 91), (91, .aload_n 0, 1, 92), (92, .aload_n 0, 1, 93), (93, .getfield 367, 3, 96), (96, .iconst 1, 1, 97), (97, .isub, 1, 98), (98, .invokevirtual 121, 3, 101), (101, .ireturn, 1, 102)]
set_option maxRecDepth 100000 in
theorem TX14_store : zchk (zMc mX14_store) tX14_store = true := by decide +kernel
theorem kX14_store : zOK mX14_store := ⟨zw1446, zw72, by decide, by decide +kernel, by decide +kernel⟩
def mX14_moves : zM := (yX14_moves, prog_14_method_65_code, 5, (Option.some Jvm.ClassFile.FieldType.int), [])
def tX14_moves_0 : List (Nat × Instr × Nat × Nat) := [(0, .aload_n 0, 1, 1), (1, .iconst 0, 1, 2), (2, .putfield 100, 3, 5), (5, .aload_n 0, 1, 6), (6, .iload_n 1, 1, 7), (7, .invokevirtual 374, 3, 10), (10, .ifCond .ne 9, 3, 13), (13, .aload_n 0, 1, 14), (14, .iconst 1, 1, 15), (15, .invokevirtual 117, 3, 18), (18, .ireturn, 1, 19), (19, .iload_n 3, 1, 20), (20, .ifCond .eq 12, 3, 23), (23, .aload_n 0, 1, 24), (24, .getfield 87, 3, 27), (27, .iload_n 1, 1, 28), (28, .iaload, 1, 29), (29, .goto 9, 3, 32), (32, .aload_n 0, 1, 33), (33, .getfield 84, 3, 36), (36, .iload_n 1, 1, 37), (37, .iaload, 1, 38), (38, .istore 4, 2, 40), (40, .iload_n 2, 1, 41), (41, .iconst 1, 1, 42), (42, .ldc_w 373, 3, 45), (45, .invokestatic 113, 3, 48), (48, .ifCond .eq 13, 3, 51), (51, .iload 4, 2, 53), (53, .iload_n 2, 1, 54), (54, .iadd, 1, 55), (55, .ldc_w 377, 3, 58), (58, .if_icmp .le 9, 3, 61), (61, .aload_n 0, 1, 62), (62, .iconst 2, 1, 63), (63, .invokevirtual 117, 3, 66), (66, .ireturn, 1, 67), (67, .iload_n 3, 1, 68), (68, .ifCond .eq 16, 3, 71), (71, .aload_n 0, 1, 72), (72, .getfield 87, 3, 75), (75, .iload_n 1, 1, 76), (76, .dup2, 1, 77), (77, .iaload, 1, 78), (78, .iload_n 2, 1, 79), (79, .iadd, 1, 80), (80, .iastore, 1, 81), (81, .goto 13, 3, 84), (84, .aload_n 0, 1, 85), (85, .getfield 84, 3, 88), (88, .iload_n 1, 1, 89), (89, .dup2, 1, 90), (90, .iaload, 1, 91), (91, .iload_n 2, 1, 92), (92, .iadd, 1, 93), (93, .iastore, 1, 94), (94, .aload_n 0, 1, 95), (95, .iload 4, 2, 97), (97, .iload_n 2, 1, 98), (98, .iadd, 1, 99)]
set_option maxRecDepth 100000 in
theorem TX14_moves_0 : zchk (zMc mX14_moves) tX14_moves_0 = true := by decide +kernel
def tX14_moves_1 : List (Nat × Instr × Nat × Nat) := [(99, .invokevirtual 121, 3, 102), (102, .ireturn, 1, 103)]
set_option maxRecDepth 100000 in
theorem TX14_moves_1 : zchk (zMc mX14_moves) tX14_moves_1 = true := by decide +kernel
theorem kX14_moves : zOK mX14_moves := ⟨zw1451, zw72, by decide, by decide +kernel, by decide +kernel⟩
def mX14_counted : zM := (yX14_counted, prog_14_method_66_code, 3, (Option.some Jvm.ClassFile.FieldType.int), [])
def tX14_counted : List (Nat × Instr × Nat × Nat) := [(0, .aload_n 0, 1, 1), (1, .iconst 0, 1, 2), (2, .putfield 100, 3, 5), (5, .aload_n 0, 1, 6), (6, .iload_n 1, 1, 7), (7, .invokevirtual 374, 3, 10), (10, .ifCond .ne 9, 3, 13), (13, .aload_n 0, 1, 14), (14, .iconst 1, 1, 15), (15, .invokevirtual 117, 3, 18), (18, .ireturn, 1, 19), (19, .iload_n 2, 1, 20), (20, .iconst 0, 1, 21), (21, .ldc_w 377, 3, 24), (24, .invokestatic 113, 3, 27), (27, .ifCond .ne 9, 3, 30), (30, .aload_n 0, 1, 31), (31, .iconst 2, 1, 32), (32, .invokevirtual 117, 3, 35), (35, .ireturn, 1, 36), (36, .aload_n 0, 1, 37), (37, .getfield 90, 3, 40), (40, .iload_n 1, 1, 41), (41, .iload_n 2, 1, 42), (42, .iastore, 1, 43), (43, .aload_n 0, 1, 44), (44, .aload_n 0, 1, 45), (45, .iload_n 1, 1, 46), (46, .invokevirtual 370, 3, 49), (49, .invokevirtual 121, 3, 52), (52, .ireturn, 1, 53)]
set_option maxRecDepth 100000 in
theorem TX14_counted : zchk (zMc mX14_counted) tX14_counted = true := by decide +kernel
theorem kX14_counted : zOK mX14_counted := ⟨zw1460, zw72, by decide, by decide +kernel, by decide +kernel⟩
def mX14_missing : zM := (yX14_missing, prog_14_method_67_code, 2, (Option.some Jvm.ClassFile.FieldType.long), [])
def tX14_missing : List (Nat × Instr × Nat × Nat) := [(0, .aload_n 0, 1, 1), (1, .iconst 0, 1, 2), (2, .putfield 100, 3, 5), (5, .aload_n 0, 1, 6), (6, .iload_n 1, 1, 7), (7, .invokevirtual 374, 3, 10), (10, .ifCond .eq 12, 3, 13), (13, .aload_n 0, 1, 14), (14, .getfield 96, 3, 17), (17, .iload_n 1, 1, 18), (18, .laload, 1, 19), (19, .goto 4, 3, 22), (22, .lconst 0, 1, 23), (23, .lreturn, 1, 24)]
set_option maxRecDepth 100000 in
theorem TX14_missing : zchk (zMc mX14_missing) tX14_missing = true := by decide +kernel
theorem kX14_missing : zOK mX14_missing := ⟨zw1464, zw72, by decide, by decide +kernel, by decide +kernel⟩
def mX14_worst : zM := (yX14_worst, prog_14_method_68_code, 3, (Option.some Jvm.ClassFile.FieldType.int), [])
def tX14_worst : List (Nat × Instr × Nat × Nat) := [(0, .aload_n 0, 1, 1), (1, .iconst 0, 1, 2), (2, .putfield 100, 3, 5), (5, .bipush (-2), 2, 7), (7, .istore_n 1, 1, 8), (8, .iconst 0, 1, 9), (9, .istore_n 2, 1, 10), (10, .iload_n 2, 1, 11), (11, .aload_n 0, 1, 12), (12, .getfield 367, 3, 15), (15, .if_icmp .ge 44, 3, 18), (18, .aload_n 0, 1, 19), (19, .getfield 96, 3, 22), (22, .iload_n 2, 1, 23), (23, .laload, 1, 24), (24, .lconst 0, 1, 25), (25, .lcmp, 1, 26), (26, .ifCond .le 27, 3, 29), (29, .iload_n 1, 1, 30), (30, .bipush (-2), 2, 32), (32, .if_icmp .eq 19, 3, 35), (35, .aload_n 0, 1, 36), (36, .getfield 96, 3, 39), (39, .iload_n 2, 1, 40), (40, .laload, 1, 41), (41, .aload_n 0, 1, 42), (42, .getfield 96, 3, 45), (45, .iload_n 1, 1, 46), (46, .laload, 1, 47), (47, .lcmp, 1, 48), (48, .ifCond .le 5, 3, 51), (51, .iload_n 2, 1, 52), (52, .istore_n 1, 1, 53), (53, .iinc 2 1, 3, 56), (56, .goto (-46), 3, 59), (59, .iload_n 1, 1, 60), (60, .ireturn, 1, 61)]
set_option maxRecDepth 100000 in
theorem TX14_worst : zchk (zMc mX14_worst) tX14_worst = true := by decide +kernel
theorem kX14_worst : zOK mX14_worst := ⟨zw1468, zw72, by decide, by decide +kernel, by decide +kernel⟩
def mX14_count : zM := (yX14_count, prog_14_method_69_code, 4, (Option.some Jvm.ClassFile.FieldType.int), [])
def tX14_count : List (Nat × Instr × Nat × Nat) := [(0, .aload_n 0, 1, 1), (1, .iconst 0, 1, 2), (2, .putfield 100, 3, 5), (5, .iload_n 1, 1, 6), (6, .tableswitch 101 0 6 #[42, 47, 52, 57, 62, 67, 72], 42, 48), (48, .aload_n 0, 1, 49), (49, .getfield 106, 3, 52), (52, .ireturn, 1, 53), (53, .aload_n 0, 1, 54), (54, .getfield 109, 3, 57), (57, .ireturn, 1, 58), (58, .aload_n 0, 1, 59), (59, .getfield 272, 3, 62), (62, .ireturn, 1, 63), (63, .aload_n 0, 1, 64), (64, .getfield 324, 3, 67), (67, .ireturn, 1, 68), (68, .aload_n 0, 1, 69), (69, .getfield 367, 3, 72), (72, .ireturn, 1, 73), (73, .aload_n 0, 1, 74), (74, .getfield 263, 3, 77), (77, .ireturn, 1, 78), (78, .iconst 0, 1, 79), (79, .istore_n 2, 1, 80), (80, .iconst 0, 1, 81), (81, .istore_n 3, 1, 82), (82, .iload_n 3, 1, 83), (83, .aload_n 0, 1, 84), (84, .getfield 109, 3, 87), (87, .if_icmp .ge 18, 3, 90), (90, .iload_n 2, 1, 91), (91, .aload_n 0, 1, 92), (92, .getfield 32, 3, 95), (95, .iload_n 3, 1, 96), (96, .iaload, 1, 97), (97, .iadd, 1, 98), (98, .istore_n 2, 1, 99), (99, .iinc 3 1, 3, 102), (102, .goto (-20), 3, 105), (105, .iload_n 2, 1, 106), (106, .ireturn, 1, 107), (107, .iconst (-1), 1, 108), (108, .ireturn, 1, 109)]
set_option maxRecDepth 100000 in
theorem TX14_count : zchk (zMc mX14_count) tX14_count = true := by decide +kernel
theorem kX14_count : zOK mX14_count := ⟨zw1472, zw72, by decide, by decide +kernel, by decide +kernel⟩
def mX14_trouble : zM := (yX14_trouble, prog_14_method_70_code, 1, (Option.some Jvm.ClassFile.FieldType.int), [])
def tX14_trouble : List (Nat × Instr × Nat × Nat) := [(0, .aload_n 0, 1, 1), (1, .iconst 0, 1, 2), (2, .putfield 100, 3, 5), (5, .aload_n 0, 1, 6), (6, .getfield 103, 3, 9), (9, .ireturn, 1, 10)]
set_option maxRecDepth 100000 in
theorem TX14_trouble : zchk (zMc mX14_trouble) tX14_trouble = true := by decide +kernel
theorem kX14_trouble : zOK mX14_trouble := ⟨zw1476, zw72, by decide, by decide +kernel, by decide +kernel⟩
end
section
def mJ9_max_7cf53 : zM := (yJ9_max_7cf53, prog_18_method_65_code, 2, (Option.some Jvm.ClassFile.FieldType.int), [])
def tJ9_max_7cf53 : List (Nat × Instr × Nat × Nat) := [(0, .iload_n 0, 1, 1), (1, .iload_n 1, 1, 2), (2, .if_icmp .lt 7, 3, 5), (5, .iload_n 0, 1, 6), (6, .goto 4, 3, 9), (9, .iload_n 1, 1, 10), (10, .ireturn, 1, 11)]
set_option maxRecDepth 100000 in
theorem TJ9_max_7cf53 : zchk (zMc mJ9_max_7cf53) tJ9_max_7cf53 = true := by decide +kernel
theorem kJ9_max_7cf53 : zOK mJ9_max_7cf53 := ⟨zw1352, zw79, by decide, by decide +kernel, by decide +kernel⟩
def mJ9_max_f86c9 : zM := (yJ9_max_f86c9, prog_18_method_66_code, 4, (Option.some Jvm.ClassFile.FieldType.long), [])
def tJ9_max_f86c9 : List (Nat × Instr × Nat × Nat) := [(0, .lload_n 0, 1, 1), (1, .lload_n 2, 1, 2), (2, .lcmp, 1, 3), (3, .ifCond .lt 7, 3, 6), (6, .lload_n 0, 1, 7), (7, .goto 4, 3, 10), (10, .lload_n 2, 1, 11), (11, .lreturn, 1, 12)]
set_option maxRecDepth 100000 in
theorem TJ9_max_f86c9 : zchk (zMc mJ9_max_f86c9) tJ9_max_f86c9 = true := by decide +kernel
theorem kJ9_max_f86c9 : zOK mJ9_max_f86c9 := ⟨zw698, zw79, by decide, by decide +kernel, by decide +kernel⟩
def mJ9_min_7cf53 : zM := (yJ9_min_7cf53, prog_18_method_69_code, 2, (Option.some Jvm.ClassFile.FieldType.int), [])
def tJ9_min_7cf53 : List (Nat × Instr × Nat × Nat) := [(0, .iload_n 0, 1, 1), (1, .iload_n 1, 1, 2), (2, .if_icmp .gt 7, 3, 5), (5, .iload_n 0, 1, 6), (6, .goto 4, 3, 9), (9, .iload_n 1, 1, 10), (10, .ireturn, 1, 11)]
set_option maxRecDepth 100000 in
theorem TJ9_min_7cf53 : zchk (zMc mJ9_min_7cf53) tJ9_min_7cf53 = true := by decide +kernel
theorem kJ9_min_7cf53 : zOK mJ9_min_7cf53 := ⟨zw404, zw79, by decide, by decide +kernel, by decide +kernel⟩
def mJ9_min_f86c9 : zM := (yJ9_min_f86c9, prog_18_method_70_code, 4, (Option.some Jvm.ClassFile.FieldType.long), [])
def tJ9_min_f86c9 : List (Nat × Instr × Nat × Nat) := [(0, .lload_n 0, 1, 1), (1, .lload_n 2, 1, 2), (2, .lcmp, 1, 3), (3, .ifCond .gt 7, 3, 6), (6, .lload_n 0, 1, 7), (7, .goto 4, 3, 10), (10, .lload_n 2, 1, 11), (11, .lreturn, 1, 12)]
set_option maxRecDepth 100000 in
theorem TJ9_min_f86c9 : zchk (zMc mJ9_min_f86c9) tJ9_min_f86c9 = true := by decide +kernel
theorem kJ9_min_f86c9 : zOK mJ9_min_f86c9 := ⟨zw695, zw79, by decide, by decide +kernel, by decide +kernel⟩
def mJ0_length_8abf5 : zM := (yJ0_length_8abf5, prog_20_method_54_code, 1, (Option.some Jvm.ClassFile.FieldType.int), [])
def tJ0_length_8abf5 : List (Nat × Instr × Nat × Nat) := [(0, .aload_n 0, 1, 1), (1, .getfield 9, 3, 4), (4, .arraylength, 1, 5), (5, .aload_n 0, 1, 6), (6, .invokevirtual 335, 3, 9), (9, .ishr, 1, 10), (10, .ireturn, 1, 11)]
set_option maxRecDepth 100000 in
theorem TJ0_length_8abf5 : zchk (zMc mJ0_length_8abf5) tJ0_length_8abf5 = true := by decide +kernel
theorem kJ0_length_8abf5 : zOK mJ0_length_8abf5 := ⟨zw493, zw81, by decide, by decide +kernel, by decide +kernel⟩
def mJ0_charAt_5068e : zM := (yJ0_charAt_5068e, prog_20_method_56_code, 2, (Option.some Jvm.ClassFile.FieldType.char), [])
def tJ0_charAt_5068e : List (Nat × Instr × Nat × Nat) := [(0, .aload_n 0, 1, 1), (1, .invokevirtual 492, 3, 4), (4, .ifCond .eq 12, 3, 7), (7, .aload_n 0, 1, 8), (8, .getfield 9, 3, 11), (11, .iload_n 1, 1, 12), (12, .invokestatic 495, 3, 15), (15, .ireturn, 1, 16), (16, .aload_n 0, 1, 17), (17, .getfield 9, 3, 20), (20, .iload_n 1, 1, 21), (21, .invokestatic 498, 3, 24), (24, .ireturn, 1, 25)]
set_option maxRecDepth 100000 in
theorem TJ0_charAt_5068e : zchk (zMc mJ0_charAt_5068e) tJ0_charAt_5068e = true := by decide +kernel
theorem kJ0_charAt_5068e : zOK mJ0_charAt_5068e := ⟨zw503, zw81, by decide, by decide +kernel, by decide +kernel⟩
def mJ0_coder_7d493 : zM := (yJ0_coder_7d493, prog_20_method_152_code, 1, (Option.some Jvm.ClassFile.FieldType.byte), [])
def tJ0_coder_7d493 : List (Nat × Instr × Nat × Nat) := [(0, .getstatic 38, 3, 3), (3, .ifCond .eq 10, 3, 6), (6, .aload_n 0, 1, 7), (7, .getfield 15, 3, 10), (10, .goto 4, 3, 13), (13, .iconst 1, 1, 14), (14, .ireturn, 1, 15)]
set_option maxRecDepth 100000 in
theorem TJ0_coder_7d493 : zchk (zMc mJ0_coder_7d493) tJ0_coder_7d493 = true := by decide +kernel
theorem kJ0_coder_7d493 : zOK mJ0_coder_7d493 := ⟨zw497, zw81, by decide, by decide +kernel, by decide +kernel⟩
def mJ0_isLatin1_aae02 : zM := (yJ0_isLatin1_aae02, prog_20_method_154_code, 1, (Option.some Jvm.ClassFile.FieldType.boolean), [])
def tJ0_isLatin1_aae02 : List (Nat × Instr × Nat × Nat) := [(0, .getstatic 38, 3, 3), (3, .ifCond .eq 14, 3, 6), (6, .aload_n 0, 1, 7), (7, .getfield 15, 3, 10), (10, .ifCond .ne 7, 3, 13), (13, .iconst 1, 1, 14), (14, .goto 4, 3, 17), (17, .iconst 0, 1, 18), (18, .ireturn, 1, 19)]
set_option maxRecDepth 100000 in
theorem TJ0_isLatin1_aae02 : zchk (zMc mJ0_isLatin1_aae02) tJ0_isLatin1_aae02 = true := by decide +kernel
theorem kJ0_isLatin1_aae02 : zOK mJ0_isLatin1_aae02 := ⟨zw507, zw81, by decide, by decide +kernel, by decide +kernel⟩
def mJ0_checkIndex_df160 : zM := (yJ0_checkIndex_df160, prog_20_method_155_code, 2, none, [])
def tJ0_checkIndex_df160 : List (Nat × Instr × Nat × Nat) := [(0, .iload_n 0, 1, 1), (1, .iload_n 1, 1, 2), (2, .getstatic 1053, 3, 5), (5, .invokestatic 1059, 3, 8), (8, .pop, 1, 9), (9, .return_, 1, 10)]
set_option maxRecDepth 100000 in
theorem TJ0_checkIndex_df160 : zchk (zMc mJ0_checkIndex_df160) tJ0_checkIndex_df160 = true := by decide +kernel
theorem kJ0_checkIndex_df160 : zOK mJ0_checkIndex_df160 := ⟨zw513, zw81, by decide, by decide +kernel, by decide +kernel⟩
def mJ1_charAt_3b067 : zM := (yJ1_charAt_3b067, prog_21_method_2_code, 2, (Option.some Jvm.ClassFile.FieldType.char), [])
def tJ1_charAt_3b067 : List (Nat × Instr × Nat × Nat) := [(0, .iload_n 1, 1, 1), (1, .aload_n 0, 1, 2), (2, .arraylength, 1, 3), (3, .invokestatic 9, 3, 6), (6, .aload_n 0, 1, 7), (7, .iload_n 1, 1, 8), (8, .baload, 1, 9), (9, .sipush 255, 3, 12), (12, .iand, 1, 13), (13, .i2c, 1, 14), (14, .ireturn, 1, 15)]
set_option maxRecDepth 100000 in
theorem TJ1_charAt_3b067 : zchk (zMc mJ1_charAt_3b067) tJ1_charAt_3b067 = true := by decide +kernel
theorem kJ1_charAt_3b067 : zOK mJ1_charAt_3b067 := ⟨zw510, zw82, by decide, by decide +kernel, by decide +kernel⟩
def mJ2_getChar_3b067 : zM := (yJ2_getChar_3b067, prog_22_method_5_code, 2, (Option.some Jvm.ClassFile.FieldType.char), [])
def tJ2_getChar_3b067 : List (Nat × Instr × Nat × Nat) := [(0, .getstatic 44, 3, 3), (3, .ifCond .ne 25, 3, 6), (6, .iload_n 1, 1, 7), (7, .ifCond .lt 11, 3, 10), (10, .iload_n 1, 1, 11), (11, .aload_n 0, 1, 12), (12, .invokestatic 48, 3, 15), (15, .if_icmp .lt 13, 3, 18), (18, .new 52, 3, 21), (21, .dup, 1, 22), (22, .ldc 54, 2, 24), (24, .invokespecial 56, 3, 27), (27, .athrow, 1, 28), (28, .iload_n 1, 1, 29), (29, .iconst 1, 1, 30), (30, .ishl, 1, 31), (31, .istore_n 1, 1, 32), (32, .aload_n 0, 1, 33), (33, .iload_n 1, 1, 34), (34, .iinc 1 1, 3, 37), (37, .baload, 1, 38), (38, .sipush 255, 3, 41), (41, .iand, 1, 42), (42, .getstatic 59, 3, 45), (45, .ishl, 1, 46), (46, .aload_n 0, 1, 47), (47, .iload_n 1, 1, 48), (48, .baload, 1, 49), (49, .sipush 255, 3, 52), (52, .iand, 1, 53), (53, .getstatic 63, 3, 56), (56, .ishl, 1, 57), (57, .ior, 1, 58), (58, .i2c, 1, 59), (59, .ireturn, 1, 60)]
set_option maxRecDepth 100000 in
theorem TJ2_getChar_3b067 : zchk (zMc mJ2_getChar_3b067) tJ2_getChar_3b067 = true := by decide +kernel
theorem kJ2_getChar_3b067 : zOK mJ2_getChar_3b067 := ⟨zw531, zw84, by decide, by decide +kernel, by decide +kernel⟩
def mJ2_length_9d52b : zM := (yJ2_length_9d52b, prog_22_method_6_code, 1, (Option.some Jvm.ClassFile.FieldType.int), [])
def tJ2_length_9d52b : List (Nat × Instr × Nat × Nat) := [(0, .aload_n 0, 1, 1), (1, .arraylength, 1, 2), (2, .iconst 1, 1, 3), (3, .ishr, 1, 4), (4, .ireturn, 1, 5)]
set_option maxRecDepth 100000 in
theorem TJ2_length_9d52b : zchk (zMc mJ2_length_9d52b) tJ2_length_9d52b = true := by decide +kernel
theorem kJ2_length_9d52b : zOK mJ2_length_9d52b := ⟨zw527, zw84, by decide, by decide +kernel, by decide +kernel⟩
def mJ2_charAt_3b067 : zM := (yJ2_charAt_3b067, prog_22_method_83_code, 2, (Option.some Jvm.ClassFile.FieldType.char), [])
def tJ2_charAt_3b067 : List (Nat × Instr × Nat × Nat) := [(0, .iload_n 1, 1, 1), (1, .aload_n 0, 1, 2), (2, .invokestatic 67, 3, 5), (5, .aload_n 0, 1, 6), (6, .iload_n 1, 1, 7), (7, .invokestatic 71, 3, 10), (10, .ireturn, 1, 11)]
set_option maxRecDepth 100000 in
theorem TJ2_charAt_3b067 : zchk (zMc mJ2_charAt_3b067) tJ2_charAt_3b067 = true := by decide +kernel
theorem kJ2_charAt_3b067 : zOK mJ2_charAt_3b067 := ⟨zw521, zw84, by decide, by decide +kernel, by decide +kernel⟩
def mJ2_checkIndex_2214a : zM := (yJ2_checkIndex_2214a, prog_22_method_91_code, 2, none, [])
def tJ2_checkIndex_2214a : List (Nat × Instr × Nat × Nat) := [(0, .iload_n 0, 1, 1), (1, .aload_n 1, 1, 2), (2, .invokestatic 48, 3, 5), (5, .invokestatic 414, 3, 8), (8, .return_, 1, 9)]
set_option maxRecDepth 100000 in
theorem TJ2_checkIndex_2214a : zchk (zMc mJ2_checkIndex_2214a) tJ2_checkIndex_2214a = true := by decide +kernel
theorem kJ2_checkIndex_2214a : zOK mJ2_checkIndex_2214a := ⟨zw524, zw84, by decide, by decide +kernel, by decide +kernel⟩
def mJ3_checkIndex_8e157 : zM := (yJ3_checkIndex_8e157, prog_25_method_11_code, 3, (Option.some Jvm.ClassFile.FieldType.int), [])
def tJ3_checkIndex_8e157 : List (Nat × Instr × Nat × Nat) := [(0, .iload_n 0, 1, 1), (1, .ifCond .lt 8, 3, 4), (4, .iload_n 0, 1, 5), (5, .iload_n 1, 1, 6), (6, .if_icmp .lt 10, 3, 9), (9, .aload_n 2, 1, 10), (10, .iload_n 0, 1, 11), (11, .iload_n 1, 1, 12), (12, .invokestatic 95, 3, 15), (15, .athrow, 1, 16), (16, .iload_n 0, 1, 17), (17, .ireturn, 1, 18)]
set_option maxRecDepth 100000 in
theorem TJ3_checkIndex_8e157 : zchk (zMc mJ3_checkIndex_8e157) tJ3_checkIndex_8e157 = true := by decide +kernel
theorem kJ3_checkIndex_8e157 : zOK mJ3_checkIndex_8e157 := ⟨zw518, zw83, by decide, by decide +kernel, by decide +kernel⟩
def mL_law : zM := (x, code, 4, (Option.some Jvm.ClassFile.FieldType.boolean), [])
def tL_law_0 : List (Nat × Instr × Nat × Nat) := [(0, .new 7, 3, 3), (3, .dup, 1, 4), (4, .invokespecial 9, 3, 7), (7, .astore_n 1, 1, 8), (8, .new 10, 3, 11), (11, .dup, 1, 12), (12, .invokespecial 12, 3, 15), (15, .astore_n 2, 1, 16), (16, .iconst 0, 1, 17), (17, .istore_n 3, 1, 18), (18, .iload_n 3, 1, 19), (19, .aload_n 0, 1, 20), (20, .arraylength, 1, 21), (21, .bipush 6, 2, 23), (23, .isub, 1, 24), (24, .if_icmp .gt 1018, 3, 27), (27, .aload_n 0, 1, 28), (28, .iload_n 3, 1, 29), (29, .iaload, 1, 30), (30, .bipush 31, 2, 32), (32, .iand, 1, 33), (33, .tableswitch 1003 0 29 #[135, 168, 211, 254, 287, 310, 373, 416, 429, 442, 475, 534, 567, 590, 613, 637, 651, 665, 689, 712, 745, 769, 792, 805, 838, 897, 930, 954, 967, 990], 135, 168), (168, .aload_n 1, 1, 169), (169, .aload_n 0, 1, 170), (170, .iload_n 3, 1, 171), (171, .iconst 1, 1, 172), (172, .iadd, 1, 173), (173, .iaload, 1, 174), (174, .aload_n 0, 1, 175), (175, .iload_n 3, 1, 176), (176, .iconst 2, 1, 177), (177, .iadd, 1, 178), (178, .iaload, 1, 179), (179, .invokevirtual 13, 3, 182), (182, .aload_n 2, 1, 183), (183, .aload_n 0, 1, 184), (184, .iload_n 3, 1, 185), (185, .iconst 1, 1, 186), (186, .iadd, 1, 187), (187, .iaload, 1, 188), (188, .aload_n 0, 1, 189), (189, .iload_n 3, 1, 190), (190, .iconst 2, 1, 191), (191, .iadd, 1, 192), (192, .iaload, 1, 193), (193, .invokevirtual 17, 3, 196), (196, .if_icmp .eq 840, 3, 199), (199, .iconst 0, 1, 200), (200, .ireturn, 1, 201), (201, .aload_n 1, 1, 202), (202, .aload_n 0, 1, 203), (203, .iload_n 3, 1, 204), (204, .iconst 1, 1, 205), (205, .iadd, 1, 206), (206, .iaload, 1, 207), (207, .aload_n 0, 1, 208), (208, .iload_n 3, 1, 209), (209, .iconst 2, 1, 210), (210, .iadd, 1, 211), (211, .iaload, 1, 212)]
set_option maxRecDepth 100000 in
theorem TL_law_0 : zchk (zMc mL_law) tL_law_0 = true := by decide +kernel
def tL_law_1 : List (Nat × Instr × Nat × Nat) := [(212, .aload_n 0, 1, 213), (213, .iload_n 3, 1, 214), (214, .iconst 3, 1, 215), (215, .iadd, 1, 216), (216, .iaload, 1, 217), (217, .invokevirtual 18, 3, 220), (220, .aload_n 2, 1, 221), (221, .aload_n 0, 1, 222), (222, .iload_n 3, 1, 223), (223, .iconst 1, 1, 224), (224, .iadd, 1, 225), (225, .iaload, 1, 226), (226, .aload_n 0, 1, 227), (227, .iload_n 3, 1, 228), (228, .iconst 2, 1, 229), (229, .iadd, 1, 230), (230, .iaload, 1, 231), (231, .aload_n 0, 1, 232), (232, .iload_n 3, 1, 233), (233, .iconst 3, 1, 234), (234, .iadd, 1, 235), (235, .iaload, 1, 236), (236, .invokevirtual 22, 3, 239), (239, .if_icmp .eq 797, 3, 242), (242, .iconst 0, 1, 243), (243, .ireturn, 1, 244), (244, .aload_n 1, 1, 245), (245, .aload_n 0, 1, 246), (246, .iload_n 3, 1, 247), (247, .iconst 1, 1, 248), (248, .iadd, 1, 249), (249, .iaload, 1, 250), (250, .aload_n 0, 1, 251), (251, .iload_n 3, 1, 252), (252, .iconst 2, 1, 253), (253, .iadd, 1, 254), (254, .iaload, 1, 255), (255, .aload_n 0, 1, 256), (256, .iload_n 3, 1, 257), (257, .iconst 3, 1, 258), (258, .iadd, 1, 259), (259, .iaload, 1, 260), (260, .invokevirtual 23, 3, 263), (263, .aload_n 2, 1, 264), (264, .aload_n 0, 1, 265), (265, .iload_n 3, 1, 266), (266, .iconst 1, 1, 267), (267, .iadd, 1, 268), (268, .iaload, 1, 269), (269, .aload_n 0, 1, 270), (270, .iload_n 3, 1, 271), (271, .iconst 2, 1, 272), (272, .iadd, 1, 273), (273, .iaload, 1, 274), (274, .aload_n 0, 1, 275), (275, .iload_n 3, 1, 276), (276, .iconst 3, 1, 277), (277, .iadd, 1, 278), (278, .iaload, 1, 279), (279, .invokevirtual 27, 3, 282)]
set_option maxRecDepth 100000 in
theorem TL_law_1 : zchk (zMc mL_law) tL_law_1 = true := by decide +kernel
def tL_law_2 : List (Nat × Instr × Nat × Nat) := [(282, .if_icmp .eq 754, 3, 285), (285, .iconst 0, 1, 286), (286, .ireturn, 1, 287), (287, .aload_n 1, 1, 288), (288, .aload_n 0, 1, 289), (289, .iload_n 3, 1, 290), (290, .iconst 1, 1, 291), (291, .iadd, 1, 292), (292, .iaload, 1, 293), (293, .aload_n 0, 1, 294), (294, .iload_n 3, 1, 295), (295, .iconst 2, 1, 296), (296, .iadd, 1, 297), (297, .iaload, 1, 298), (298, .invokevirtual 28, 3, 301), (301, .aload_n 2, 1, 302), (302, .aload_n 0, 1, 303), (303, .iload_n 3, 1, 304), (304, .iconst 1, 1, 305), (305, .iadd, 1, 306), (306, .iaload, 1, 307), (307, .aload_n 0, 1, 308), (308, .iload_n 3, 1, 309), (309, .iconst 2, 1, 310), (310, .iadd, 1, 311), (311, .iaload, 1, 312), (312, .invokevirtual 32, 3, 315), (315, .if_icmp .eq 721, 3, 318), (318, .iconst 0, 1, 319), (319, .ireturn, 1, 320), (320, .aload_n 1, 1, 321), (321, .aload_n 0, 1, 322), (322, .iload_n 3, 1, 323), (323, .iconst 1, 1, 324), (324, .iadd, 1, 325), (325, .iaload, 1, 326), (326, .invokevirtual 33, 3, 329), (329, .aload_n 2, 1, 330), (330, .aload_n 0, 1, 331), (331, .iload_n 3, 1, 332), (332, .iconst 1, 1, 333), (333, .iadd, 1, 334), (334, .iaload, 1, 335), (335, .invokevirtual 37, 3, 338), (338, .if_icmp .eq 698, 3, 341), (341, .iconst 0, 1, 342), (342, .ireturn, 1, 343), (343, .aload_n 1, 1, 344), (344, .aload_n 0, 1, 345), (345, .iload_n 3, 1, 346), (346, .iconst 1, 1, 347), (347, .iadd, 1, 348), (348, .iaload, 1, 349), (349, .aload_n 0, 1, 350), (350, .iload_n 3, 1, 351), (351, .iconst 2, 1, 352), (352, .iadd, 1, 353), (353, .iaload, 1, 354), (354, .aload_n 0, 1, 355), (355, .iload_n 3, 1, 356)]
set_option maxRecDepth 100000 in
theorem TL_law_2 : zchk (zMc mL_law) tL_law_2 = true := by decide +kernel
def tL_law_3 : List (Nat × Instr × Nat × Nat) := [(356, .iconst 3, 1, 357), (357, .iadd, 1, 358), (358, .iaload, 1, 359), (359, .aload_n 0, 1, 360), (360, .iload_n 3, 1, 361), (361, .iconst 4, 1, 362), (362, .iadd, 1, 363), (363, .iaload, 1, 364), (364, .aload_n 0, 1, 365), (365, .iload_n 3, 1, 366), (366, .iconst 5, 1, 367), (367, .iadd, 1, 368), (368, .iaload, 1, 369), (369, .invokevirtual 38, 3, 372), (372, .aload_n 2, 1, 373), (373, .aload_n 0, 1, 374), (374, .iload_n 3, 1, 375), (375, .iconst 1, 1, 376), (376, .iadd, 1, 377), (377, .iaload, 1, 378), (378, .aload_n 0, 1, 379), (379, .iload_n 3, 1, 380), (380, .iconst 2, 1, 381), (381, .iadd, 1, 382), (382, .iaload, 1, 383), (383, .aload_n 0, 1, 384), (384, .iload_n 3, 1, 385), (385, .iconst 3, 1, 386), (386, .iadd, 1, 387), (387, .iaload, 1, 388), (388, .aload_n 0, 1, 389), (389, .iload_n 3, 1, 390), (390, .iconst 4, 1, 391), (391, .iadd, 1, 392), (392, .iaload, 1, 393), (393, .aload_n 0, 1, 394), (394, .iload_n 3, 1, 395), (395, .iconst 5, 1, 396), (396, .iadd, 1, 397), (397, .iaload, 1, 398), (398, .invokevirtual 42, 3, 401), (401, .if_icmp .eq 635, 3, 404), (404, .iconst 0, 1, 405), (405, .ireturn, 1, 406), (406, .aload_n 1, 1, 407), (407, .aload_n 0, 1, 408), (408, .iload_n 3, 1, 409), (409, .iconst 1, 1, 410), (410, .iadd, 1, 411), (411, .iaload, 1, 412), (412, .aload_n 0, 1, 413), (413, .iload_n 3, 1, 414), (414, .iconst 2, 1, 415), (415, .iadd, 1, 416), (416, .iaload, 1, 417), (417, .aload_n 0, 1, 418), (418, .iload_n 3, 1, 419), (419, .iconst 3, 1, 420), (420, .iadd, 1, 421), (421, .iaload, 1, 422)]
set_option maxRecDepth 100000 in
theorem TL_law_3 : zchk (zMc mL_law) tL_law_3 = true := by decide +kernel
def tL_law_4 : List (Nat × Instr × Nat × Nat) := [(422, .invokevirtual 43, 3, 425), (425, .aload_n 2, 1, 426), (426, .aload_n 0, 1, 427), (427, .iload_n 3, 1, 428), (428, .iconst 1, 1, 429), (429, .iadd, 1, 430), (430, .iaload, 1, 431), (431, .aload_n 0, 1, 432), (432, .iload_n 3, 1, 433), (433, .iconst 2, 1, 434), (434, .iadd, 1, 435), (435, .iaload, 1, 436), (436, .aload_n 0, 1, 437), (437, .iload_n 3, 1, 438), (438, .iconst 3, 1, 439), (439, .iadd, 1, 440), (440, .iaload, 1, 441), (441, .invokevirtual 46, 3, 444), (444, .if_icmp .eq 592, 3, 447), (447, .iconst 0, 1, 448), (448, .ireturn, 1, 449), (449, .aload_n 1, 1, 450), (450, .invokevirtual 47, 3, 453), (453, .aload_n 2, 1, 454), (454, .invokevirtual 51, 3, 457), (457, .if_icmp .eq 579, 3, 460), (460, .iconst 0, 1, 461), (461, .ireturn, 1, 462), (462, .aload_n 1, 1, 463), (463, .invokevirtual 52, 3, 466), (466, .aload_n 2, 1, 467), (467, .invokevirtual 55, 3, 470), (470, .if_icmp .eq 566, 3, 473), (473, .iconst 0, 1, 474), (474, .ireturn, 1, 475), (475, .aload_n 1, 1, 476), (476, .aload_n 0, 1, 477), (477, .iload_n 3, 1, 478), (478, .iconst 1, 1, 479), (479, .iadd, 1, 480), (480, .iaload, 1, 481), (481, .aload_n 0, 1, 482), (482, .iload_n 3, 1, 483), (483, .iconst 2, 1, 484), (484, .iadd, 1, 485), (485, .iaload, 1, 486), (486, .invokevirtual 56, 3, 489), (489, .aload_n 2, 1, 490), (490, .aload_n 0, 1, 491), (491, .iload_n 3, 1, 492), (492, .iconst 1, 1, 493), (493, .iadd, 1, 494), (494, .iaload, 1, 495), (495, .aload_n 0, 1, 496), (496, .iload_n 3, 1, 497), (497, .iconst 2, 1, 498), (498, .iadd, 1, 499), (499, .iaload, 1, 500), (500, .invokevirtual 59, 3, 503), (503, .if_icmp .eq 533, 3, 506)]
set_option maxRecDepth 100000 in
theorem TL_law_4 : zchk (zMc mL_law) tL_law_4 = true := by decide +kernel
def tL_law_5 : List (Nat × Instr × Nat × Nat) := [(506, .iconst 0, 1, 507), (507, .ireturn, 1, 508), (508, .aload_n 1, 1, 509), (509, .aload_n 0, 1, 510), (510, .iload_n 3, 1, 511), (511, .iconst 1, 1, 512), (512, .iadd, 1, 513), (513, .iaload, 1, 514), (514, .aload_n 0, 1, 515), (515, .iload_n 3, 1, 516), (516, .iconst 2, 1, 517), (517, .iadd, 1, 518), (518, .iaload, 1, 519), (519, .aload_n 0, 1, 520), (520, .iload_n 3, 1, 521), (521, .iconst 3, 1, 522), (522, .iadd, 1, 523), (523, .iaload, 1, 524), (524, .ifCond .eq 7, 3, 527), (527, .iconst 1, 1, 528), (528, .goto 4, 3, 531), (531, .iconst 0, 1, 532), (532, .invokevirtual 60, 3, 535), (535, .aload_n 2, 1, 536), (536, .aload_n 0, 1, 537), (537, .iload_n 3, 1, 538), (538, .iconst 1, 1, 539), (539, .iadd, 1, 540), (540, .iaload, 1, 541), (541, .aload_n 0, 1, 542), (542, .iload_n 3, 1, 543), (543, .iconst 2, 1, 544), (544, .iadd, 1, 545), (545, .iaload, 1, 546), (546, .aload_n 0, 1, 547), (547, .iload_n 3, 1, 548), (548, .iconst 3, 1, 549), (549, .iadd, 1, 550), (550, .iaload, 1, 551), (551, .ifCond .eq 7, 3, 554), (554, .iconst 1, 1, 555), (555, .goto 4, 3, 558), (558, .iconst 0, 1, 559), (559, .invokevirtual 64, 3, 562), (562, .if_icmp .eq 474, 3, 565), (565, .iconst 0, 1, 566), (566, .ireturn, 1, 567), (567, .aload_n 1, 1, 568), (568, .aload_n 0, 1, 569), (569, .iload_n 3, 1, 570), (570, .iconst 1, 1, 571), (571, .iadd, 1, 572), (572, .iaload, 1, 573), (573, .aload_n 0, 1, 574), (574, .iload_n 3, 1, 575), (575, .iconst 2, 1, 576), (576, .iadd, 1, 577), (577, .iaload, 1, 578), (578, .invokevirtual 65, 3, 581), (581, .aload_n 2, 1, 582)]
set_option maxRecDepth 100000 in
theorem TL_law_5 : zchk (zMc mL_law) tL_law_5 = true := by decide +kernel
def tL_law_6 : List (Nat × Instr × Nat × Nat) := [(582, .aload_n 0, 1, 583), (583, .iload_n 3, 1, 584), (584, .iconst 1, 1, 585), (585, .iadd, 1, 586), (586, .iaload, 1, 587), (587, .aload_n 0, 1, 588), (588, .iload_n 3, 1, 589), (589, .iconst 2, 1, 590), (590, .iadd, 1, 591), (591, .iaload, 1, 592), (592, .invokevirtual 68, 3, 595), (595, .if_icmp .eq 441, 3, 598), (598, .iconst 0, 1, 599), (599, .ireturn, 1, 600), (600, .aload_n 1, 1, 601), (601, .aload_n 0, 1, 602), (602, .iload_n 3, 1, 603), (603, .iconst 1, 1, 604), (604, .iadd, 1, 605), (605, .iaload, 1, 606), (606, .invokevirtual 69, 3, 609), (609, .aload_n 2, 1, 610), (610, .aload_n 0, 1, 611), (611, .iload_n 3, 1, 612), (612, .iconst 1, 1, 613), (613, .iadd, 1, 614), (614, .iaload, 1, 615), (615, .invokevirtual 73, 3, 618), (618, .if_icmp .eq 418, 3, 621), (621, .iconst 0, 1, 622), (622, .ireturn, 1, 623), (623, .aload_n 1, 1, 624), (624, .aload_n 0, 1, 625), (625, .iload_n 3, 1, 626), (626, .iconst 1, 1, 627), (627, .iadd, 1, 628), (628, .iaload, 1, 629), (629, .invokevirtual 74, 3, 632), (632, .aload_n 2, 1, 633), (633, .aload_n 0, 1, 634), (634, .iload_n 3, 1, 635), (635, .iconst 1, 1, 636), (636, .iadd, 1, 637), (637, .iaload, 1, 638), (638, .invokevirtual 77, 3, 641), (641, .if_icmp .eq 395, 3, 644), (644, .iconst 0, 1, 645), (645, .ireturn, 1, 646), (646, .aload_n 1, 1, 647), (647, .aload_n 0, 1, 648), (648, .iload_n 3, 1, 649), (649, .iconst 1, 1, 650), (650, .iadd, 1, 651), (651, .iaload, 1, 652), (652, .invokevirtual 78, 3, 655), (655, .aload_n 2, 1, 656), (656, .aload_n 0, 1, 657), (657, .iload_n 3, 1, 658), (658, .iconst 1, 1, 659), (659, .iadd, 1, 660)]
set_option maxRecDepth 100000 in
theorem TL_law_6 : zchk (zMc mL_law) tL_law_6 = true := by decide +kernel
def tL_law_7 : List (Nat × Instr × Nat × Nat) := [(660, .iaload, 1, 661), (661, .invokevirtual 82, 3, 664), (664, .lcmp, 1, 665), (665, .ifCond .eq 371, 3, 668), (668, .iconst 0, 1, 669), (669, .ireturn, 1, 670), (670, .aload_n 1, 1, 671), (671, .invokevirtual 83, 3, 674), (674, .aload_n 2, 1, 675), (675, .invokevirtual 87, 3, 678), (678, .lcmp, 1, 679), (679, .ifCond .eq 357, 3, 682), (682, .iconst 0, 1, 683), (683, .ireturn, 1, 684), (684, .aload_n 1, 1, 685), (685, .invokevirtual 88, 3, 688), (688, .aload_n 2, 1, 689), (689, .invokevirtual 91, 3, 692), (692, .lcmp, 1, 693), (693, .ifCond .eq 343, 3, 696), (696, .iconst 0, 1, 697), (697, .ireturn, 1, 698), (698, .aload_n 1, 1, 699), (699, .aload_n 0, 1, 700), (700, .iload_n 3, 1, 701), (701, .iconst 1, 1, 702), (702, .iadd, 1, 703), (703, .iaload, 1, 704), (704, .invokevirtual 92, 3, 707), (707, .aload_n 2, 1, 708), (708, .aload_n 0, 1, 709), (709, .iload_n 3, 1, 710), (710, .iconst 1, 1, 711), (711, .iadd, 1, 712), (712, .iaload, 1, 713), (713, .invokevirtual 95, 3, 716), (716, .lcmp, 1, 717), (717, .ifCond .eq 319, 3, 720), (720, .iconst 0, 1, 721), (721, .ireturn, 1, 722), (722, .aload_n 1, 1, 723), (723, .aload_n 0, 1, 724), (724, .iload_n 3, 1, 725), (725, .iconst 1, 1, 726), (726, .iadd, 1, 727), (727, .iaload, 1, 728), (728, .invokevirtual 96, 3, 731), (731, .aload_n 2, 1, 732), (732, .aload_n 0, 1, 733), (733, .iload_n 3, 1, 734), (734, .iconst 1, 1, 735), (735, .iadd, 1, 736), (736, .iaload, 1, 737), (737, .invokevirtual 99, 3, 740), (740, .if_icmp .eq 296, 3, 743), (743, .iconst 0, 1, 744), (744, .ireturn, 1, 745), (745, .aload_n 1, 1, 746), (746, .aload_n 0, 1, 747), (747, .iload_n 3, 1, 748)]
set_option maxRecDepth 100000 in
theorem TL_law_7 : zchk (zMc mL_law) tL_law_7 = true := by decide +kernel
def tL_law_8 : List (Nat × Instr × Nat × Nat) := [(748, .iconst 1, 1, 749), (749, .iadd, 1, 750), (750, .iaload, 1, 751), (751, .aload_n 0, 1, 752), (752, .iload_n 3, 1, 753), (753, .iconst 2, 1, 754), (754, .iadd, 1, 755), (755, .iaload, 1, 756), (756, .invokevirtual 100, 3, 759), (759, .aload_n 2, 1, 760), (760, .aload_n 0, 1, 761), (761, .iload_n 3, 1, 762), (762, .iconst 1, 1, 763), (763, .iadd, 1, 764), (764, .iaload, 1, 765), (765, .aload_n 0, 1, 766), (766, .iload_n 3, 1, 767), (767, .iconst 2, 1, 768), (768, .iadd, 1, 769), (769, .iaload, 1, 770), (770, .invokevirtual 103, 3, 773), (773, .if_icmp .eq 263, 3, 776), (776, .iconst 0, 1, 777), (777, .ireturn, 1, 778), (778, .aload_n 1, 1, 779), (779, .aload_n 0, 1, 780), (780, .iload_n 3, 1, 781), (781, .iconst 1, 1, 782), (782, .iadd, 1, 783), (783, .iaload, 1, 784), (784, .invokevirtual 104, 3, 787), (787, .aload_n 2, 1, 788), (788, .aload_n 0, 1, 789), (789, .iload_n 3, 1, 790), (790, .iconst 1, 1, 791), (791, .iadd, 1, 792), (792, .iaload, 1, 793), (793, .invokevirtual 107, 3, 796), (796, .lcmp, 1, 797), (797, .ifCond .eq 239, 3, 800), (800, .iconst 0, 1, 801), (801, .ireturn, 1, 802), (802, .aload_n 1, 1, 803), (803, .aload_n 0, 1, 804), (804, .iload_n 3, 1, 805), (805, .iconst 1, 1, 806), (806, .iadd, 1, 807), (807, .iaload, 1, 808), (808, .invokevirtual 108, 3, 811), (811, .aload_n 2, 1, 812), (812, .aload_n 0, 1, 813), (813, .iload_n 3, 1, 814), (814, .iconst 1, 1, 815), (815, .iadd, 1, 816), (816, .iaload, 1, 817), (817, .invokevirtual 111, 3, 820), (820, .if_icmp .eq 216, 3, 823), (823, .iconst 0, 1, 824), (824, .ireturn, 1, 825), (825, .aload_n 1, 1, 826)]
set_option maxRecDepth 100000 in
theorem TL_law_8 : zchk (zMc mL_law) tL_law_8 = true := by decide +kernel
def tL_law_9 : List (Nat × Instr × Nat × Nat) := [(826, .invokevirtual 112, 3, 829), (829, .aload_n 2, 1, 830), (830, .invokevirtual 115, 3, 833), (833, .if_icmp .eq 203, 3, 836), (836, .iconst 0, 1, 837), (837, .ireturn, 1, 838), (838, .aload_n 1, 1, 839), (839, .aload_n 0, 1, 840), (840, .iload_n 3, 1, 841), (841, .iconst 1, 1, 842), (842, .iadd, 1, 843), (843, .iaload, 1, 844), (844, .aload_n 0, 1, 845), (845, .iload_n 3, 1, 846), (846, .iconst 2, 1, 847), (847, .iadd, 1, 848), (848, .iaload, 1, 849), (849, .invokevirtual 116, 3, 852), (852, .aload_n 2, 1, 853), (853, .aload_n 0, 1, 854), (854, .iload_n 3, 1, 855), (855, .iconst 1, 1, 856), (856, .iadd, 1, 857), (857, .iaload, 1, 858), (858, .aload_n 0, 1, 859), (859, .iload_n 3, 1, 860), (860, .iconst 2, 1, 861), (861, .iadd, 1, 862), (862, .iaload, 1, 863), (863, .invokevirtual 119, 3, 866), (866, .if_icmp .eq 170, 3, 869), (869, .iconst 0, 1, 870), (870, .ireturn, 1, 871), (871, .aload_n 1, 1, 872), (872, .aload_n 0, 1, 873), (873, .iload_n 3, 1, 874), (874, .iconst 1, 1, 875), (875, .iadd, 1, 876), (876, .iaload, 1, 877), (877, .aload_n 0, 1, 878), (878, .iload_n 3, 1, 879), (879, .iconst 2, 1, 880), (880, .iadd, 1, 881), (881, .iaload, 1, 882), (882, .aload_n 0, 1, 883), (883, .iload_n 3, 1, 884), (884, .iconst 3, 1, 885), (885, .iadd, 1, 886), (886, .iaload, 1, 887), (887, .ifCond .eq 7, 3, 890), (890, .iconst 1, 1, 891), (891, .goto 4, 3, 894), (894, .iconst 0, 1, 895), (895, .invokevirtual 120, 3, 898), (898, .aload_n 2, 1, 899), (899, .aload_n 0, 1, 900), (900, .iload_n 3, 1, 901), (901, .iconst 1, 1, 902), (902, .iadd, 1, 903), (903, .iaload, 1, 904)]
set_option maxRecDepth 100000 in
theorem TL_law_9 : zchk (zMc mL_law) tL_law_9 = true := by decide +kernel
def tL_law_10 : List (Nat × Instr × Nat × Nat) := [(904, .aload_n 0, 1, 905), (905, .iload_n 3, 1, 906), (906, .iconst 2, 1, 907), (907, .iadd, 1, 908), (908, .iaload, 1, 909), (909, .aload_n 0, 1, 910), (910, .iload_n 3, 1, 911), (911, .iconst 3, 1, 912), (912, .iadd, 1, 913), (913, .iaload, 1, 914), (914, .ifCond .eq 7, 3, 917), (917, .iconst 1, 1, 918), (918, .goto 4, 3, 921), (921, .iconst 0, 1, 922), (922, .invokevirtual 123, 3, 925), (925, .if_icmp .eq 111, 3, 928), (928, .iconst 0, 1, 929), (929, .ireturn, 1, 930), (930, .aload_n 1, 1, 931), (931, .aload_n 0, 1, 932), (932, .iload_n 3, 1, 933), (933, .iconst 1, 1, 934), (934, .iadd, 1, 935), (935, .iaload, 1, 936), (936, .aload_n 0, 1, 937), (937, .iload_n 3, 1, 938), (938, .iconst 2, 1, 939), (939, .iadd, 1, 940), (940, .iaload, 1, 941), (941, .invokevirtual 124, 3, 944), (944, .aload_n 2, 1, 945), (945, .aload_n 0, 1, 946), (946, .iload_n 3, 1, 947), (947, .iconst 1, 1, 948), (948, .iadd, 1, 949), (949, .iaload, 1, 950), (950, .aload_n 0, 1, 951), (951, .iload_n 3, 1, 952), (952, .iconst 2, 1, 953), (953, .iadd, 1, 954), (954, .iaload, 1, 955), (955, .invokevirtual 127, 3, 958), (958, .if_icmp .eq 78, 3, 961), (961, .iconst 0, 1, 962), (962, .ireturn, 1, 963), (963, .aload_n 1, 1, 964), (964, .aload_n 0, 1, 965), (965, .iload_n 3, 1, 966), (966, .iconst 1, 1, 967), (967, .iadd, 1, 968), (968, .iaload, 1, 969), (969, .invokevirtual 128, 3, 972), (972, .aload_n 2, 1, 973), (973, .aload_n 0, 1, 974), (974, .iload_n 3, 1, 975), (975, .iconst 1, 1, 976), (976, .iadd, 1, 977), (977, .iaload, 1, 978), (978, .invokevirtual 131, 3, 981), (981, .lcmp, 1, 982)]
set_option maxRecDepth 100000 in
theorem TL_law_10 : zchk (zMc mL_law) tL_law_10 = true := by decide +kernel
def tL_law_11 : List (Nat × Instr × Nat × Nat) := [(982, .ifCond .eq 54, 3, 985), (985, .iconst 0, 1, 986), (986, .ireturn, 1, 987), (987, .aload_n 1, 1, 988), (988, .invokevirtual 132, 3, 991), (991, .aload_n 2, 1, 992), (992, .invokevirtual 135, 3, 995), (995, .if_icmp .eq 41, 3, 998), (998, .iconst 0, 1, 999), (999, .ireturn, 1, 1000), (1000, .aload_n 1, 1, 1001), (1001, .aload_n 0, 1, 1002), (1002, .iload_n 3, 1, 1003), (1003, .iconst 1, 1, 1004), (1004, .iadd, 1, 1005), (1005, .iaload, 1, 1006), (1006, .invokevirtual 136, 3, 1009), (1009, .aload_n 2, 1, 1010), (1010, .aload_n 0, 1, 1011), (1011, .iload_n 3, 1, 1012), (1012, .iconst 1, 1, 1013), (1013, .iadd, 1, 1014), (1014, .iaload, 1, 1015), (1015, .invokevirtual 139, 3, 1018), (1018, .if_icmp .eq 18, 3, 1021), (1021, .iconst 0, 1, 1022), (1022, .ireturn, 1, 1023), (1023, .aload_n 1, 1, 1024), (1024, .invokevirtual 140, 3, 1027), (1027, .aload_n 2, 1, 1028), (1028, .invokevirtual 143, 3, 1031), (1031, .if_icmp .eq 5, 3, 1034), (1034, .iconst 0, 1, 1035), (1035, .ireturn, 1, 1036), (1036, .iinc 3 6, 3, 1039), (1039, .goto (-1021), 3, 1042), (1042, .iconst 1, 1, 1043), (1043, .ireturn, 1, 1044)]
set_option maxRecDepth 100000 in
theorem TL_law_11 : zchk (zMc mL_law) tL_law_11 = true := by decide +kernel
def mJE_init : zM := ((⟨"java/lang/Exception", "<init>", "(Ljava/lang/String;Ljava/lang/Throwable;ZZ)V"⟩ : MethodName), prog_17_method_5_code, 5, none, [])
def tJE_init : List (Nat × Instr × Nat × Nat) := [(0, .aload_n 0, 1, 1), (1, .aload_n 1, 1, 2), (2, .aload_n 2, 1, 3), (3, .iload_n 3, 1, 4), (4, .iload 4, 2, 6), (6, .invokespecial 16, 3, 9), (9, .return_, 1, 10)]
set_option maxRecDepth 100000 in
theorem TJE_init : zchk (zMc mJE_init) tJE_init = true := by decide +kernel
theorem kJE_init : zOK mJE_init := ⟨zw1015, zw75, by decide, by decide +kernel, by decide +kernel⟩
def mJR_init : zM := ((⟨"java/lang/RuntimeException", "<init>", "(Ljava/lang/String;Ljava/lang/Throwable;ZZ)V"⟩ : MethodName), prog_19_method_5_code, 5, none, [])
def tJR_init : List (Nat × Instr × Nat × Nat) := [(0, .aload_n 0, 1, 1), (1, .aload_n 1, 1, 2), (2, .aload_n 2, 1, 3), (3, .iload_n 3, 1, 4), (4, .iload 4, 2, 6), (6, .invokespecial 16, 3, 9), (9, .return_, 1, 10)]
set_option maxRecDepth 100000 in
theorem TJR_init : zchk (zMc mJR_init) tJR_init = true := by decide +kernel
theorem kJR_init : zOK mJR_init := ⟨zw1012, zw76, by decide, by decide +kernel, by decide +kernel⟩
def mJT_init : zM := ((⟨"java/lang/Throwable", "<init>", "(Ljava/lang/String;Ljava/lang/Throwable;ZZ)V"⟩ : MethodName), prog_24_method_5_code, 5, none, [])
def tJT_init : List (Nat × Instr × Nat × Nat) := [(0, .aload_n 0, 1, 1), (1, .invokespecial 1, 3, 4), (4, .aload_n 0, 1, 5), (5, .aload_n 0, 1, 6), (6, .putfield 7, 3, 9), (9, .aload_n 0, 1, 10), (10, .getstatic 13, 3, 13), (13, .putfield 17, 3, 16), (16, .aload_n 0, 1, 17), (17, .getstatic 20, 3, 20), (20, .putfield 24, 3, 23), (23, .iload 4, 2, 25), (25, .ifCond .eq 11, 3, 28), (28, .aload_n 0, 1, 29), (29, .invokevirtual 27, 3, 32), (32, .pop, 1, 33), (33, .goto 8, 3, 36), (36, .aload_n 0, 1, 37), (37, .aconst_null, 1, 38), (38, .putfield 17, 3, 41), (41, .aload_n 0, 1, 42), (42, .aload_n 1, 1, 43), (43, .putfield 31, 3, 46), (46, .aload_n 0, 1, 47), (47, .aload_n 2, 1, 48), (48, .putfield 7, 3, 51), (51, .iload_n 3, 1, 52), (52, .ifCond .ne 8, 3, 55), (55, .aload_n 0, 1, 56), (56, .aconst_null, 1, 57), (57, .putfield 24, 3, 60), (60, .return_, 1, 61)]
set_option maxRecDepth 100000 in
theorem TJT_init : zchk (zMc mJT_init) tJT_init = true := by decide +kernel
theorem kJT_init : zOK mJT_init := ⟨zw1018, zw74, by decide, by decide +kernel, by decide +kernel⟩
theorem fX11_11 : zFld "SaltFarm" 11 11 0 := ⟨_, _, _, rfl, by decide, Or.inl zw284⟩
theorem fX11_17 : zFld "SaltFarm" 17 11 1 := ⟨_, _, _, rfl, by decide, Or.inl zw285⟩
theorem fX11_23 : zFld "SaltFarm" 23 11 2 := ⟨_, _, _, rfl, by decide, Or.inl zw286⟩
theorem fX11_30 : zFld "SaltFarm" 30 11 3 := ⟨_, _, _, rfl, by decide, Or.inl zw287⟩
theorem fX11_37 : zFld "SaltFarm" 37 11 4 := ⟨_, _, _, rfl, by decide, Or.inl zw288⟩
theorem fX11_44 : zFld "SaltFarm" 44 11 5 := ⟨_, _, _, rfl, by decide, Or.inl zw289⟩
theorem fX11_51 : zFld "SaltFarm" 51 11 6 := ⟨_, _, _, rfl, by decide, Or.inl zw290⟩
theorem fX11_58 : zFld "SaltFarm" 58 11 7 := ⟨_, _, _, rfl, by decide, Or.inl zw291⟩
theorem fX11_62 : zFld "SaltFarm" 62 11 8 := ⟨_, _, _, rfl, by decide, Or.inl zw292⟩
theorem fX11_66 : zFld "SaltFarm" 66 11 9 := ⟨_, _, _, rfl, by decide, Or.inl zw293⟩
theorem fX11_69 : zFld "SaltFarm" 69 11 10 := ⟨_, _, _, rfl, by decide, Or.inl zw294⟩
theorem fX11_72 : zFld "SaltFarm" 72 11 11 := ⟨_, _, _, rfl, by decide, Or.inl zw295⟩
theorem fX11_75 : zFld "SaltFarm" 75 11 12 := ⟨_, _, _, rfl, by decide, Or.inl zw296⟩
theorem fX11_78 : zFld "SaltFarm" 78 11 13 := ⟨_, _, _, rfl, by decide, Or.inl zw297⟩
theorem fX11_81 : zFld "SaltFarm" 81 11 14 := ⟨_, _, _, rfl, by decide, Or.inl zw298⟩
theorem fX11_84 : zFld "SaltFarm" 84 11 15 := ⟨_, _, _, rfl, by decide, Or.inl zw299⟩
theorem fX11_109 : zFld "SaltFarm" 109 5 0 := ⟨_, _, _, rfl, by decide, Or.inl zw355⟩
theorem fX11_112 : zFld "SaltFarm" 112 5 1 := ⟨_, _, _, rfl, by decide, Or.inl zw359⟩
theorem fX11_134 : zFld "SaltFarm" 134 0 3 := ⟨_, _, _, rfl, by decide, Or.inl zw425⟩
theorem fX11_143 : zFld "SaltFarm" 143 8 1 := ⟨_, _, _, rfl, by decide, Or.inl zw111⟩
theorem fX11_146 : zFld "SaltFarm" 146 8 0 := ⟨_, _, _, rfl, by decide, Or.inl zw109⟩
theorem fX11_154 : zFld "SaltFarm" 154 4 5 := ⟨_, _, _, rfl, by decide, Or.inl zw150⟩
theorem fX11_157 : zFld "SaltFarm" 157 4 6 := ⟨_, _, _, rfl, by decide, Or.inl zw152⟩
theorem fX11_184 : zFld "SaltFarm" 184 5 3 := ⟨_, _, _, rfl, by decide, Or.inl zw368⟩
theorem fX11_188 : zFld "SaltFarm" 188 5 2 := ⟨_, _, _, rfl, by decide, Or.inl zw364⟩
theorem fX11_222 : zFld "SaltFarm" 222 3 11 := ⟨_, _, _, rfl, by decide, Or.inl zw238⟩
theorem fX11_228 : zFld "SaltFarm" 228 0 0 := ⟨_, _, _, rfl, by decide, Or.inl zw419⟩
theorem fX11_231 : zFld "SaltFarm" 231 0 1 := ⟨_, _, _, rfl, by decide, Or.inl zw421⟩
theorem fX11_234 : zFld "SaltFarm" 234 0 2 := ⟨_, _, _, rfl, by decide, Or.inl zw423⟩
theorem fX11_248 : zFld "SaltFarm" 248 7 4 := ⟨_, _, _, rfl, by decide, Or.inl zw866⟩
theorem fX11_262 : zFld "SaltFarm" 262 7 2 := ⟨_, _, _, rfl, by decide, Or.inl zw862⟩
theorem fX11_265 : zFld "SaltFarm" 265 7 1 := ⟨_, _, _, rfl, by decide, Or.inl zw860⟩
theorem fX11_269 : zFld "SaltFarm" 269 7 3 := ⟨_, _, _, rfl, by decide, Or.inl zw864⟩
theorem fX11_276 : zFld "SaltFarm" 276 7 5 := ⟨_, _, _, rfl, by decide, Or.inl zw868⟩
theorem fX11_280 : zFld "SaltFarm" 280 2 2 := ⟨_, _, _, rfl, by decide, Or.inl zw208⟩
theorem fX11_286 : zFld "SaltFarm" 286 3 9 := ⟨_, _, _, rfl, by decide, Or.inl zw233⟩
theorem fX11_287 : zFld "SaltFarm" 287 3 10 := ⟨_, _, _, rfl, by decide, Or.inl zw236⟩
theorem fX0_7 : zFld "SaltFarm$Border" 7 0 3 := ⟨_, _, _, rfl, by decide, Or.inl zw424⟩
theorem fX0_13 : zFld "SaltFarm$Border" 13 0 0 := ⟨_, _, _, rfl, by decide, Or.inl zw418⟩
theorem fX0_16 : zFld "SaltFarm$Border" 16 0 1 := ⟨_, _, _, rfl, by decide, Or.inl zw420⟩
theorem fX0_19 : zFld "SaltFarm$Border" 19 0 2 := ⟨_, _, _, rfl, by decide, Or.inl zw422⟩
theorem fX1_7 : zFld "SaltFarm$Edict" 7 1 0 := ⟨_, _, _, rfl, by decide, Or.inl zw615⟩
theorem fX1_13 : zFld "SaltFarm$Edict" 13 1 1 := ⟨_, _, _, rfl, by decide, Or.inl zw617⟩
theorem fX1_16 : zFld "SaltFarm$Edict" 16 1 2 := ⟨_, _, _, rfl, by decide, Or.inl zw619⟩
theorem fX2_11 : zFld "SaltFarm$Law" 11 2 0 := ⟨_, _, _, rfl, by decide, Or.inl zw205⟩
theorem fX2_20 : zFld "SaltFarm$Law" 20 2 1 := ⟨_, _, _, rfl, by decide, Or.inl zw206⟩
theorem fX2_24 : zFld "SaltFarm$Law" 24 2 2 := ⟨_, _, _, rfl, by decide, Or.inl zw207⟩
theorem fX2_32 : zFld "SaltFarm$Law" 32 1 0 := ⟨_, _, _, rfl, by decide, Or.inl zw616⟩
theorem fX2_35 : zFld "SaltFarm$Law" 35 1 1 := ⟨_, _, _, rfl, by decide, Or.inl zw618⟩
theorem fX2_38 : zFld "SaltFarm$Law" 38 5 4 := ⟨_, _, _, rfl, by decide, Or.inl zw370⟩
theorem fX2_51 : zFld "SaltFarm$Law" 51 5 2 := ⟨_, _, _, rfl, by decide, Or.inl zw363⟩
theorem fX2_55 : zFld "SaltFarm$Law" 55 5 3 := ⟨_, _, _, rfl, by decide, Or.inl zw367⟩
theorem fX2_58 : zFld "SaltFarm$Law" 58 1 2 := ⟨_, _, _, rfl, by decide, Or.inl zw620⟩
theorem fX2_61 : zFld "SaltFarm$Law" 61 6 2 := ⟨_, _, _, rfl, by decide, Or.inl zw185⟩
theorem fX2_62 : zFld "SaltFarm$Law" 62 5 0 := ⟨_, _, _, rfl, by decide, Or.inl zw356⟩
theorem fX2_65 : zFld "SaltFarm$Law" 65 6 3 := ⟨_, _, _, rfl, by decide, Or.inl zw187⟩
theorem fX2_66 : zFld "SaltFarm$Law" 66 5 1 := ⟨_, _, _, rfl, by decide, Or.inl zw360⟩
theorem fX2_69 : zFld "SaltFarm$Law" 69 6 4 := ⟨_, _, _, rfl, by decide, Or.inl zw189⟩
theorem fX2_70 : zFld "SaltFarm$Law" 70 6 5 := ⟨_, _, _, rfl, by decide, Or.inl zw191⟩
theorem fX3_9 : zFld "SaltFarm$Market" 9 3 0 := ⟨_, _, _, rfl, by decide, Or.inl zw222⟩
theorem fX3_15 : zFld "SaltFarm$Market" 15 3 1 := ⟨_, _, _, rfl, by decide, Or.inl zw223⟩
theorem fX3_19 : zFld "SaltFarm$Market" 19 3 2 := ⟨_, _, _, rfl, by decide, Or.inl zw224⟩
theorem fX3_22 : zFld "SaltFarm$Market" 22 3 3 := ⟨_, _, _, rfl, by decide, Or.inl zw225⟩
theorem fX3_25 : zFld "SaltFarm$Market" 25 3 4 := ⟨_, _, _, rfl, by decide, Or.inl zw226⟩
theorem fX3_28 : zFld "SaltFarm$Market" 28 3 5 := ⟨_, _, _, rfl, by decide, Or.inl zw227⟩
theorem fX3_31 : zFld "SaltFarm$Market" 31 3 6 := ⟨_, _, _, rfl, by decide, Or.inl zw228⟩
theorem fX3_34 : zFld "SaltFarm$Market" 34 3 7 := ⟨_, _, _, rfl, by decide, Or.inl zw229⟩
theorem fX3_37 : zFld "SaltFarm$Market" 37 3 8 := ⟨_, _, _, rfl, by decide, Or.inl zw230⟩
theorem fX3_40 : zFld "SaltFarm$Market" 40 3 9 := ⟨_, _, _, rfl, by decide, Or.inl zw232⟩
theorem fX3_44 : zFld "SaltFarm$Market" 44 3 10 := ⟨_, _, _, rfl, by decide, Or.inl zw234⟩
theorem fX3_47 : zFld "SaltFarm$Market" 47 3 11 := ⟨_, _, _, rfl, by decide, Or.inl zw237⟩
theorem fX3_50 : zFld "SaltFarm$Market" 50 5 3 := ⟨_, _, _, rfl, by decide, Or.inl zw366⟩
theorem fX3_55 : zFld "SaltFarm$Market" 55 5 2 := ⟨_, _, _, rfl, by decide, Or.inl zw362⟩
theorem fX3_56 : zFld "SaltFarm$Market" 56 5 0 := ⟨_, _, _, rfl, by decide, Or.inl zw354⟩
theorem fX3_59 : zFld "SaltFarm$Market" 59 5 1 := ⟨_, _, _, rfl, by decide, Or.inl zw358⟩
theorem fX4_12 : zFld "SaltFarm$Parser" 12 4 0 := ⟨_, _, _, rfl, by decide, Or.inl zw144⟩
theorem fX4_18 : zFld "SaltFarm$Parser" 18 4 1 := ⟨_, _, _, rfl, by decide, Or.inl zw145⟩
theorem fX4_22 : zFld "SaltFarm$Parser" 22 4 2 := ⟨_, _, _, rfl, by decide, Or.inl zw146⟩
theorem fX4_26 : zFld "SaltFarm$Parser" 26 4 3 := ⟨_, _, _, rfl, by decide, Or.inl zw147⟩
theorem fX4_29 : zFld "SaltFarm$Parser" 29 4 4 := ⟨_, _, _, rfl, by decide, Or.inl zw148⟩
theorem fX4_32 : zFld "SaltFarm$Parser" 32 4 5 := ⟨_, _, _, rfl, by decide, Or.inl zw149⟩
theorem fX4_35 : zFld "SaltFarm$Parser" 35 4 6 := ⟨_, _, _, rfl, by decide, Or.inl zw151⟩
theorem fX4_83 : zFld "SaltFarm$Parser" 83 9 2 := ⟨_, _, _, rfl, by decide, Or.inl zw135⟩
theorem fX4_84 : zFld "SaltFarm$Parser" 84 9 0 := ⟨_, _, _, rfl, by decide, Or.inl zw131⟩
theorem fX4_87 : zFld "SaltFarm$Parser" 87 9 1 := ⟨_, _, _, rfl, by decide, Or.inl zw133⟩
theorem fX5_9 : zFld "SaltFarm$Province" 9 5 2 := ⟨_, _, _, rfl, by decide, Or.inl zw361⟩
theorem fX5_15 : zFld "SaltFarm$Province" 15 5 3 := ⟨_, _, _, rfl, by decide, Or.inl zw365⟩
theorem fX5_18 : zFld "SaltFarm$Province" 18 5 4 := ⟨_, _, _, rfl, by decide, Or.inl zw369⟩
theorem fX5_22 : zFld "SaltFarm$Province" 22 5 0 := ⟨_, _, _, rfl, by decide, Or.inl zw353⟩
theorem fX5_25 : zFld "SaltFarm$Province" 25 5 1 := ⟨_, _, _, rfl, by decide, Or.inl zw357⟩
theorem fX6_11 : zFld "SaltFarm$Reckoner" 11 6 0 := ⟨_, _, _, rfl, by decide, Or.inl zw182⟩
theorem fX6_15 : zFld "SaltFarm$Reckoner" 15 6 1 := ⟨_, _, _, rfl, by decide, Or.inl zw183⟩
theorem fX6_19 : zFld "SaltFarm$Reckoner" 19 6 2 := ⟨_, _, _, rfl, by decide, Or.inl zw184⟩
theorem fX6_22 : zFld "SaltFarm$Reckoner" 22 6 3 := ⟨_, _, _, rfl, by decide, Or.inl zw186⟩
theorem fX6_25 : zFld "SaltFarm$Reckoner" 25 6 4 := ⟨_, _, _, rfl, by decide, Or.inl zw188⟩
theorem fX6_28 : zFld "SaltFarm$Reckoner" 28 6 5 := ⟨_, _, _, rfl, by decide, Or.inl zw190⟩
theorem fX7_7 : zFld "SaltFarm$Store" 7 7 1 := ⟨_, _, _, rfl, by decide, Or.inl zw859⟩
theorem fX7_13 : zFld "SaltFarm$Store" 13 7 2 := ⟨_, _, _, rfl, by decide, Or.inl zw861⟩
theorem fX7_16 : zFld "SaltFarm$Store" 16 7 3 := ⟨_, _, _, rfl, by decide, Or.inl zw863⟩
theorem fX7_19 : zFld "SaltFarm$Store" 19 7 4 := ⟨_, _, _, rfl, by decide, Or.inl zw865⟩
theorem fX7_23 : zFld "SaltFarm$Store" 23 7 5 := ⟨_, _, _, rfl, by decide, Or.inl zw867⟩
theorem fX7_27 : zFld "SaltFarm$Store" 27 7 0 := ⟨_, _, _, rfl, by decide, Or.inl zw858⟩
theorem fX8_9 : zFld "SaltFarm$Tape" 9 8 0 := ⟨_, _, _, rfl, by decide, Or.inl zw108⟩
theorem fX8_15 : zFld "SaltFarm$Tape" 15 8 1 := ⟨_, _, _, rfl, by decide, Or.inl zw110⟩
theorem fX9_9 : zFld "SaltFarm$Tokens" 9 9 0 := ⟨_, _, _, rfl, by decide, Or.inl zw130⟩
theorem fX9_15 : zFld "SaltFarm$Tokens" 15 9 1 := ⟨_, _, _, rfl, by decide, Or.inl zw132⟩
theorem fX9_18 : zFld "SaltFarm$Tokens" 18 9 2 := ⟨_, _, _, rfl, by decide, Or.inl zw134⟩
theorem fX10_9 : zFld "SaltFarm$Watch" 9 10 0 := ⟨_, _, _, rfl, by decide, Or.inl zw271⟩
theorem fX10_15 : zFld "SaltFarm$Watch" 15 10 1 := ⟨_, _, _, rfl, by decide, Or.inl zw272⟩
theorem fX10_18 : zFld "SaltFarm$Watch" 18 10 2 := ⟨_, _, _, rfl, by decide, Or.inl zw273⟩
theorem fX10_22 : zFld "SaltFarm$Watch" 22 10 3 := ⟨_, _, _, rfl, by decide, Or.inl zw274⟩
theorem fX10_25 : zFld "SaltFarm$Watch" 25 3 10 := ⟨_, _, _, rfl, by decide, Or.inl zw235⟩
theorem fX10_48 : zFld "SaltFarm$Watch" 48 3 8 := ⟨_, _, _, rfl, by decide, Or.inl zw231⟩
theorem fX14_9 : zFld "SaltFarmModel" 9 14 2 := ⟨_, _, _, rfl, by decide, Or.inl zw1040⟩
theorem fX14_13 : zFld "SaltFarmModel" 13 14 7 := ⟨_, _, _, rfl, by decide, Or.inl zw1045⟩
theorem fX14_16 : zFld "SaltFarmModel" 16 14 8 := ⟨_, _, _, rfl, by decide, Or.inl zw1046⟩
theorem fX14_20 : zFld "SaltFarmModel" 20 14 9 := ⟨_, _, _, rfl, by decide, Or.inl zw1047⟩
theorem fX14_23 : zFld "SaltFarmModel" 23 14 10 := ⟨_, _, _, rfl, by decide, Or.inl zw1048⟩
theorem fX14_26 : zFld "SaltFarmModel" 26 14 11 := ⟨_, _, _, rfl, by decide, Or.inl zw1049⟩
theorem fX14_29 : zFld "SaltFarmModel" 29 14 12 := ⟨_, _, _, rfl, by decide, Or.inl zw1050⟩
theorem fX14_32 : zFld "SaltFarmModel" 32 14 13 := ⟨_, _, _, rfl, by decide, Or.inl zw1051⟩
theorem fX14_37 : zFld "SaltFarmModel" 37 14 15 := ⟨_, _, _, rfl, by decide, Or.inl zw1053⟩
theorem fX14_42 : zFld "SaltFarmModel" 42 14 16 := ⟨_, _, _, rfl, by decide, Or.inl zw1054⟩
theorem fX14_49 : zFld "SaltFarmModel" 49 14 17 := ⟨_, _, _, rfl, by decide, Or.inl zw1055⟩
theorem fX14_53 : zFld "SaltFarmModel" 53 14 18 := ⟨_, _, _, rfl, by decide, Or.inl zw1056⟩
theorem fX14_57 : zFld "SaltFarmModel" 57 14 29 := ⟨_, _, _, rfl, by decide, Or.inl zw1067⟩
theorem fX14_60 : zFld "SaltFarmModel" 60 14 30 := ⟨_, _, _, rfl, by decide, Or.inl zw1068⟩
theorem fX14_63 : zFld "SaltFarmModel" 63 14 31 := ⟨_, _, _, rfl, by decide, Or.inl zw1069⟩
theorem fX14_66 : zFld "SaltFarmModel" 66 14 32 := ⟨_, _, _, rfl, by decide, Or.inl zw1070⟩
theorem fX14_69 : zFld "SaltFarmModel" 69 14 33 := ⟨_, _, _, rfl, by decide, Or.inl zw1071⟩
theorem fX14_72 : zFld "SaltFarmModel" 72 14 34 := ⟨_, _, _, rfl, by decide, Or.inl zw1072⟩
theorem fX14_75 : zFld "SaltFarmModel" 75 14 36 := ⟨_, _, _, rfl, by decide, Or.inl zw1074⟩
theorem fX14_78 : zFld "SaltFarmModel" 78 14 37 := ⟨_, _, _, rfl, by decide, Or.inl zw1075⟩
theorem fX14_81 : zFld "SaltFarmModel" 81 14 41 := ⟨_, _, _, rfl, by decide, Or.inl zw1079⟩
theorem fX14_84 : zFld "SaltFarmModel" 84 14 42 := ⟨_, _, _, rfl, by decide, Or.inl zw1080⟩
theorem fX14_87 : zFld "SaltFarmModel" 87 14 43 := ⟨_, _, _, rfl, by decide, Or.inl zw1081⟩
theorem fX14_90 : zFld "SaltFarmModel" 90 14 44 := ⟨_, _, _, rfl, by decide, Or.inl zw1082⟩
theorem fX14_93 : zFld "SaltFarmModel" 93 14 45 := ⟨_, _, _, rfl, by decide, Or.inl zw1083⟩
theorem fX14_96 : zFld "SaltFarmModel" 96 14 46 := ⟨_, _, _, rfl, by decide, Or.inl zw1084⟩
theorem fX14_100 : zFld "SaltFarmModel" 100 14 0 := ⟨_, _, _, rfl, by decide, Or.inl zw1038⟩
theorem fX14_103 : zFld "SaltFarmModel" 103 14 1 := ⟨_, _, _, rfl, by decide, Or.inl zw1039⟩
theorem fX14_106 : zFld "SaltFarmModel" 106 14 4 := ⟨_, _, _, rfl, by decide, Or.inl zw1042⟩
theorem fX14_109 : zFld "SaltFarmModel" 109 14 5 := ⟨_, _, _, rfl, by decide, Or.inl zw1043⟩
theorem fX14_138 : zFld "SaltFarmModel" 138 13 6 := ⟨_, _, _, rfl, by decide, Or.inr ⟨_, zw1019⟩⟩
theorem fX14_141 : zFld "SaltFarmModel" 141 14 23 := ⟨_, _, _, rfl, by decide, Or.inl zw1061⟩
theorem fX14_144 : zFld "SaltFarmModel" 144 13 7 := ⟨_, _, _, rfl, by decide, Or.inr ⟨_, zw1020⟩⟩
theorem fX14_145 : zFld "SaltFarmModel" 145 14 20 := ⟨_, _, _, rfl, by decide, Or.inl zw1058⟩
theorem fX14_160 : zFld "SaltFarmModel" 160 14 21 := ⟨_, _, _, rfl, by decide, Or.inl zw1059⟩
theorem fX14_166 : zFld "SaltFarmModel" 166 14 22 := ⟨_, _, _, rfl, by decide, Or.inl zw1060⟩
theorem fX14_169 : zFld "SaltFarmModel" 169 14 24 := ⟨_, _, _, rfl, by decide, Or.inl zw1062⟩
theorem fX14_175 : zFld "SaltFarmModel" 175 14 28 := ⟨_, _, _, rfl, by decide, Or.inl zw1066⟩
theorem fX14_182 : zFld "SaltFarmModel" 182 14 25 := ⟨_, _, _, rfl, by decide, Or.inl zw1063⟩
theorem fX14_210 : zFld "SaltFarmModel" 210 12 2 := ⟨_, _, _, rfl, by decide, Or.inr ⟨_, zw931⟩⟩
theorem fX14_213 : zFld "SaltFarmModel" 213 12 3 := ⟨_, _, _, rfl, by decide, Or.inr ⟨_, zw933⟩⟩
theorem fX14_216 : zFld "SaltFarmModel" 216 14 26 := ⟨_, _, _, rfl, by decide, Or.inl zw1064⟩
theorem fX14_219 : zFld "SaltFarmModel" 219 14 27 := ⟨_, _, _, rfl, by decide, Or.inl zw1065⟩
theorem fX14_225 : zFld "SaltFarmModel" 225 12 4 := ⟨_, _, _, rfl, by decide, Or.inr ⟨_, zw935⟩⟩
theorem fX14_229 : zFld "SaltFarmModel" 229 12 5 := ⟨_, _, _, rfl, by decide, Or.inr ⟨_, zw937⟩⟩
theorem fX14_232 : zFld "SaltFarmModel" 232 12 6 := ⟨_, _, _, rfl, by decide, Or.inr ⟨_, zw939⟩⟩
theorem fX14_242 : zFld "SaltFarmModel" 242 12 7 := ⟨_, _, _, rfl, by decide, Or.inr ⟨_, zw941⟩⟩
theorem fX14_263 : zFld "SaltFarmModel" 263 14 19 := ⟨_, _, _, rfl, by decide, Or.inl zw1057⟩
theorem fX14_266 : zFld "SaltFarmModel" 266 14 3 := ⟨_, _, _, rfl, by decide, Or.inl zw1041⟩
theorem fX14_272 : zFld "SaltFarmModel" 272 14 14 := ⟨_, _, _, rfl, by decide, Or.inl zw1052⟩
theorem fX14_275 : zFld "SaltFarmModel" 275 12 0 := ⟨_, _, _, rfl, by decide, Or.inr ⟨_, zw929⟩⟩
theorem fX14_278 : zFld "SaltFarmModel" 278 12 1 := ⟨_, _, _, rfl, by decide, Or.inr ⟨_, zw930⟩⟩
theorem fX14_301 : zFld "SaltFarmModel" 301 12 8 := ⟨_, _, _, rfl, by decide, Or.inr ⟨_, zw943⟩⟩
theorem fX14_303 : zFld "SaltFarmModel" 303 12 9 := ⟨_, _, _, rfl, by decide, Or.inr ⟨_, zw945⟩⟩
theorem fX14_324 : zFld "SaltFarmModel" 324 14 6 := ⟨_, _, _, rfl, by decide, Or.inl zw1044⟩
theorem fX14_352 : zFld "SaltFarmModel" 352 14 35 := ⟨_, _, _, rfl, by decide, Or.inl zw1073⟩
theorem fX14_358 : zFld "SaltFarmModel" 358 14 38 := ⟨_, _, _, rfl, by decide, Or.inl zw1076⟩
theorem fX14_364 : zFld "SaltFarmModel" 364 14 39 := ⟨_, _, _, rfl, by decide, Or.inl zw1077⟩
theorem fX14_367 : zFld "SaltFarmModel" 367 14 40 := ⟨_, _, _, rfl, by decide, Or.inl zw1078⟩
theorem fX12_9 : zFld "SaltFarmModel$Edict" 9 12 4 := ⟨_, _, _, rfl, by decide, Or.inl zw934⟩
theorem fX12_15 : zFld "SaltFarmModel$Edict" 15 12 5 := ⟨_, _, _, rfl, by decide, Or.inl zw936⟩
theorem fX12_19 : zFld "SaltFarmModel$Edict" 19 12 6 := ⟨_, _, _, rfl, by decide, Or.inl zw938⟩
theorem fX12_22 : zFld "SaltFarmModel$Edict" 22 12 7 := ⟨_, _, _, rfl, by decide, Or.inl zw940⟩
theorem fX12_25 : zFld "SaltFarmModel$Edict" 25 12 8 := ⟨_, _, _, rfl, by decide, Or.inl zw942⟩
theorem fX12_28 : zFld "SaltFarmModel$Edict" 28 12 9 := ⟨_, _, _, rfl, by decide, Or.inl zw944⟩
theorem fX12_31 : zFld "SaltFarmModel$Edict" 31 12 3 := ⟨_, _, _, rfl, by decide, Or.inl zw932⟩
theorem fJT_7 : zFld "java/lang/Throwable" 7 13 0 := ⟨_, _, _, rfl, by decide, Or.inl zw1023⟩
theorem fJT_17 : zFld "java/lang/Throwable" 17 13 1 := ⟨_, _, _, rfl, by decide, Or.inl zw1024⟩
theorem fJT_24 : zFld "java/lang/Throwable" 24 13 2 := ⟨_, _, _, rfl, by decide, Or.inl zw1025⟩
theorem fJT_31 : zFld "java/lang/Throwable" 31 13 3 := ⟨_, _, _, rfl, by decide, Or.inl zw1022⟩
theorem fJT_198 : zFld "java/lang/Throwable" 198 13 4 := ⟨_, _, _, rfl, by decide, Or.inl zw1021⟩
theorem gX0_init_7 : zFldW mX0_init 7 0 3 := ⟨_, _, _, rfl, by decide, Or.inl ⟨zw424, Or.inl rfl⟩⟩
theorem gX0_init_13 : zFldW mX0_init 13 0 0 := ⟨_, _, _, rfl, by decide, Or.inl ⟨zw418, Or.inr ⟨rfl, rfl, rfl⟩⟩⟩
theorem gX0_init_16 : zFldW mX0_init 16 0 1 := ⟨_, _, _, rfl, by decide, Or.inl ⟨zw420, Or.inr ⟨rfl, rfl, rfl⟩⟩⟩
theorem gX0_init_19 : zFldW mX0_init 19 0 2 := ⟨_, _, _, rfl, by decide, Or.inl ⟨zw422, Or.inr ⟨rfl, rfl, rfl⟩⟩⟩
theorem gX1_init_7 : zFldW mX1_init 7 1 0 := ⟨_, _, _, rfl, by decide, Or.inl ⟨zw615, Or.inr ⟨rfl, rfl, rfl⟩⟩⟩
theorem gX1_init_13 : zFldW mX1_init 13 1 1 := ⟨_, _, _, rfl, by decide, Or.inl ⟨zw617, Or.inr ⟨rfl, rfl, rfl⟩⟩⟩
theorem gX1_init_16 : zFldW mX1_init 16 1 2 := ⟨_, _, _, rfl, by decide, Or.inl ⟨zw619, Or.inr ⟨rfl, rfl, rfl⟩⟩⟩
theorem gX2_init_11 : zFldW mX2_init 11 2 0 := ⟨_, _, _, rfl, by decide, Or.inl ⟨zw205, Or.inr ⟨rfl, rfl, rfl⟩⟩⟩
theorem gX2_init_20 : zFldW mX2_init 20 2 1 := ⟨_, _, _, rfl, by decide, Or.inl ⟨zw206, Or.inr ⟨rfl, rfl, rfl⟩⟩⟩
theorem gX2_init_24 : zFldW mX2_init 24 2 2 := ⟨_, _, _, rfl, by decide, Or.inl ⟨zw207, Or.inl rfl⟩⟩
theorem gX2_add_24 : zFldW mX2_add 24 2 2 := ⟨_, _, _, rfl, by decide, Or.inl ⟨zw207, Or.inl rfl⟩⟩
theorem gX2_learn_38 : zFldW mX2_learn 38 5 4 := ⟨_, _, _, rfl, by decide, Or.inl ⟨zw370, Or.inl rfl⟩⟩
theorem gX2_learnYear_61 : zFldW mX2_learnYear 61 6 2 := ⟨_, _, _, rfl, by decide, Or.inl ⟨zw185, Or.inl rfl⟩⟩
theorem gX2_learnYear_65 : zFldW mX2_learnYear 65 6 3 := ⟨_, _, _, rfl, by decide, Or.inl ⟨zw187, Or.inl rfl⟩⟩
theorem gX2_learnYear_69 : zFldW mX2_learnYear 69 6 4 := ⟨_, _, _, rfl, by decide, Or.inl ⟨zw189, Or.inl rfl⟩⟩
theorem gX2_learnYear_70 : zFldW mX2_learnYear 70 6 5 := ⟨_, _, _, rfl, by decide, Or.inl ⟨zw191, Or.inl rfl⟩⟩
theorem gX3_init_9 : zFldW mX3_init 9 3 0 := ⟨_, _, _, rfl, by decide, Or.inl ⟨zw222, Or.inr ⟨rfl, rfl, rfl⟩⟩⟩
theorem gX3_init_15 : zFldW mX3_init 15 3 1 := ⟨_, _, _, rfl, by decide, Or.inl ⟨zw223, Or.inr ⟨rfl, rfl, rfl⟩⟩⟩
theorem gX3_init_19 : zFldW mX3_init 19 3 2 := ⟨_, _, _, rfl, by decide, Or.inl ⟨zw224, Or.inr ⟨rfl, rfl, rfl⟩⟩⟩
theorem gX3_init_22 : zFldW mX3_init 22 3 3 := ⟨_, _, _, rfl, by decide, Or.inl ⟨zw225, Or.inr ⟨rfl, rfl, rfl⟩⟩⟩
theorem gX3_init_25 : zFldW mX3_init 25 3 4 := ⟨_, _, _, rfl, by decide, Or.inl ⟨zw226, Or.inr ⟨rfl, rfl, rfl⟩⟩⟩
theorem gX3_init_28 : zFldW mX3_init 28 3 5 := ⟨_, _, _, rfl, by decide, Or.inl ⟨zw227, Or.inr ⟨rfl, rfl, rfl⟩⟩⟩
theorem gX3_init_31 : zFldW mX3_init 31 3 6 := ⟨_, _, _, rfl, by decide, Or.inl ⟨zw228, Or.inr ⟨rfl, rfl, rfl⟩⟩⟩
theorem gX3_init_34 : zFldW mX3_init 34 3 7 := ⟨_, _, _, rfl, by decide, Or.inl ⟨zw229, Or.inr ⟨rfl, rfl, rfl⟩⟩⟩
theorem gX3_init_37 : zFldW mX3_init 37 3 8 := ⟨_, _, _, rfl, by decide, Or.inl ⟨zw230, Or.inr ⟨rfl, rfl, rfl⟩⟩⟩
theorem gX3_init_40 : zFldW mX3_init 40 3 9 := ⟨_, _, _, rfl, by decide, Or.inl ⟨zw232, Or.inl rfl⟩⟩
theorem gX3_init_44 : zFldW mX3_init 44 3 10 := ⟨_, _, _, rfl, by decide, Or.inl ⟨zw234, Or.inl rfl⟩⟩
theorem gX3_init_47 : zFldW mX3_init 47 3 11 := ⟨_, _, _, rfl, by decide, Or.inl ⟨zw237, Or.inl rfl⟩⟩
theorem gX3_trace_47 : zFldW mX3_trace 47 3 11 := ⟨_, _, _, rfl, by decide, Or.inl ⟨zw237, Or.inl rfl⟩⟩
theorem gX4_init_12 : zFldW mX4_init 12 4 0 := ⟨_, _, _, rfl, by decide, Or.inl ⟨zw144, Or.inr ⟨rfl, rfl, rfl⟩⟩⟩
theorem gX4_init_18 : zFldW mX4_init 18 4 1 := ⟨_, _, _, rfl, by decide, Or.inl ⟨zw145, Or.inr ⟨rfl, rfl, rfl⟩⟩⟩
theorem gX4_init_22 : zFldW mX4_init 22 4 2 := ⟨_, _, _, rfl, by decide, Or.inl ⟨zw146, Or.inl rfl⟩⟩
theorem gX4_init_26 : zFldW mX4_init 26 4 3 := ⟨_, _, _, rfl, by decide, Or.inl ⟨zw147, Or.inl rfl⟩⟩
theorem gX4_init_29 : zFldW mX4_init 29 4 4 := ⟨_, _, _, rfl, by decide, Or.inl ⟨zw148, Or.inl rfl⟩⟩
theorem gX4_init_32 : zFldW mX4_init 32 4 5 := ⟨_, _, _, rfl, by decide, Or.inl ⟨zw149, Or.inl rfl⟩⟩
theorem gX4_init_35 : zFldW mX4_init 35 4 6 := ⟨_, _, _, rfl, by decide, Or.inl ⟨zw151, Or.inl rfl⟩⟩
theorem gX4_reads_22 : zFldW mX4_reads 22 4 2 := ⟨_, _, _, rfl, by decide, Or.inl ⟨zw146, Or.inl rfl⟩⟩
theorem gX4_reads_26 : zFldW mX4_reads 26 4 3 := ⟨_, _, _, rfl, by decide, Or.inl ⟨zw147, Or.inl rfl⟩⟩
theorem gX4_reads_29 : zFldW mX4_reads 29 4 4 := ⟨_, _, _, rfl, by decide, Or.inl ⟨zw148, Or.inl rfl⟩⟩
theorem gX4_reads_32 : zFldW mX4_reads 32 4 5 := ⟨_, _, _, rfl, by decide, Or.inl ⟨zw149, Or.inl rfl⟩⟩
theorem gX4_reads_35 : zFldW mX4_reads 35 4 6 := ⟨_, _, _, rfl, by decide, Or.inl ⟨zw151, Or.inl rfl⟩⟩
theorem gX4_readsLine_26 : zFldW mX4_readsLine 26 4 3 := ⟨_, _, _, rfl, by decide, Or.inl ⟨zw147, Or.inl rfl⟩⟩
theorem gX4_readsTests_26 : zFldW mX4_readsTests 26 4 3 := ⟨_, _, _, rfl, by decide, Or.inl ⟨zw147, Or.inl rfl⟩⟩
theorem gX4_readsOne_26 : zFldW mX4_readsOne 26 4 3 := ⟨_, _, _, rfl, by decide, Or.inl ⟨zw147, Or.inl rfl⟩⟩
theorem gX4_passesSign_29 : zFldW mX4_passesSign 29 4 4 := ⟨_, _, _, rfl, by decide, Or.inl ⟨zw148, Or.inl rfl⟩⟩
theorem gX4_passesSign_26 : zFldW mX4_passesSign 26 4 3 := ⟨_, _, _, rfl, by decide, Or.inl ⟨zw147, Or.inl rfl⟩⟩
theorem gX4_fail_32 : zFldW mX4_fail 32 4 5 := ⟨_, _, _, rfl, by decide, Or.inl ⟨zw149, Or.inl rfl⟩⟩
theorem gX4_fail_35 : zFldW mX4_fail 35 4 6 := ⟨_, _, _, rfl, by decide, Or.inl ⟨zw151, Or.inl rfl⟩⟩
theorem gX4_write_22 : zFldW mX4_write 22 4 2 := ⟨_, _, _, rfl, by decide, Or.inl ⟨zw146, Or.inl rfl⟩⟩
theorem gX5_init_9 : zFldW mX5_init 9 5 2 := ⟨_, _, _, rfl, by decide, Or.inl ⟨zw361, Or.inr ⟨rfl, rfl, rfl⟩⟩⟩
theorem gX5_init_15 : zFldW mX5_init 15 5 3 := ⟨_, _, _, rfl, by decide, Or.inl ⟨zw365, Or.inr ⟨rfl, rfl, rfl⟩⟩⟩
theorem gX5_init_18 : zFldW mX5_init 18 5 4 := ⟨_, _, _, rfl, by decide, Or.inl ⟨zw369, Or.inl rfl⟩⟩
theorem gX5_init_22 : zFldW mX5_init 22 5 0 := ⟨_, _, _, rfl, by decide, Or.inl ⟨zw353, Or.inl rfl⟩⟩
theorem gX5_init_25 : zFldW mX5_init 25 5 1 := ⟨_, _, _, rfl, by decide, Or.inl ⟨zw357, Or.inl rfl⟩⟩
theorem gX5_forgetFrom_18 : zFldW mX5_forgetFrom 18 5 4 := ⟨_, _, _, rfl, by decide, Or.inl ⟨zw369, Or.inl rfl⟩⟩
theorem gX6_init_11 : zFldW mX6_init 11 6 0 := ⟨_, _, _, rfl, by decide, Or.inl ⟨zw182, Or.inr ⟨rfl, rfl, rfl⟩⟩⟩
theorem gX6_init_15 : zFldW mX6_init 15 6 1 := ⟨_, _, _, rfl, by decide, Or.inl ⟨zw183, Or.inl rfl⟩⟩
theorem gX6_init_19 : zFldW mX6_init 19 6 2 := ⟨_, _, _, rfl, by decide, Or.inl ⟨zw184, Or.inl rfl⟩⟩
theorem gX6_init_22 : zFldW mX6_init 22 6 3 := ⟨_, _, _, rfl, by decide, Or.inl ⟨zw186, Or.inl rfl⟩⟩
theorem gX6_init_25 : zFldW mX6_init 25 6 4 := ⟨_, _, _, rfl, by decide, Or.inl ⟨zw188, Or.inl rfl⟩⟩
theorem gX6_init_28 : zFldW mX6_init 28 6 5 := ⟨_, _, _, rfl, by decide, Or.inl ⟨zw190, Or.inl rfl⟩⟩
theorem gX6_tell_15 : zFldW mX6_tell 15 6 1 := ⟨_, _, _, rfl, by decide, Or.inl ⟨zw183, Or.inl rfl⟩⟩
theorem gX6_push_15 : zFldW mX6_push 15 6 1 := ⟨_, _, _, rfl, by decide, Or.inl ⟨zw183, Or.inl rfl⟩⟩
theorem gX6_pop_15 : zFldW mX6_pop 15 6 1 := ⟨_, _, _, rfl, by decide, Or.inl ⟨zw183, Or.inl rfl⟩⟩
theorem gX7_init_7 : zFldW mX7_init 7 7 1 := ⟨_, _, _, rfl, by decide, Or.inl ⟨zw859, Or.inl rfl⟩⟩
theorem gX7_init_13 : zFldW mX7_init 13 7 2 := ⟨_, _, _, rfl, by decide, Or.inl ⟨zw861, Or.inl rfl⟩⟩
theorem gX7_init_16 : zFldW mX7_init 16 7 3 := ⟨_, _, _, rfl, by decide, Or.inl ⟨zw863, Or.inl rfl⟩⟩
theorem gX7_init_19 : zFldW mX7_init 19 7 4 := ⟨_, _, _, rfl, by decide, Or.inl ⟨zw865, Or.inl rfl⟩⟩
theorem gX7_init_23 : zFldW mX7_init 23 7 5 := ⟨_, _, _, rfl, by decide, Or.inl ⟨zw867, Or.inl rfl⟩⟩
theorem gX7_init_27 : zFldW mX7_init 27 7 0 := ⟨_, _, _, rfl, by decide, Or.inl ⟨zw858, Or.inl rfl⟩⟩
theorem gX7_closeYear_23 : zFldW mX7_closeYear 23 7 5 := ⟨_, _, _, rfl, by decide, Or.inl ⟨zw867, Or.inl rfl⟩⟩
theorem gX7_closeYear_27 : zFldW mX7_closeYear 27 7 0 := ⟨_, _, _, rfl, by decide, Or.inl ⟨zw858, Or.inl rfl⟩⟩
theorem gX7_closeYear_7 : zFldW mX7_closeYear 7 7 1 := ⟨_, _, _, rfl, by decide, Or.inl ⟨zw859, Or.inl rfl⟩⟩
theorem gX7_closeYear_13 : zFldW mX7_closeYear 13 7 2 := ⟨_, _, _, rfl, by decide, Or.inl ⟨zw861, Or.inl rfl⟩⟩
theorem gX7_closeYear_19 : zFldW mX7_closeYear 19 7 4 := ⟨_, _, _, rfl, by decide, Or.inl ⟨zw865, Or.inl rfl⟩⟩
theorem gX8_init_9 : zFldW mX8_init 9 8 0 := ⟨_, _, _, rfl, by decide, Or.inl ⟨zw108, Or.inr ⟨rfl, rfl, rfl⟩⟩⟩
theorem gX8_init_15 : zFldW mX8_init 15 8 1 := ⟨_, _, _, rfl, by decide, Or.inl ⟨zw110, Or.inl rfl⟩⟩
theorem gX8_append_15 : zFldW mX8_append 15 8 1 := ⟨_, _, _, rfl, by decide, Or.inl ⟨zw110, Or.inl rfl⟩⟩
theorem gX9_init_9 : zFldW mX9_init 9 9 0 := ⟨_, _, _, rfl, by decide, Or.inl ⟨zw130, Or.inr ⟨rfl, rfl, rfl⟩⟩⟩
theorem gX9_init_15 : zFldW mX9_init 15 9 1 := ⟨_, _, _, rfl, by decide, Or.inl ⟨zw132, Or.inr ⟨rfl, rfl, rfl⟩⟩⟩
theorem gX9_init_18 : zFldW mX9_init 18 9 2 := ⟨_, _, _, rfl, by decide, Or.inl ⟨zw134, Or.inl rfl⟩⟩
theorem gX9_scan_18 : zFldW mX9_scan 18 9 2 := ⟨_, _, _, rfl, by decide, Or.inl ⟨zw134, Or.inl rfl⟩⟩
theorem gX9_add_18 : zFldW mX9_add 18 9 2 := ⟨_, _, _, rfl, by decide, Or.inl ⟨zw134, Or.inl rfl⟩⟩
theorem gX10_init_9 : zFldW mX10_init 9 10 0 := ⟨_, _, _, rfl, by decide, Or.inl ⟨zw271, Or.inr ⟨rfl, rfl, rfl⟩⟩⟩
theorem gX10_init_15 : zFldW mX10_init 15 10 1 := ⟨_, _, _, rfl, by decide, Or.inl ⟨zw272, Or.inr ⟨rfl, rfl, rfl⟩⟩⟩
theorem gX10_init_18 : zFldW mX10_init 18 10 2 := ⟨_, _, _, rfl, by decide, Or.inl ⟨zw273, Or.inl rfl⟩⟩
theorem gX10_init_22 : zFldW mX10_init 22 10 3 := ⟨_, _, _, rfl, by decide, Or.inl ⟨zw274, Or.inl rfl⟩⟩
theorem gX10_lay_18 : zFldW mX10_lay 18 10 2 := ⟨_, _, _, rfl, by decide, Or.inl ⟨zw273, Or.inl rfl⟩⟩
theorem gX10_lay_22 : zFldW mX10_lay 22 10 3 := ⟨_, _, _, rfl, by decide, Or.inl ⟨zw274, Or.inl rfl⟩⟩
theorem gX11_init_11 : zFldW mX11_init 11 11 0 := ⟨_, _, _, rfl, by decide, Or.inl ⟨zw284, Or.inr ⟨rfl, rfl, rfl⟩⟩⟩
theorem gX11_init_17 : zFldW mX11_init 17 11 1 := ⟨_, _, _, rfl, by decide, Or.inl ⟨zw285, Or.inr ⟨rfl, rfl, rfl⟩⟩⟩
theorem gX11_init_23 : zFldW mX11_init 23 11 2 := ⟨_, _, _, rfl, by decide, Or.inl ⟨zw286, Or.inr ⟨rfl, rfl, rfl⟩⟩⟩
theorem gX11_init_30 : zFldW mX11_init 30 11 3 := ⟨_, _, _, rfl, by decide, Or.inl ⟨zw287, Or.inr ⟨rfl, rfl, rfl⟩⟩⟩
theorem gX11_init_37 : zFldW mX11_init 37 11 4 := ⟨_, _, _, rfl, by decide, Or.inl ⟨zw288, Or.inr ⟨rfl, rfl, rfl⟩⟩⟩
theorem gX11_init_44 : zFldW mX11_init 44 11 5 := ⟨_, _, _, rfl, by decide, Or.inl ⟨zw289, Or.inr ⟨rfl, rfl, rfl⟩⟩⟩
theorem gX11_init_51 : zFldW mX11_init 51 11 6 := ⟨_, _, _, rfl, by decide, Or.inl ⟨zw290, Or.inr ⟨rfl, rfl, rfl⟩⟩⟩
theorem gX11_init_58 : zFldW mX11_init 58 11 7 := ⟨_, _, _, rfl, by decide, Or.inl ⟨zw291, Or.inr ⟨rfl, rfl, rfl⟩⟩⟩
theorem gX11_init_62 : zFldW mX11_init 62 11 8 := ⟨_, _, _, rfl, by decide, Or.inl ⟨zw292, Or.inl rfl⟩⟩
theorem gX11_init_66 : zFldW mX11_init 66 11 9 := ⟨_, _, _, rfl, by decide, Or.inl ⟨zw293, Or.inl rfl⟩⟩
theorem gX11_init_69 : zFldW mX11_init 69 11 10 := ⟨_, _, _, rfl, by decide, Or.inl ⟨zw294, Or.inl rfl⟩⟩
theorem gX11_init_72 : zFldW mX11_init 72 11 11 := ⟨_, _, _, rfl, by decide, Or.inl ⟨zw295, Or.inl rfl⟩⟩
theorem gX11_init_75 : zFldW mX11_init 75 11 12 := ⟨_, _, _, rfl, by decide, Or.inl ⟨zw296, Or.inl rfl⟩⟩
theorem gX11_init_78 : zFldW mX11_init 78 11 13 := ⟨_, _, _, rfl, by decide, Or.inl ⟨zw297, Or.inl rfl⟩⟩
theorem gX11_init_81 : zFldW mX11_init 81 11 14 := ⟨_, _, _, rfl, by decide, Or.inl ⟨zw298, Or.inl rfl⟩⟩
theorem gX11_init_84 : zFldW mX11_init 84 11 15 := ⟨_, _, _, rfl, by decide, Or.inl ⟨zw299, Or.inl rfl⟩⟩
theorem gX11_province_62 : zFldW mX11_province 62 11 8 := ⟨_, _, _, rfl, by decide, Or.inl ⟨zw292, Or.inl rfl⟩⟩
theorem gX11_people_109 : zFldW mX11_people 109 5 0 := ⟨_, _, _, rfl, by decide, Or.inl ⟨zw355, Or.inl rfl⟩⟩
theorem gX11_people_112 : zFldW mX11_people 112 5 1 := ⟨_, _, _, rfl, by decide, Or.inl ⟨zw359, Or.inl rfl⟩⟩
theorem gX11_border_66 : zFldW mX11_border 66 11 9 := ⟨_, _, _, rfl, by decide, Or.inl ⟨zw293, Or.inl rfl⟩⟩
theorem gX11_guard_134 : zFldW mX11_guard 134 0 3 := ⟨_, _, _, rfl, by decide, Or.inl ⟨zw425, Or.inl rfl⟩⟩
theorem gX11_weight_75 : zFldW mX11_weight 75 11 12 := ⟨_, _, _, rfl, by decide, Or.inl ⟨zw296, Or.inl rfl⟩⟩
theorem gX11_edict_143 : zFldW mX11_edict 143 8 1 := ⟨_, _, _, rfl, by decide, Or.inl ⟨zw111, Or.inl rfl⟩⟩
theorem gX11_edict_81 : zFldW mX11_edict 81 11 14 := ⟨_, _, _, rfl, by decide, Or.inl ⟨zw298, Or.inl rfl⟩⟩
theorem gX11_edict_84 : zFldW mX11_edict 84 11 15 := ⟨_, _, _, rfl, by decide, Or.inl ⟨zw299, Or.inl rfl⟩⟩
theorem gX11_best_78 : zFldW mX11_best 78 11 13 := ⟨_, _, _, rfl, by decide, Or.inl ⟨zw297, Or.inl rfl⟩⟩
theorem gX11_pass_72 : zFldW mX11_pass 72 11 11 := ⟨_, _, _, rfl, by decide, Or.inl ⟨zw295, Or.inl rfl⟩⟩
theorem gX11_store_69 : zFldW mX11_store 69 11 10 := ⟨_, _, _, rfl, by decide, Or.inl ⟨zw294, Or.inl rfl⟩⟩
theorem gX11_moves_262 : zFldW mX11_moves 262 7 2 := ⟨_, _, _, rfl, by decide, Or.inl ⟨zw862, Or.inl rfl⟩⟩
theorem gX11_moves_265 : zFldW mX11_moves 265 7 1 := ⟨_, _, _, rfl, by decide, Or.inl ⟨zw860, Or.inl rfl⟩⟩
theorem gX11_counted_269 : zFldW mX11_counted 269 7 3 := ⟨_, _, _, rfl, by decide, Or.inl ⟨zw864, Or.inl rfl⟩⟩
theorem gX11_counted_248 : zFldW mX11_counted 248 7 4 := ⟨_, _, _, rfl, by decide, Or.inl ⟨zw866, Or.inl rfl⟩⟩
theorem gX11_refuse_78 : zFldW mX11_refuse 78 11 13 := ⟨_, _, _, rfl, by decide, Or.inl ⟨zw297, Or.inl rfl⟩⟩
theorem gX11_grant_78 : zFldW mX11_grant 78 11 13 := ⟨_, _, _, rfl, by decide, Or.inl ⟨zw297, Or.inl rfl⟩⟩
theorem gX11_deny_78 : zFldW mX11_deny 78 11 13 := ⟨_, _, _, rfl, by decide, Or.inl ⟨zw297, Or.inl rfl⟩⟩
theorem gX11_allow_78 : zFldW mX11_allow 78 11 13 := ⟨_, _, _, rfl, by decide, Or.inl ⟨zw297, Or.inl rfl⟩⟩
theorem gX11_survey_286 : zFldW mX11_survey 286 3 9 := ⟨_, _, _, rfl, by decide, Or.inl ⟨zw233, Or.inl rfl⟩⟩
theorem gX11_survey_287 : zFldW mX11_survey 287 3 10 := ⟨_, _, _, rfl, by decide, Or.inl ⟨zw236, Or.inl rfl⟩⟩
theorem gX12_init_9 : zFldW mX12_init 9 12 4 := ⟨_, _, _, rfl, by decide, Or.inl ⟨zw934, Or.inr ⟨rfl, rfl, rfl⟩⟩⟩
theorem gX12_init_15 : zFldW mX12_init 15 12 5 := ⟨_, _, _, rfl, by decide, Or.inl ⟨zw936, Or.inr ⟨rfl, rfl, rfl⟩⟩⟩
theorem gX12_init_19 : zFldW mX12_init 19 12 6 := ⟨_, _, _, rfl, by decide, Or.inl ⟨zw938, Or.inr ⟨rfl, rfl, rfl⟩⟩⟩
theorem gX12_init_22 : zFldW mX12_init 22 12 7 := ⟨_, _, _, rfl, by decide, Or.inl ⟨zw940, Or.inr ⟨rfl, rfl, rfl⟩⟩⟩
theorem gX12_init_25 : zFldW mX12_init 25 12 8 := ⟨_, _, _, rfl, by decide, Or.inl ⟨zw942, Or.inr ⟨rfl, rfl, rfl⟩⟩⟩
theorem gX12_init_28 : zFldW mX12_init 28 12 9 := ⟨_, _, _, rfl, by decide, Or.inl ⟨zw944, Or.inr ⟨rfl, rfl, rfl⟩⟩⟩
theorem gX12_put_31 : zFldW mX12_put 31 12 3 := ⟨_, _, _, rfl, by decide, Or.inl ⟨zw932, Or.inl rfl⟩⟩
theorem gX14_init_9 : zFldW mX14_init 9 14 2 := ⟨_, _, _, rfl, by decide, Or.inl ⟨zw1040, Or.inl rfl⟩⟩
theorem gX14_init_13 : zFldW mX14_init 13 14 7 := ⟨_, _, _, rfl, by decide, Or.inl ⟨zw1045, Or.inl rfl⟩⟩
theorem gX14_init_16 : zFldW mX14_init 16 14 8 := ⟨_, _, _, rfl, by decide, Or.inl ⟨zw1046, Or.inr ⟨rfl, rfl, rfl⟩⟩⟩
theorem gX14_init_20 : zFldW mX14_init 20 14 9 := ⟨_, _, _, rfl, by decide, Or.inl ⟨zw1047, Or.inr ⟨rfl, rfl, rfl⟩⟩⟩
theorem gX14_init_23 : zFldW mX14_init 23 14 10 := ⟨_, _, _, rfl, by decide, Or.inl ⟨zw1048, Or.inr ⟨rfl, rfl, rfl⟩⟩⟩
theorem gX14_init_26 : zFldW mX14_init 26 14 11 := ⟨_, _, _, rfl, by decide, Or.inl ⟨zw1049, Or.inr ⟨rfl, rfl, rfl⟩⟩⟩
theorem gX14_init_29 : zFldW mX14_init 29 14 12 := ⟨_, _, _, rfl, by decide, Or.inl ⟨zw1050, Or.inr ⟨rfl, rfl, rfl⟩⟩⟩
theorem gX14_init_32 : zFldW mX14_init 32 14 13 := ⟨_, _, _, rfl, by decide, Or.inl ⟨zw1051, Or.inr ⟨rfl, rfl, rfl⟩⟩⟩
theorem gX14_init_37 : zFldW mX14_init 37 14 15 := ⟨_, _, _, rfl, by decide, Or.inl ⟨zw1053, Or.inr ⟨rfl, rfl, rfl⟩⟩⟩
theorem gX14_init_42 : zFldW mX14_init 42 14 16 := ⟨_, _, _, rfl, by decide, Or.inl ⟨zw1054, Or.inl rfl⟩⟩
theorem gX14_init_49 : zFldW mX14_init 49 14 17 := ⟨_, _, _, rfl, by decide, Or.inl ⟨zw1055, Or.inr ⟨rfl, rfl, rfl⟩⟩⟩
theorem gX14_init_53 : zFldW mX14_init 53 14 18 := ⟨_, _, _, rfl, by decide, Or.inl ⟨zw1056, Or.inr ⟨rfl, rfl, rfl⟩⟩⟩
theorem gX14_init_57 : zFldW mX14_init 57 14 29 := ⟨_, _, _, rfl, by decide, Or.inl ⟨zw1067, Or.inr ⟨rfl, rfl, rfl⟩⟩⟩
theorem gX14_init_60 : zFldW mX14_init 60 14 30 := ⟨_, _, _, rfl, by decide, Or.inl ⟨zw1068, Or.inr ⟨rfl, rfl, rfl⟩⟩⟩
theorem gX14_init_63 : zFldW mX14_init 63 14 31 := ⟨_, _, _, rfl, by decide, Or.inl ⟨zw1069, Or.inr ⟨rfl, rfl, rfl⟩⟩⟩
theorem gX14_init_66 : zFldW mX14_init 66 14 32 := ⟨_, _, _, rfl, by decide, Or.inl ⟨zw1070, Or.inr ⟨rfl, rfl, rfl⟩⟩⟩
theorem gX14_init_69 : zFldW mX14_init 69 14 33 := ⟨_, _, _, rfl, by decide, Or.inl ⟨zw1071, Or.inr ⟨rfl, rfl, rfl⟩⟩⟩
theorem gX14_init_72 : zFldW mX14_init 72 14 34 := ⟨_, _, _, rfl, by decide, Or.inl ⟨zw1072, Or.inr ⟨rfl, rfl, rfl⟩⟩⟩
theorem gX14_init_75 : zFldW mX14_init 75 14 36 := ⟨_, _, _, rfl, by decide, Or.inl ⟨zw1074, Or.inr ⟨rfl, rfl, rfl⟩⟩⟩
theorem gX14_init_78 : zFldW mX14_init 78 14 37 := ⟨_, _, _, rfl, by decide, Or.inl ⟨zw1075, Or.inr ⟨rfl, rfl, rfl⟩⟩⟩
theorem gX14_init_81 : zFldW mX14_init 81 14 41 := ⟨_, _, _, rfl, by decide, Or.inl ⟨zw1079, Or.inr ⟨rfl, rfl, rfl⟩⟩⟩
theorem gX14_init_84 : zFldW mX14_init 84 14 42 := ⟨_, _, _, rfl, by decide, Or.inl ⟨zw1080, Or.inr ⟨rfl, rfl, rfl⟩⟩⟩
theorem gX14_init_87 : zFldW mX14_init 87 14 43 := ⟨_, _, _, rfl, by decide, Or.inl ⟨zw1081, Or.inr ⟨rfl, rfl, rfl⟩⟩⟩
theorem gX14_init_90 : zFldW mX14_init 90 14 44 := ⟨_, _, _, rfl, by decide, Or.inl ⟨zw1082, Or.inr ⟨rfl, rfl, rfl⟩⟩⟩
theorem gX14_init_93 : zFldW mX14_init 93 14 45 := ⟨_, _, _, rfl, by decide, Or.inl ⟨zw1083, Or.inr ⟨rfl, rfl, rfl⟩⟩⟩
theorem gX14_init_96 : zFldW mX14_init 96 14 46 := ⟨_, _, _, rfl, by decide, Or.inl ⟨zw1084, Or.inr ⟨rfl, rfl, rfl⟩⟩⟩
theorem gX14_refused_103 : zFldW mX14_refused 103 14 1 := ⟨_, _, _, rfl, by decide, Or.inl ⟨zw1039, Or.inl rfl⟩⟩
theorem gX14_refused_9 : zFldW mX14_refused 9 14 2 := ⟨_, _, _, rfl, by decide, Or.inl ⟨zw1040, Or.inl rfl⟩⟩
theorem gX14_denied_103 : zFldW mX14_denied 103 14 1 := ⟨_, _, _, rfl, by decide, Or.inl ⟨zw1039, Or.inl rfl⟩⟩
theorem gX14_denied_9 : zFldW mX14_denied 9 14 2 := ⟨_, _, _, rfl, by decide, Or.inl ⟨zw1040, Or.inl rfl⟩⟩
theorem gX14_done_103 : zFldW mX14_done 103 14 1 := ⟨_, _, _, rfl, by decide, Or.inl ⟨zw1039, Or.inl rfl⟩⟩
theorem gX14_done_9 : zFldW mX14_done 9 14 2 := ⟨_, _, _, rfl, by decide, Or.inl ⟨zw1040, Or.inl rfl⟩⟩
theorem gX14_granted_103 : zFldW mX14_granted 103 14 1 := ⟨_, _, _, rfl, by decide, Or.inl ⟨zw1039, Or.inl rfl⟩⟩
theorem gX14_granted_9 : zFldW mX14_granted 9 14 2 := ⟨_, _, _, rfl, by decide, Or.inl ⟨zw1040, Or.inl rfl⟩⟩
theorem gX14_province_100 : zFldW mX14_province 100 14 0 := ⟨_, _, _, rfl, by decide, Or.inl ⟨zw1038, Or.inl rfl⟩⟩
theorem gX14_province_106 : zFldW mX14_province 106 14 4 := ⟨_, _, _, rfl, by decide, Or.inl ⟨zw1042, Or.inl rfl⟩⟩
theorem gX14_people_100 : zFldW mX14_people 100 14 0 := ⟨_, _, _, rfl, by decide, Or.inl ⟨zw1038, Or.inl rfl⟩⟩
theorem gX14_border_100 : zFldW mX14_border 100 14 0 := ⟨_, _, _, rfl, by decide, Or.inl ⟨zw1038, Or.inl rfl⟩⟩
theorem gX14_border_109 : zFldW mX14_border 109 14 5 := ⟨_, _, _, rfl, by decide, Or.inl ⟨zw1043, Or.inl rfl⟩⟩
theorem gX14_guard_100 : zFldW mX14_guard 100 14 0 := ⟨_, _, _, rfl, by decide, Or.inl ⟨zw1038, Or.inl rfl⟩⟩
theorem gX14_weight_100 : zFldW mX14_weight 100 14 0 := ⟨_, _, _, rfl, by decide, Or.inl ⟨zw1038, Or.inl rfl⟩⟩
theorem gX14_weight_13 : zFldW mX14_weight 13 14 7 := ⟨_, _, _, rfl, by decide, Or.inl ⟨zw1045, Or.inl rfl⟩⟩
theorem gX14_stop_138 : zFldW mX14_stop 138 13 6 := ⟨_, _, _, rfl, by decide, Or.inr ⟨_, zw1019, rfl⟩⟩
theorem gX14_stop_144 : zFldW mX14_stop 144 13 7 := ⟨_, _, _, rfl, by decide, Or.inr ⟨_, zw1020, rfl⟩⟩
theorem gX14_next_160 : zFldW mX14_next 160 14 21 := ⟨_, _, _, rfl, by decide, Or.inl ⟨zw1059, Or.inl rfl⟩⟩
theorem gX14_next_141 : zFldW mX14_next 141 14 23 := ⟨_, _, _, rfl, by decide, Or.inl ⟨zw1061, Or.inl rfl⟩⟩
theorem gX14_next_166 : zFldW mX14_next 166 14 22 := ⟨_, _, _, rfl, by decide, Or.inl ⟨zw1060, Or.inl rfl⟩⟩
theorem gX14_next_169 : zFldW mX14_next 169 14 24 := ⟨_, _, _, rfl, by decide, Or.inl ⟨zw1062, Or.inl rfl⟩⟩
theorem gX14_next_175 : zFldW mX14_next 175 14 28 := ⟨_, _, _, rfl, by decide, Or.inl ⟨zw1066, Or.inl rfl⟩⟩
theorem gX14_next_182 : zFldW mX14_next 182 14 25 := ⟨_, _, _, rfl, by decide, Or.inl ⟨zw1063, Or.inl rfl⟩⟩
theorem gX14_reads_210 : zFldW mX14_reads 210 12 2 := ⟨_, _, _, rfl, by decide, Or.inr ⟨_, zw931, rfl⟩⟩
theorem gX14_reads_213 : zFldW mX14_reads 213 12 3 := ⟨_, _, _, rfl, by decide, Or.inr ⟨_, zw933, rfl⟩⟩
theorem gX14_reads_216 : zFldW mX14_reads 216 14 26 := ⟨_, _, _, rfl, by decide, Or.inl ⟨zw1064, Or.inl rfl⟩⟩
theorem gX14_reads_219 : zFldW mX14_reads 219 14 27 := ⟨_, _, _, rfl, by decide, Or.inl ⟨zw1065, Or.inl rfl⟩⟩
theorem gX14_sign_219 : zFldW mX14_sign 219 14 27 := ⟨_, _, _, rfl, by decide, Or.inl ⟨zw1065, Or.inl rfl⟩⟩
theorem gX14_readOne_216 : zFldW mX14_readOne 216 14 26 := ⟨_, _, _, rfl, by decide, Or.inl ⟨zw1064, Or.inl rfl⟩⟩
theorem gX14_feed_100 : zFldW mX14_feed 100 14 0 := ⟨_, _, _, rfl, by decide, Or.inl ⟨zw1038, Or.inl rfl⟩⟩
theorem gX14_feed_263 : zFldW mX14_feed 263 14 19 := ⟨_, _, _, rfl, by decide, Or.inl ⟨zw1057, Or.inl rfl⟩⟩
theorem gX14_edict_100 : zFldW mX14_edict 100 14 0 := ⟨_, _, _, rfl, by decide, Or.inl ⟨zw1038, Or.inl rfl⟩⟩
theorem gX14_edict_145 : zFldW mX14_edict 145 14 20 := ⟨_, _, _, rfl, by decide, Or.inl ⟨zw1058, Or.inl rfl⟩⟩
theorem gX14_edict_263 : zFldW mX14_edict 263 14 19 := ⟨_, _, _, rfl, by decide, Or.inl ⟨zw1057, Or.inl rfl⟩⟩
theorem gX14_edict_160 : zFldW mX14_edict 160 14 21 := ⟨_, _, _, rfl, by decide, Or.inl ⟨zw1059, Or.inl rfl⟩⟩
theorem gX14_edict_266 : zFldW mX14_edict 266 14 3 := ⟨_, _, _, rfl, by decide, Or.inl ⟨zw1041, Or.inl rfl⟩⟩
theorem gX14_edict_103 : zFldW mX14_edict 103 14 1 := ⟨_, _, _, rfl, by decide, Or.inl ⟨zw1039, Or.inl rfl⟩⟩
theorem gX14_edict_9 : zFldW mX14_edict 9 14 2 := ⟨_, _, _, rfl, by decide, Or.inl ⟨zw1040, Or.inl rfl⟩⟩
theorem gX14_edict_275 : zFldW mX14_edict 275 12 0 := ⟨_, _, _, rfl, by decide, Or.inr ⟨_, zw929, rfl⟩⟩
theorem gX14_edict_278 : zFldW mX14_edict 278 12 1 := ⟨_, _, _, rfl, by decide, Or.inr ⟨_, zw930, rfl⟩⟩
theorem gX14_edict_42 : zFldW mX14_edict 42 14 16 := ⟨_, _, _, rfl, by decide, Or.inl ⟨zw1054, Or.inl rfl⟩⟩
theorem gX14_edict_272 : zFldW mX14_edict 272 14 14 := ⟨_, _, _, rfl, by decide, Or.inl ⟨zw1052, Or.inl rfl⟩⟩
theorem gX14_fault_100 : zFldW mX14_fault 100 14 0 := ⟨_, _, _, rfl, by decide, Or.inl ⟨zw1038, Or.inl rfl⟩⟩
theorem gX14_where_100 : zFldW mX14_where 100 14 0 := ⟨_, _, _, rfl, by decide, Or.inl ⟨zw1038, Or.inl rfl⟩⟩
theorem gX14_force_100 : zFldW mX14_force 100 14 0 := ⟨_, _, _, rfl, by decide, Or.inl ⟨zw1038, Or.inl rfl⟩⟩
theorem gX14_price_100 : zFldW mX14_price 100 14 0 := ⟨_, _, _, rfl, by decide, Or.inl ⟨zw1038, Or.inl rfl⟩⟩
theorem gX14_brought_100 : zFldW mX14_brought 100 14 0 := ⟨_, _, _, rfl, by decide, Or.inl ⟨zw1038, Or.inl rfl⟩⟩
theorem gX14_cheap_100 : zFldW mX14_cheap 100 14 0 := ⟨_, _, _, rfl, by decide, Or.inl ⟨zw1038, Or.inl rfl⟩⟩
theorem gX14_source_100 : zFldW mX14_source 100 14 0 := ⟨_, _, _, rfl, by decide, Or.inl ⟨zw1038, Or.inl rfl⟩⟩
theorem gX14_taken_100 : zFldW mX14_taken 100 14 0 := ⟨_, _, _, rfl, by decide, Or.inl ⟨zw1038, Or.inl rfl⟩⟩
theorem gX14_crown_100 : zFldW mX14_crown 100 14 0 := ⟨_, _, _, rfl, by decide, Or.inl ⟨zw1038, Or.inl rfl⟩⟩
theorem gX14_lost_100 : zFldW mX14_lost 100 14 0 := ⟨_, _, _, rfl, by decide, Or.inl ⟨zw1038, Or.inl rfl⟩⟩
theorem gX14_walks_352 : zFldW mX14_walks 352 14 35 := ⟨_, _, _, rfl, by decide, Or.inl ⟨zw1073, Or.inl rfl⟩⟩
theorem gX14_carried_100 : zFldW mX14_carried 100 14 0 := ⟨_, _, _, rfl, by decide, Or.inl ⟨zw1038, Or.inl rfl⟩⟩
theorem gX14_way_100 : zFldW mX14_way 100 14 0 := ⟨_, _, _, rfl, by decide, Or.inl ⟨zw1038, Or.inl rfl⟩⟩
theorem gX14_wayAt_100 : zFldW mX14_wayAt 100 14 0 := ⟨_, _, _, rfl, by decide, Or.inl ⟨zw1038, Or.inl rfl⟩⟩
theorem gX14_tries_358 : zFldW mX14_tries 358 14 38 := ⟨_, _, _, rfl, by decide, Or.inl ⟨zw1076, Or.inl rfl⟩⟩
theorem gX14_best_100 : zFldW mX14_best 100 14 0 := ⟨_, _, _, rfl, by decide, Or.inl ⟨zw1038, Or.inl rfl⟩⟩
theorem gX14_best_358 : zFldW mX14_best 358 14 38 := ⟨_, _, _, rfl, by decide, Or.inl ⟨zw1076, Or.inl rfl⟩⟩
theorem gX14_best_364 : zFldW mX14_best 364 14 39 := ⟨_, _, _, rfl, by decide, Or.inl ⟨zw1077, Or.inl rfl⟩⟩
theorem gX14_best_103 : zFldW mX14_best 103 14 1 := ⟨_, _, _, rfl, by decide, Or.inl ⟨zw1039, Or.inl rfl⟩⟩
theorem gX14_best_9 : zFldW mX14_best 9 14 2 := ⟨_, _, _, rfl, by decide, Or.inl ⟨zw1040, Or.inl rfl⟩⟩
theorem gX14_stand_100 : zFldW mX14_stand 100 14 0 := ⟨_, _, _, rfl, by decide, Or.inl ⟨zw1038, Or.inl rfl⟩⟩
theorem gX14_pass_100 : zFldW mX14_pass 100 14 0 := ⟨_, _, _, rfl, by decide, Or.inl ⟨zw1038, Or.inl rfl⟩⟩
theorem gX14_pass_324 : zFldW mX14_pass 324 14 6 := ⟨_, _, _, rfl, by decide, Or.inl ⟨zw1044, Or.inl rfl⟩⟩
theorem gX14_store_100 : zFldW mX14_store 100 14 0 := ⟨_, _, _, rfl, by decide, Or.inl ⟨zw1038, Or.inl rfl⟩⟩
theorem gX14_store_367 : zFldW mX14_store 367 14 40 := ⟨_, _, _, rfl, by decide, Or.inl ⟨zw1078, Or.inl rfl⟩⟩
theorem gX14_moves_100 : zFldW mX14_moves 100 14 0 := ⟨_, _, _, rfl, by decide, Or.inl ⟨zw1038, Or.inl rfl⟩⟩
theorem gX14_counted_100 : zFldW mX14_counted 100 14 0 := ⟨_, _, _, rfl, by decide, Or.inl ⟨zw1038, Or.inl rfl⟩⟩
theorem gX14_missing_100 : zFldW mX14_missing 100 14 0 := ⟨_, _, _, rfl, by decide, Or.inl ⟨zw1038, Or.inl rfl⟩⟩
theorem gX14_worst_100 : zFldW mX14_worst 100 14 0 := ⟨_, _, _, rfl, by decide, Or.inl ⟨zw1038, Or.inl rfl⟩⟩
theorem gX14_count_100 : zFldW mX14_count 100 14 0 := ⟨_, _, _, rfl, by decide, Or.inl ⟨zw1038, Or.inl rfl⟩⟩
theorem gX14_trouble_100 : zFldW mX14_trouble 100 14 0 := ⟨_, _, _, rfl, by decide, Or.inl ⟨zw1038, Or.inl rfl⟩⟩
theorem gJT_init_7 : zFldW mJT_init 7 13 0 := ⟨_, _, _, rfl, by decide, Or.inl ⟨zw1023, Or.inl rfl⟩⟩
theorem gJT_init_17 : zFldW mJT_init 17 13 1 := ⟨_, _, _, rfl, by decide, Or.inl ⟨zw1024, Or.inl rfl⟩⟩
theorem gJT_init_24 : zFldW mJT_init 24 13 2 := ⟨_, _, _, rfl, by decide, Or.inl ⟨zw1025, Or.inl rfl⟩⟩
theorem gJT_init_31 : zFldW mJT_init 31 13 3 := ⟨_, _, _, rfl, by decide, Or.inl ⟨zw1022, Or.inl rfl⟩⟩
theorem s0 : zshp 0 = 11 := rfl
theorem s1 : zshp 1 = 14 := rfl
theorem s10 : zshp 10 = 100 := rfl
theorem s11 : zshp 11 = 100 := rfl
theorem s12 : zshp 12 = 100 := rfl
theorem s13 : zshp 13 = 100 := rfl
theorem s14 : zshp 14 = 100 := rfl
theorem s15 : zshp 15 = 100 := rfl
theorem s16 : zshp 16 = 122 := rfl
theorem s17 : zshp 17 = 12 := rfl
theorem s18 : zshp 18 = 13 := rfl
theorem s19 : zshp 19 = 102 := rfl
theorem s20 : zshp 20 = 100 := rfl
theorem s21 : zshp 21 = 100 := rfl
theorem s22 : zshp 22 = 100 := rfl
theorem s23 : zshp 23 = 100 := rfl
theorem s24 : zshp 24 = 100 := rfl
theorem s25 : zshp 25 = 100 := rfl
theorem s26 : zshp 26 = 100 := rfl
theorem s27 : zshp 27 = 100 := rfl
theorem s28 : zshp 28 = 100 := rfl
theorem s29 : zshp 29 = 100 := rfl
theorem s30 : zshp 30 = 100 := rfl
theorem s31 : zshp 31 = 100 := rfl
theorem s32 : zshp 32 = 100 := rfl
theorem s33 : zshp 33 = 101 := rfl
theorem s34 : zshp 34 = 12 := rfl
theorem s35 : zshp 35 = 103 := rfl
theorem s36 : zshp 36 = 100 := rfl
theorem s37 : zshp 37 = 100 := rfl
theorem s38 : zshp 38 = 100 := rfl
theorem s39 : zshp 39 = 100 := rfl
theorem s40 : zshp 40 = 100 := rfl
theorem s50 : zshp 50 = 115 := rfl
theorem s51 : zshp 51 = 110 := rfl
theorem s52 : zshp 52 = 117 := rfl
theorem s53 : zshp 53 = 8 := rfl
theorem s54 : zshp 54 = 4 := rfl
theorem s55 : zshp 55 = 2 := rfl
theorem s56 : zshp 56 = 3 := rfl
theorem s57 : zshp 57 = 10 := rfl
theorem s58 : zshp 58 = 5 := rfl
theorem s59 : zshp 59 = 0 := rfl
theorem s60 : zshp 60 = 1 := rfl
theorem s61 : zshp 61 = 7 := rfl
theorem s62 : zshp 62 = 111 := rfl
theorem s63 : zshp 63 = 6 := rfl
theorem s64 : zshp 64 = 100 := rfl
theorem s65 : zshp 65 = 101 := rfl
theorem s66 : zshp 66 = 101 := rfl
theorem s67 : zshp 67 = 100 := rfl
theorem s68 : zshp 68 = 100 := rfl
theorem s69 : zshp 69 = 100 := rfl
theorem s70 : zshp 70 = 100 := rfl
theorem s71 : zshp 71 = 100 := rfl
theorem s72 : zshp 72 = 100 := rfl
theorem s73 : zshp 73 = 9 := rfl
theorem s74 : zshp 74 = 100 := rfl
theorem s75 : zshp 75 = 100 := rfl
theorem s76 : zshp 76 = 100 := rfl
theorem s77 : zshp 77 = 100 := rfl
theorem s78 : zshp 78 = 100 := rfl
theorem s79 : zshp 79 = 102 := rfl
theorem s80 : zshp 80 = 100 := rfl
theorem s81 : zshp 81 = 100 := rfl
theorem s82 : zshp 82 = 100 := rfl
theorem s83 : zshp 83 = 100 := rfl
end
section
-- HANDIER FORMS
section zROWS
variable {l : Launch} {M M2 : zM} {d d2 pc nx : Nat} {ls ls2 : List (Option zV)} {st : List zV} {h h2 h' : zH} {o o2 : zO} {Q : zO → zH → Prop}
/-- exactly this end -/
def Cx (l : Launch) (d : Nat) (M : zM) (as : List zV) (h : zH) (o : zO) (h2 : zH) : Prop := Ct l d M as h (fun o' h' => o' = o ∧ h' = h2)
/-- A METHOD'S CONTRACT out of its body -/
theorem Ct.ofF {as : List zV} (hok : zOK M) (hpl : plainFor (zMy M) = true) (hn : (zent as).length ≤ zMn M) (k : Wp l M d 0 (zent as) [] h Q) : Ct l d M as h Q := by
  obtain ⟨o, h', ⟨hle, hk⟩, hq⟩ := k
  refine ⟨o, h', ⟨hle, fun E ad => ?_⟩, hq⟩
  refine MetFree.of_bodySF (code := zMc M) (maxLocals := zMn M) (ret := zMr M) hpl ?_ ?_
  · intro args s m hpre hnm
    obtain ⟨m', meth, c, h1, h2, h3, h4, h5, h6, h7, h8, -⟩ := zMw_spec (atoms_spec (ws := zMw M :: zALL) hpre _ List.mem_cons_self)
    cases hnm.symm.trans h1
    exact ⟨meth, c, h2, h3, h4, h5, h7, h8⟩
  · intro p e s m args below meth c s₁ B hml hP _
    obtain ⟨rfl, hE, hp, hA, hal⟩ := hP
    have hts := atoms_spec (ws := zMw M :: zALL) B.pre
    obtain ⟨m', meth', c', h1, h2, h3, h4, h5, h6, h7, h8, -⟩ := zMw_spec (hts _ List.mem_cons_self)
    cases B.named.symm.trans h1
    cases B.method.symm.trans h2
    have hX := Stand.of_body B
    cases hX.code.symm.trans h3
    have cx : zCx l M d E p e (headSpec (zMw M :: zALL) (zrm d h h')).room s m ((as.map (zenc ad)).toArray) below meth c :=
      ⟨B.exec, B.bytes, B.returns, hml, findClass_of_methodNamed B.named, fun w hw => hts w (List.mem_cons_of_mem _ hw), B.notSynchronized, (name_of_methodNamed B.named B.method).1, h6, Nat.le_refl _, Nat.le_refl _, hA, hE⟩
    have hlen : (lg_sl (as.map (zenc ad))).length ≤ zMn M := by rw [zent_len]; exact hn
    have hl := lv_entry (as.map (zenc ad)) (n := zMn M) hlen
    have hh0 : s₁.heap = s.heap := by rw [B.state]; rfl
    have hz : zLo ad (zMn M) (zent as) ((lg_sl (as.map (zenc ad)) ++ List.replicate (zMn M - (lg_sl (as.map (zenc ad))).length) Slot.unset).toArray) :=
      ⟨hl.1, hl.2.1, fun i v hi => hl.2.2 (i, zenc ad v) (by have := zent_args (ad := ad) as 0 i v hi; rw [Nat.zero_add] at this; exact this)⟩
    have w := hk E p e _ s m _ below meth c s.heap [] 0 0 ad _ cx hp va_S.rf hz (fun v hv => by cases hv) (fun v hv => hal v (zent_mem hv)) (by show 0 + (zc h' - zc h) ≤ zc h' - zc h; omega) (by show 0 + (zs h' - zs h) ≤ zs h' - zs h; omega)
    obtain ⟨t, a1, b1, ad', b2, b3, b4, b5, b6, b7, L, b8, b9⟩ := w s₁ hh0 hX
    refine ⟨t, _, ?_, b1, b3, ⟨ad', b2, rfl, b4, b5, b6⟩, b7, L, by rw [Nat.zero_add, Nat.zero_add] at b8; exact b8, b9⟩
    rw [lg_entry_eq]
    exact a1
theorem Ct.in {as : List zV} (kp : Nat) (hok : zOK M) (hpl : plainFor (zMy M) = true) (hn : (zent as).length + kp ≤ zMn M) (k : Wp l M d 0 (zent as ++ List.replicate kp none) [] h Q) : Ct l d M as h Q := by
  refine Ct.ofF hok hpl (by omega) ?_
  obtain ⟨o, h', ⟨hle, hk⟩, hq⟩ := k
  refine ⟨o, h', ⟨hle, ?_⟩, hq⟩
  intro E p e R s m args below meth c H locs cells slots ad la cx hp hS hl ha hb hcc hdd
  refine hk E p e R s m args below meth c H locs cells slots ad la cx hp hS ⟨hl.1, hl.2.1, fun i v hi => ?_⟩ ha (fun v hv => ?_) hcc hdd
  · rcases Nat.lt_or_ge i (zent as).length with y | y
    · rw [List.getElem?_append_left y] at hi; exact hl.2.2 i v hi
    · rw [List.getElem?_append_right y] at hi
      rw [List.getElem?_replicate] at hi
      split at hi <;> cases hi
  · rcases List.mem_append.mp hv with y | y
    · exact hb v y
    · have := List.eq_of_mem_replicate y; cases this
theorem x_istore_n {k : Fin 4} {x : Int32} (hd : zAt M pc (.istore_n k) 1 nx) (hn : (k : Nat) < zMn M) (e : zput ls (k : Nat) (Vi x) = ls2) (kk : Wp l M d nx ls2 st h Q) : Wp l M d pc ls (Vi x :: st) h Q := w_istore_n hd hn (e ▸ kk)
theorem x_istore {i : Nat} {x : Int32} (hd : zAt M pc (.istore i) 2 nx) (hn : i < zMn M) (e : zput ls i (Vi x) = ls2) (kk : Wp l M d nx ls2 st h Q) : Wp l M d pc ls (Vi x :: st) h Q := w_istore hd hn (e ▸ kk)
theorem x_lstore_n {k : Fin 4} {x : Int64} (hd : zAt M pc (.lstore_n k) 1 nx) (hn : (k : Nat) + 1 < zMn M) (e : zput ls (k : Nat) (Vj x) = ls2) (kk : Wp l M d nx ls2 st h Q) : Wp l M d pc ls (Vj x :: st) h Q := w_lstore_n hd hn (e ▸ kk)
theorem x_lstore {i : Nat} {x : Int64} (hd : zAt M pc (.lstore i) 2 nx) (hn : i + 1 < zMn M) (e : zput ls i (Vj x) = ls2) (kk : Wp l M d nx ls2 st h Q) : Wp l M d pc ls (Vj x :: st) h Q := w_lstore hd hn (e ▸ kk)
theorem x_astore_n {k : Fin 4} {q : Option zRf} (hd : zAt M pc (.astore_n k) 1 nx) (hn : (k : Nat) < zMn M) (e : zput ls (k : Nat) (Vq q) = ls2) (kk : Wp l M d nx ls2 st h Q) : Wp l M d pc ls (Vq q :: st) h Q := w_astore_n hd hn (e ▸ kk)
theorem x_astore {i : Nat} {q : Option zRf} (hd : zAt M pc (.astore i) 2 nx) (hn : i < zMn M) (e : zput ls i (Vq q) = ls2) (kk : Wp l M d nx ls2 st h Q) : Wp l M d pc ls (Vq q :: st) h Q := w_astore hd hn (e ▸ kk)
theorem x_iinc {i : Nat} {n : Int} {x v : Int32} (hd : zAt M pc (.iinc i n) 3 nx) (hx : ls[i]? = some (some (Vi x))) (hv : x + Int32.ofInt n = v) (e : zput ls i (Vi v) = ls2) (kk : Wp l M d nx ls2 st h Q) : Wp l M d pc ls st h Q := w_iinc hd hx hv (e ▸ kk)
-- arrays by a known length
theorem x_iaload {k i : Nat} {x : Int32} (n L : Nat) (hd : zAt M pc .iaload 1 nx) (hs : zshp k = 100) (hr : k < 900) (hL : zN h k i = L) (hb : L < 2 ^ 31) (hx : x = nI n) (hn : n < L) (kk : Wp l M d nx ls (Vi (zI h k i n) :: st) h Q) : Wp l M d pc ls (Vi x :: Vq (some (k, i)) :: st) h Q := w_iaload n hd hs hr hx (by rw [hL]; exact hn) (by rw [hL]; exact hb) kk
theorem x_baload {k i : Nat} {x : Int32} (n L : Nat) (hd : zAt M pc .baload 1 nx) (hs : zshp k = 102) (hr : k < 900) (hL : zN h k i = L) (hb : L < 2 ^ 31) (hx : x = nI n) (hn : n < L) (kk : Wp l M d nx ls (Vi (zI h k i n) :: st) h Q) : Wp l M d pc ls (Vi x :: Vq (some (k, i)) :: st) h Q := w_baload n hd hs hr hx (by rw [hL]; exact hn) (by rw [hL]; exact hb) kk
theorem x_zaload {k i : Nat} {x : Int32} (n L : Nat) (hd : zAt M pc .baload 1 nx) (hs : zshp k = 103) (hr : k < 900) (hL : zN h k i = L) (hb : L < 2 ^ 31) (hx : x = nI n) (hn : n < L) (kk : Wp l M d nx ls (Vi (zI h k i n) :: st) h Q) : Wp l M d pc ls (Vi x :: Vq (some (k, i)) :: st) h Q := w_zaload n hd hs hr hx (by rw [hL]; exact hn) (by rw [hL]; exact hb) kk
theorem x_laload {k i : Nat} {x : Int32} (n L : Nat) (hd : zAt M pc .laload 1 nx) (hs : zshp k = 101) (hr : k < 900) (hL : zN h k i = L) (hb : L < 2 ^ 31) (hx : x = nI n) (hn : n < L) (kk : Wp l M d nx ls (Vj (zL h k i n) :: st) h Q) : Wp l M d pc ls (Vi x :: Vq (some (k, i)) :: st) h Q := w_laload n hd hs hr hx (by rw [hL]; exact hn) (by rw [hL]; exact hb) kk
theorem x_aaload {k i : Nat} {x : Int32} {q : Option zRf} (n L : Nat) (hd : zAt M pc .aaload 1 nx) (hs : 110 ≤ zshp k) (hr : k < 900) (he : ∃ C, zel (zshp k) = .object C) (hL : zN h k i = L) (hb : L < 2 ^ 31) (hx : x = nI n) (hn : n < L) (hq : zR h k i n = q) (kk : Wp l M d nx ls (Vq q :: st) h Q) : Wp l M d pc ls (Vi x :: Vq (some (k, i)) :: st) h Q := w_aaload n hd hs hr hx (by rw [hL]; exact hn) (by rw [hL]; exact hb) he hq kk
theorem x_iastore {k i : Nat} {x v : Int32} (n L : Nat) (hd : zAt M pc .iastore 1 nx) (hs : zshp k = 100) (hr : k < 900) (hL : zN h k i = L) (hb : L < 2 ^ 31) (hx : x = nI n) (hn : n < L) (kk : Wp l M d nx ls st (zsI h k i n v) Q) : Wp l M d pc ls (Vi v :: Vi x :: Vq (some (k, i)) :: st) h Q := w_iastore n hd hs hr hx (by rw [hL]; exact hn) (by rw [hL]; exact hb) kk
theorem x_bastore {k i : Nat} {x v : Int32} (n L : Nat) (hd : zAt M pc .bastore 1 nx) (hs : zshp k = 102) (hr : k < 900) (hL : zN h k i = L) (hb : L < 2 ^ 31) (hx : x = nI n) (hn : n < L) (kk : Wp l M d nx ls st (zsI h k i n (vp_nar .byte v)) Q) : Wp l M d pc ls (Vi v :: Vi x :: Vq (some (k, i)) :: st) h Q := w_bastore n hd hs hr hx (by rw [hL]; exact hn) (by rw [hL]; exact hb) kk
theorem x_zastore {k i : Nat} {x v : Int32} (n L : Nat) (hd : zAt M pc .bastore 1 nx) (hs : zshp k = 103) (hr : k < 900) (hL : zN h k i = L) (hb : L < 2 ^ 31) (hx : x = nI n) (hn : n < L) (kk : Wp l M d nx ls st (zsI h k i n (vp_nar .boolean v)) Q) : Wp l M d pc ls (Vi v :: Vi x :: Vq (some (k, i)) :: st) h Q := w_zastore n hd hs hr hx (by rw [hL]; exact hn) (by rw [hL]; exact hb) kk
theorem x_lastore {k i : Nat} {x : Int32} {v : Int64} (n L : Nat) (hd : zAt M pc .lastore 1 nx) (hs : zshp k = 101) (hr : k < 900) (hL : zN h k i = L) (hb : L < 2 ^ 31) (hx : x = nI n) (hn : n < L) (kk : Wp l M d nx ls st (zsL h k i n v) Q) : Wp l M d pc ls (Vj v :: Vi x :: Vq (some (k, i)) :: st) h Q := w_lastore n hd hs hr hx (by rw [hL]; exact hn) (by rw [hL]; exact hb) kk
theorem x_aastore {k i ci : Nat} {x : Int32} {r' : zRf} (n L : Nat) (hd : zAt M pc .aastore 1 nx) (hs : zshp k = 110 + ci) (hr : k < 900) (hs' : zshp r'.1 = ci) (hci : ci < 15) (hr' : r'.1 < 900) (hL : zN h k i = L) (hb : L < 2 ^ 31) (hx : x = nI n) (hn : n < L) (kk : Wp l M d nx ls st (zsR h k i n (some r')) Q) : Wp l M d pc ls (Vq (some r') :: Vi x :: Vq (some (k, i)) :: st) h Q := w_aastore n hd hs hr hs' hci hr' hx (by rw [hL]; exact hn) (by rw [hL]; exact hb) kk
-- calls by the number of arguments
def zct (M : zM) (pc : Nat) : Bool := (zMh M).all (fun x => !(decide (x.1 ≤ pc) && decide (pc < x.2.1)))
theorem zct_out {M : zM} {pc : Nat} (h : zct M pc = true) : ∀ x ∈ zMh M, ¬ (x.1 ≤ pc ∧ pc < x.2.1) := by
  intro x hx ⟨a, b⟩
  have := List.all_eq_true.mp h x hx
  simp [a, b] at this
theorem x_call0  {Qc : zO → zH → Prop} (hM : Ct l d2 M2 [] h Qc) (hd : d2 + 1 ≤ d) (hok : zOK M2) (hr : zRdy l M d pc M2 [] h) (hw : (st.map zcat).sum ≤ 8) (hn : nx = pc + 3) (hc : zct M pc = true)
    (kr : ∀ (v : Option zV) (h2 : zH), Qc (Sum.inl v) h2 → Wp l M d nx ls (v.toList ++ st) h2 Q) (kt : ∀ (r : zRf) (h2 : zH), Qc (Sum.inr r) h2 → Q (Sum.inr r) h2) : Wp l M d pc ls (st) h Q :=
  w_call (as := []) (st := st) hM hd hok hr hw hn (zct_out hc) kr kt
theorem x_callv0  {v : zV} (hM : Cx l d2 M2 [] h (Sum.inl (some v)) h2) (hd : d2 + 1 ≤ d) (hok : zOK M2) (hr : zRdy l M d pc M2 [] h) (hw : (st.map zcat).sum ≤ 8) (hn : nx = pc + 3) (hc : zct M pc = true) (kr : Wp l M d nx ls (v :: st) h2 Q) : Wp l M d pc ls (st) h Q :=
  x_call0 (Qc := fun o' h' => o' = Sum.inl (some v) ∧ h' = h2) hM hd hok hr hw hn hc (fun w h3 hq => by
    obtain ⟨e1, e2⟩ := hq
    cases e1
    rw [e2]
    exact kr) (fun r h3 hq => by cases hq.1)
theorem x_callu0  (hM : Cx l d2 M2 [] h (Sum.inl none) h2) (hd : d2 + 1 ≤ d) (hok : zOK M2) (hr : zRdy l M d pc M2 [] h) (hw : (st.map zcat).sum ≤ 8) (hn : nx = pc + 3) (hc : zct M pc = true) (kr : Wp l M d nx ls st h2 Q) : Wp l M d pc ls (st) h Q :=
  x_call0 (Qc := fun o' h' => o' = Sum.inl none ∧ h' = h2) hM hd hok hr hw hn hc (fun w h3 hq => by
    obtain ⟨e1, e2⟩ := hq
    cases e1
    rw [e2]
    exact kr) (fun r h3 hq => by cases hq.1)
theorem x_call1 {a0 : zV} {Qc : zO → zH → Prop} (hM : Ct l d2 M2 [a0] h Qc) (hd : d2 + 1 ≤ d) (hok : zOK M2) (hr : zRdy l M d pc M2 [a0] h) (hw : (st.map zcat).sum ≤ 8) (hn : nx = pc + 3) (hc : zct M pc = true)
    (kr : ∀ (v : Option zV) (h2 : zH), Qc (Sum.inl v) h2 → Wp l M d nx ls (v.toList ++ st) h2 Q) (kt : ∀ (r : zRf) (h2 : zH), Qc (Sum.inr r) h2 → Q (Sum.inr r) h2) : Wp l M d pc ls (a0 :: st) h Q :=
  w_call (as := [a0]) (st := st) hM hd hok hr hw hn (zct_out hc) kr kt
theorem x_callv1 {a0 : zV} {v : zV} (hM : Cx l d2 M2 [a0] h (Sum.inl (some v)) h2) (hd : d2 + 1 ≤ d) (hok : zOK M2) (hr : zRdy l M d pc M2 [a0] h) (hw : (st.map zcat).sum ≤ 8) (hn : nx = pc + 3) (hc : zct M pc = true) (kr : Wp l M d nx ls (v :: st) h2 Q) : Wp l M d pc ls (a0 :: st) h Q :=
  x_call1 (Qc := fun o' h' => o' = Sum.inl (some v) ∧ h' = h2) hM hd hok hr hw hn hc (fun w h3 hq => by
    obtain ⟨e1, e2⟩ := hq
    cases e1
    rw [e2]
    exact kr) (fun r h3 hq => by cases hq.1)
theorem x_callu1 {a0 : zV} (hM : Cx l d2 M2 [a0] h (Sum.inl none) h2) (hd : d2 + 1 ≤ d) (hok : zOK M2) (hr : zRdy l M d pc M2 [a0] h) (hw : (st.map zcat).sum ≤ 8) (hn : nx = pc + 3) (hc : zct M pc = true) (kr : Wp l M d nx ls st h2 Q) : Wp l M d pc ls (a0 :: st) h Q :=
  x_call1 (Qc := fun o' h' => o' = Sum.inl none ∧ h' = h2) hM hd hok hr hw hn hc (fun w h3 hq => by
    obtain ⟨e1, e2⟩ := hq
    cases e1
    rw [e2]
    exact kr) (fun r h3 hq => by cases hq.1)
theorem x_call2 {a0 : zV} {a1 : zV} {Qc : zO → zH → Prop} (hM : Ct l d2 M2 [a0, a1] h Qc) (hd : d2 + 1 ≤ d) (hok : zOK M2) (hr : zRdy l M d pc M2 [a0, a1] h) (hw : (st.map zcat).sum ≤ 8) (hn : nx = pc + 3) (hc : zct M pc = true)
    (kr : ∀ (v : Option zV) (h2 : zH), Qc (Sum.inl v) h2 → Wp l M d nx ls (v.toList ++ st) h2 Q) (kt : ∀ (r : zRf) (h2 : zH), Qc (Sum.inr r) h2 → Q (Sum.inr r) h2) : Wp l M d pc ls (a1 :: a0 :: st) h Q :=
  w_call (as := [a0, a1]) (st := st) hM hd hok hr hw hn (zct_out hc) kr kt
theorem x_callv2 {a0 : zV} {a1 : zV} {v : zV} (hM : Cx l d2 M2 [a0, a1] h (Sum.inl (some v)) h2) (hd : d2 + 1 ≤ d) (hok : zOK M2) (hr : zRdy l M d pc M2 [a0, a1] h) (hw : (st.map zcat).sum ≤ 8) (hn : nx = pc + 3) (hc : zct M pc = true) (kr : Wp l M d nx ls (v :: st) h2 Q) : Wp l M d pc ls (a1 :: a0 :: st) h Q :=
  x_call2 (Qc := fun o' h' => o' = Sum.inl (some v) ∧ h' = h2) hM hd hok hr hw hn hc (fun w h3 hq => by
    obtain ⟨e1, e2⟩ := hq
    cases e1
    rw [e2]
    exact kr) (fun r h3 hq => by cases hq.1)
theorem x_callu2 {a0 : zV} {a1 : zV} (hM : Cx l d2 M2 [a0, a1] h (Sum.inl none) h2) (hd : d2 + 1 ≤ d) (hok : zOK M2) (hr : zRdy l M d pc M2 [a0, a1] h) (hw : (st.map zcat).sum ≤ 8) (hn : nx = pc + 3) (hc : zct M pc = true) (kr : Wp l M d nx ls st h2 Q) : Wp l M d pc ls (a1 :: a0 :: st) h Q :=
  x_call2 (Qc := fun o' h' => o' = Sum.inl none ∧ h' = h2) hM hd hok hr hw hn hc (fun w h3 hq => by
    obtain ⟨e1, e2⟩ := hq
    cases e1
    rw [e2]
    exact kr) (fun r h3 hq => by cases hq.1)
theorem x_call3 {a0 : zV} {a1 : zV} {a2 : zV} {Qc : zO → zH → Prop} (hM : Ct l d2 M2 [a0, a1, a2] h Qc) (hd : d2 + 1 ≤ d) (hok : zOK M2) (hr : zRdy l M d pc M2 [a0, a1, a2] h) (hw : (st.map zcat).sum ≤ 8) (hn : nx = pc + 3) (hc : zct M pc = true)
    (kr : ∀ (v : Option zV) (h2 : zH), Qc (Sum.inl v) h2 → Wp l M d nx ls (v.toList ++ st) h2 Q) (kt : ∀ (r : zRf) (h2 : zH), Qc (Sum.inr r) h2 → Q (Sum.inr r) h2) : Wp l M d pc ls (a2 :: a1 :: a0 :: st) h Q :=
  w_call (as := [a0, a1, a2]) (st := st) hM hd hok hr hw hn (zct_out hc) kr kt
theorem x_callv3 {a0 : zV} {a1 : zV} {a2 : zV} {v : zV} (hM : Cx l d2 M2 [a0, a1, a2] h (Sum.inl (some v)) h2) (hd : d2 + 1 ≤ d) (hok : zOK M2) (hr : zRdy l M d pc M2 [a0, a1, a2] h) (hw : (st.map zcat).sum ≤ 8) (hn : nx = pc + 3) (hc : zct M pc = true) (kr : Wp l M d nx ls (v :: st) h2 Q) : Wp l M d pc ls (a2 :: a1 :: a0 :: st) h Q :=
  x_call3 (Qc := fun o' h' => o' = Sum.inl (some v) ∧ h' = h2) hM hd hok hr hw hn hc (fun w h3 hq => by
    obtain ⟨e1, e2⟩ := hq
    cases e1
    rw [e2]
    exact kr) (fun r h3 hq => by cases hq.1)
theorem x_callu3 {a0 : zV} {a1 : zV} {a2 : zV} (hM : Cx l d2 M2 [a0, a1, a2] h (Sum.inl none) h2) (hd : d2 + 1 ≤ d) (hok : zOK M2) (hr : zRdy l M d pc M2 [a0, a1, a2] h) (hw : (st.map zcat).sum ≤ 8) (hn : nx = pc + 3) (hc : zct M pc = true) (kr : Wp l M d nx ls st h2 Q) : Wp l M d pc ls (a2 :: a1 :: a0 :: st) h Q :=
  x_call3 (Qc := fun o' h' => o' = Sum.inl none ∧ h' = h2) hM hd hok hr hw hn hc (fun w h3 hq => by
    obtain ⟨e1, e2⟩ := hq
    cases e1
    rw [e2]
    exact kr) (fun r h3 hq => by cases hq.1)
theorem x_call4 {a0 : zV} {a1 : zV} {a2 : zV} {a3 : zV} {Qc : zO → zH → Prop} (hM : Ct l d2 M2 [a0, a1, a2, a3] h Qc) (hd : d2 + 1 ≤ d) (hok : zOK M2) (hr : zRdy l M d pc M2 [a0, a1, a2, a3] h) (hw : (st.map zcat).sum ≤ 8) (hn : nx = pc + 3) (hc : zct M pc = true)
    (kr : ∀ (v : Option zV) (h2 : zH), Qc (Sum.inl v) h2 → Wp l M d nx ls (v.toList ++ st) h2 Q) (kt : ∀ (r : zRf) (h2 : zH), Qc (Sum.inr r) h2 → Q (Sum.inr r) h2) : Wp l M d pc ls (a3 :: a2 :: a1 :: a0 :: st) h Q :=
  w_call (as := [a0, a1, a2, a3]) (st := st) hM hd hok hr hw hn (zct_out hc) kr kt
theorem x_callv4 {a0 : zV} {a1 : zV} {a2 : zV} {a3 : zV} {v : zV} (hM : Cx l d2 M2 [a0, a1, a2, a3] h (Sum.inl (some v)) h2) (hd : d2 + 1 ≤ d) (hok : zOK M2) (hr : zRdy l M d pc M2 [a0, a1, a2, a3] h) (hw : (st.map zcat).sum ≤ 8) (hn : nx = pc + 3) (hc : zct M pc = true) (kr : Wp l M d nx ls (v :: st) h2 Q) : Wp l M d pc ls (a3 :: a2 :: a1 :: a0 :: st) h Q :=
  x_call4 (Qc := fun o' h' => o' = Sum.inl (some v) ∧ h' = h2) hM hd hok hr hw hn hc (fun w h3 hq => by
    obtain ⟨e1, e2⟩ := hq
    cases e1
    rw [e2]
    exact kr) (fun r h3 hq => by cases hq.1)
theorem x_callu4 {a0 : zV} {a1 : zV} {a2 : zV} {a3 : zV} (hM : Cx l d2 M2 [a0, a1, a2, a3] h (Sum.inl none) h2) (hd : d2 + 1 ≤ d) (hok : zOK M2) (hr : zRdy l M d pc M2 [a0, a1, a2, a3] h) (hw : (st.map zcat).sum ≤ 8) (hn : nx = pc + 3) (hc : zct M pc = true) (kr : Wp l M d nx ls st h2 Q) : Wp l M d pc ls (a3 :: a2 :: a1 :: a0 :: st) h Q :=
  x_call4 (Qc := fun o' h' => o' = Sum.inl none ∧ h' = h2) hM hd hok hr hw hn hc (fun w h3 hq => by
    obtain ⟨e1, e2⟩ := hq
    cases e1
    rw [e2]
    exact kr) (fun r h3 hq => by cases hq.1)
theorem x_call5 {a0 : zV} {a1 : zV} {a2 : zV} {a3 : zV} {a4 : zV} {Qc : zO → zH → Prop} (hM : Ct l d2 M2 [a0, a1, a2, a3, a4] h Qc) (hd : d2 + 1 ≤ d) (hok : zOK M2) (hr : zRdy l M d pc M2 [a0, a1, a2, a3, a4] h) (hw : (st.map zcat).sum ≤ 8) (hn : nx = pc + 3) (hc : zct M pc = true)
    (kr : ∀ (v : Option zV) (h2 : zH), Qc (Sum.inl v) h2 → Wp l M d nx ls (v.toList ++ st) h2 Q) (kt : ∀ (r : zRf) (h2 : zH), Qc (Sum.inr r) h2 → Q (Sum.inr r) h2) : Wp l M d pc ls (a4 :: a3 :: a2 :: a1 :: a0 :: st) h Q :=
  w_call (as := [a0, a1, a2, a3, a4]) (st := st) hM hd hok hr hw hn (zct_out hc) kr kt
theorem x_callv5 {a0 : zV} {a1 : zV} {a2 : zV} {a3 : zV} {a4 : zV} {v : zV} (hM : Cx l d2 M2 [a0, a1, a2, a3, a4] h (Sum.inl (some v)) h2) (hd : d2 + 1 ≤ d) (hok : zOK M2) (hr : zRdy l M d pc M2 [a0, a1, a2, a3, a4] h) (hw : (st.map zcat).sum ≤ 8) (hn : nx = pc + 3) (hc : zct M pc = true) (kr : Wp l M d nx ls (v :: st) h2 Q) : Wp l M d pc ls (a4 :: a3 :: a2 :: a1 :: a0 :: st) h Q :=
  x_call5 (Qc := fun o' h' => o' = Sum.inl (some v) ∧ h' = h2) hM hd hok hr hw hn hc (fun w h3 hq => by
    obtain ⟨e1, e2⟩ := hq
    cases e1
    rw [e2]
    exact kr) (fun r h3 hq => by cases hq.1)
theorem x_callu5 {a0 : zV} {a1 : zV} {a2 : zV} {a3 : zV} {a4 : zV} (hM : Cx l d2 M2 [a0, a1, a2, a3, a4] h (Sum.inl none) h2) (hd : d2 + 1 ≤ d) (hok : zOK M2) (hr : zRdy l M d pc M2 [a0, a1, a2, a3, a4] h) (hw : (st.map zcat).sum ≤ 8) (hn : nx = pc + 3) (hc : zct M pc = true) (kr : Wp l M d nx ls st h2 Q) : Wp l M d pc ls (a4 :: a3 :: a2 :: a1 :: a0 :: st) h Q :=
  x_call5 (Qc := fun o' h' => o' = Sum.inl none ∧ h' = h2) hM hd hok hr hw hn hc (fun w h3 hq => by
    obtain ⟨e1, e2⟩ := hq
    cases e1
    rw [e2]
    exact kr) (fun r h3 hq => by cases hq.1)
theorem x_call6 {a0 : zV} {a1 : zV} {a2 : zV} {a3 : zV} {a4 : zV} {a5 : zV} {Qc : zO → zH → Prop} (hM : Ct l d2 M2 [a0, a1, a2, a3, a4, a5] h Qc) (hd : d2 + 1 ≤ d) (hok : zOK M2) (hr : zRdy l M d pc M2 [a0, a1, a2, a3, a4, a5] h) (hw : (st.map zcat).sum ≤ 8) (hn : nx = pc + 3) (hc : zct M pc = true)
    (kr : ∀ (v : Option zV) (h2 : zH), Qc (Sum.inl v) h2 → Wp l M d nx ls (v.toList ++ st) h2 Q) (kt : ∀ (r : zRf) (h2 : zH), Qc (Sum.inr r) h2 → Q (Sum.inr r) h2) : Wp l M d pc ls (a5 :: a4 :: a3 :: a2 :: a1 :: a0 :: st) h Q :=
  w_call (as := [a0, a1, a2, a3, a4, a5]) (st := st) hM hd hok hr hw hn (zct_out hc) kr kt
theorem x_callv6 {a0 : zV} {a1 : zV} {a2 : zV} {a3 : zV} {a4 : zV} {a5 : zV} {v : zV} (hM : Cx l d2 M2 [a0, a1, a2, a3, a4, a5] h (Sum.inl (some v)) h2) (hd : d2 + 1 ≤ d) (hok : zOK M2) (hr : zRdy l M d pc M2 [a0, a1, a2, a3, a4, a5] h) (hw : (st.map zcat).sum ≤ 8) (hn : nx = pc + 3) (hc : zct M pc = true) (kr : Wp l M d nx ls (v :: st) h2 Q) : Wp l M d pc ls (a5 :: a4 :: a3 :: a2 :: a1 :: a0 :: st) h Q :=
  x_call6 (Qc := fun o' h' => o' = Sum.inl (some v) ∧ h' = h2) hM hd hok hr hw hn hc (fun w h3 hq => by
    obtain ⟨e1, e2⟩ := hq
    cases e1
    rw [e2]
    exact kr) (fun r h3 hq => by cases hq.1)
theorem x_callu6 {a0 : zV} {a1 : zV} {a2 : zV} {a3 : zV} {a4 : zV} {a5 : zV} (hM : Cx l d2 M2 [a0, a1, a2, a3, a4, a5] h (Sum.inl none) h2) (hd : d2 + 1 ≤ d) (hok : zOK M2) (hr : zRdy l M d pc M2 [a0, a1, a2, a3, a4, a5] h) (hw : (st.map zcat).sum ≤ 8) (hn : nx = pc + 3) (hc : zct M pc = true) (kr : Wp l M d nx ls st h2 Q) : Wp l M d pc ls (a5 :: a4 :: a3 :: a2 :: a1 :: a0 :: st) h Q :=
  x_call6 (Qc := fun o' h' => o' = Sum.inl none ∧ h' = h2) hM hd hok hr hw hn hc (fun w h3 hq => by
    obtain ⟨e1, e2⟩ := hq
    cases e1
    rw [e2]
    exact kr) (fun r h3 hq => by cases hq.1)
end zROWS
end
section
-- THE WIRING, by program (wip/gen/p18.py)
def wcR : List ((Nat × Nat) × Nat) := [((0, 0), 50), ((0, 1), 51), ((0, 2), 52), ((0, 3), 53), ((0, 4), 54), ((0, 5), 55), ((0, 6), 56), ((0, 7), 57), ((53, 0), 79), ((54, 0), 73), ((54, 1), 74), ((55, 0), 62), ((55, 1), 63), ((56, 0), 64), ((56, 1), 65), ((56, 2), 66), ((56, 3), 67), ((56, 4), 68), ((56, 5), 69), ((56, 6), 70), ((56, 7), 71), ((56, 8), 72), ((57, 0), 82), ((57, 1), 83), ((63, 0), 78), ((73, 0), 80), ((73, 1), 81)]
def wmR : List ((Nat × Nat) × Nat) := [((1, 8), 10), ((1, 9), 11), ((1, 10), 12), ((1, 11), 13), ((1, 12), 14), ((1, 13), 15), ((1, 15), 16), ((1, 17), 18), ((1, 18), 19), ((1, 29), 20), ((1, 30), 21), ((1, 31), 22), ((1, 32), 23), ((1, 33), 24), ((1, 34), 25), ((1, 36), 26), ((1, 37), 27), ((1, 41), 28), ((1, 42), 29), ((1, 43), 30), ((1, 44), 31), ((1, 45), 32), ((1, 46), 33)]
def wcN : List (Nat × Nat) := [(50, 10), (51, 16), (52, 8), (62, 30), (64, 10), (65, 10), (66, 10), (67, 10), (68, 10), (69, 10), (70, 16), (71, 16), (72, 16), (74, 301), (78, 32), (79, 300), (80, 301), (81, 301), (82, 3), (83, 16)]
def wmN : List (Nat × Nat) := [(10, 10), (11, 10), (12, 16), (13, 16), (14, 16), (15, 16), (16, 30), (19, 300), (20, 320), (21, 10), (22, 10), (23, 100), (24, 10), (25, 10), (26, 16), (27, 16), (28, 8), (29, 8), (30, 8), (31, 8), (32, 8), (33, 8)]
/-- the class's objects: fields, lengths; provinces; borders; stores; edicts -/
def Wc (h : zH) : Prop := (∀ q ∈ wcR, zR h q.1.1 0 q.1.2 = some (q.2, 0)) ∧ (∀ q ∈ wcN, zN h q.1 0 = q.2) ∧
  (zC h 76 = zC h 58 ∧ zC h 77 = zC h 58 ∧ ∀ i, i < zC h 58 → zR h 50 0 i = some (58, i) ∧ zR h 58 i 2 = some (76, i) ∧ zR h 58 i 3 = some (77, i) ∧ zN h 76 i = 100 ∧ zN h 77 i = 100) ∧
  (∀ i, i < zC h 59 → zR h 51 0 i = some (59, i)) ∧ (∀ i, i < zC h 61 → zR h 52 0 i = some (61, i)) ∧ (zC h 75 = zC h 60 ∧ ∀ i, i < zC h 60 → zR h 62 0 i = some (60, i) ∧ zR h 60 i 2 = some (75, i))
/-- the model's objects -/
def Wm (h : zH) : Prop := (∀ q ∈ wmR, zR h q.1.1 0 q.1.2 = some (q.2, 0)) ∧ (∀ q ∈ wmN, zN h q.1 0 = q.2) ∧ (0 < zC h 17 ∧ zR h 1 0 16 = some (17, zC h 17 - 1) ∧ ∀ i, i + 1 < zC h 17 → zR h 16 0 i = some (17, i)) ∧
  (zC h 35 = zC h 17 ∧ zC h 36 = zC h 17 ∧ zC h 37 = zC h 17 ∧ zC h 38 = zC h 17 ∧ zC h 39 = zC h 17 ∧ zC h 40 = zC h 17) ∧
  ∀ i, i < zC h 17 → (zR h 17 i 4 = some (35, i) ∧ zR h 17 i 5 = some (36, i) ∧ zR h 17 i 6 = some (37, i) ∧ zR h 17 i 7 = some (38, i) ∧ zR h 17 i 8 = some (39, i) ∧ zR h 17 i 9 = some (40, i)) ∧
    zN h 35 i = 12 ∧ zN h 36 i = 12 ∧ zN h 37 i = 12 ∧ zN h 38 i = 12 ∧ zN h 39 i = 320 ∧ zN h 40 i = 320
theorem wcr {h : zH} (hW : Wc h) (i : Nat) {k j t : Nat} (hi : wcR[i]? = some ((k, j), t)) : zR h k 0 j = some (t, 0) := hW.1 _ (List.mem_of_getElem? hi)
theorem wcn {h : zH} (hW : Wc h) (i : Nat) {k n : Nat} (hi : wcN[i]? = some (k, n)) : zN h k 0 = n := hW.2.1 _ (List.mem_of_getElem? hi)
theorem wmr {h : zH} (hW : Wm h) (i : Nat) {k j t : Nat} (hi : wmR[i]? = some ((k, j), t)) : zR h k 0 j = some (t, 0) := hW.1 _ (List.mem_of_getElem? hi)
theorem wmn {h : zH} (hW : Wm h) (i : Nat) {k n : Nat} (hi : wmN[i]? = some (k, n)) : zN h k 0 = n := hW.2.1 _ (List.mem_of_getElem? hi)
theorem Wc.same {h h2 : zH} (e : h2.2.2 = h.2.2) (hW : Wc h) : Wc h2 := by
  have e1 : zR h2 = zR h := by unfold zR; rw [e]
  have e2 : zN h2 = zN h := by unfold zN; rw [e]
  have e3 : zC h2 = zC h := by unfold zC; rw [e]
  unfold Wc
  rw [e1, e2, e3]
  exact hW
theorem Wm.same {h h2 : zH} (e : h2.2.2 = h.2.2) (hW : Wm h) : Wm h2 := by
  have e1 : zR h2 = zR h := by unfold zR; rw [e]
  have e2 : zN h2 = zN h := by unfold zN; rw [e]
  have e3 : zC h2 = zC h := by unfold zC; rw [e]
  unfold Wm
  rw [e1, e2, e3]
  exact hW
/-- truth as the machine has it -/
def zb (p : Prop) [Decidable p] : Int32 := if p then 1 else 0
theorem zb_t {p : Prop} [Decidable p] (h : p) : zb p = 1 := if_pos h
theorem zb_f {p : Prop} [Decidable p] (h : ¬ p) : zb p = 0 := if_neg h
theorem zb_0 {p : Prop} [Decidable p] : zb p = 0 ↔ ¬ p := by
  by_cases h : p
  · rw [zb_t h]; exact ⟨fun q => absurd q (by decide), fun q => absurd h q⟩
  · rw [zb_f h]; exact ⟨fun _ => h, fun _ => rfl⟩
theorem zb_n {p : Prop} [Decidable p] : ¬ zb p = 0 ↔ p := by rw [zb_0]; exact Decidable.not_not
theorem zb_nar {p : Prop} [Decidable p] : narrow .boolean (.int (zb p)) = .int (zb p) := by
  by_cases h : p
  · rw [zb_t h]; rfl
  · rw [zb_f h]; rfl
theorem zb_c {p q : Prop} [Decidable p] [Decidable q] (h : p ↔ q) : zb p = zb q := by
  by_cases hp : p
  · rw [zb_t hp, zb_t (h.mp hp)]
  · rw [zb_f hp, zb_f (fun z => hp (h.mpr z))]
theorem pd_0 : (parseMethodDescriptor "(III)V").map (fun s => s.parameters.length) = some 3 := by decide +kernel
theorem pX0_init : zpar mX0_init 3 := pd_0
theorem pd_1 : (parseMethodDescriptor "(II[I)V").map (fun s => s.parameters.length) = some 3 := by decide +kernel
theorem pX1_init : zpar mX1_init 3 := pd_1
theorem pd_2 : (parseMethodDescriptor "()V").map (fun s => s.parameters.length) = some 0 := by decide +kernel
theorem pX2_init : zpar mX2_init 0 := pd_2
theorem pd_3 : (parseMethodDescriptor "()Z").map (fun s => s.parameters.length) = some 0 := by decide +kernel
theorem pX2_isFull : zpar mX2_isFull 0 := pd_3
theorem pd_4 : (parseMethodDescriptor "(LSaltFarm$Edict;)I").map (fun s => s.parameters.length) = some 1 := by decide +kernel
theorem pX2_add : zpar mX2_add 1 := pd_4
theorem pd_5 : (parseMethodDescriptor "(II)I").map (fun s => s.parameters.length) = some 2 := by decide +kernel
theorem pX2_numberInForce : zpar mX2_numberInForce 2 := pd_5
theorem pd_6 : (parseMethodDescriptor "(LSaltFarm$Province;II)V").map (fun s => s.parameters.length) = some 3 := by decide +kernel
theorem pX2_learn : zpar mX2_learn 3 := pd_6
theorem pX2_learnYear : zpar mX2_learnYear 3 := pd_6
theorem pX3_init : zpar mX3_init 0 := pd_2
theorem pd_7 : (parseMethodDescriptor "(ILSaltFarm$Province;I)V").map (fun s => s.parameters.length) = some 3 := by decide +kernel
theorem pX3_seat : zpar mX3_seat 3 := pd_7
theorem pd_8 : (parseMethodDescriptor "(IIII)V").map (fun s => s.parameters.length) = some 4 := by decide +kernel
theorem pX3_join : zpar mX3_join 4 := pd_8
theorem pX3_settle : zpar mX3_settle 0 := pd_2
theorem pd_9 : (parseMethodDescriptor "(I)I").map (fun s => s.parameters.length) = some 1 := by decide +kernel
theorem pX3_leastCost : zpar mX3_leastCost 1 := pd_9
theorem pX3_sourceOf : zpar mX3_sourceOf 1 := pd_9
theorem pX3_costBetween : zpar mX3_costBetween 2 := pd_5
theorem pd_10 : (parseMethodDescriptor "(I)J").map (fun s => s.parameters.length) = some 1 := by decide +kernel
theorem pX3_takenOf : zpar mX3_takenOf 1 := pd_10
theorem pd_11 : (parseMethodDescriptor "()J").map (fun s => s.parameters.length) = some 0 := by decide +kernel
theorem pX3_takenInAll : zpar mX3_takenInAll 0 := pd_11
theorem pX3_lostInAll : zpar mX3_lostInAll 0 := pd_11
theorem pX3_carriedOver : zpar mX3_carriedOver 1 := pd_10
theorem pd_12 : (parseMethodDescriptor "(I)V").map (fun s => s.parameters.length) = some 1 := by decide +kernel
theorem pX3_trace : zpar mX3_trace 1 := pd_12
theorem pX3_borderOfWay : zpar mX3_borderOfWay 1 := pd_9
theorem pX3_firstOnward : zpar mX3_firstOnward 1 := pd_9
theorem pX3_measureTo : zpar mX3_measureTo 1 := pd_12
theorem pd_13 : (parseMethodDescriptor "([II)V").map (fun s => s.parameters.length) = some 2 := by decide +kernel
theorem pX3_spread : zpar mX3_spread 2 := pd_13
theorem pX4_init : zpar mX4_init 0 := pd_2
theorem pd_14 : (parseMethodDescriptor "([BI)Z").map (fun s => s.parameters.length) = some 2 := by decide +kernel
theorem pX4_reads : zpar mX4_reads 2 := pd_14
theorem pd_15 : (parseMethodDescriptor "()[I").map (fun s => s.parameters.length) = some 0 := by decide +kernel
theorem pX4_copyOfCode : zpar mX4_copyOfCode 0 := pd_15
theorem pd_16 : (parseMethodDescriptor "(I)Z").map (fun s => s.parameters.length) = some 1 := by decide +kernel
theorem pX4_readsLine : zpar mX4_readsLine 1 := pd_16
theorem pX4_readsTests : zpar mX4_readsTests 0 := pd_3
theorem pX4_readsSum : zpar mX4_readsSum 1 := pd_16
theorem pX4_readsTerm : zpar mX4_readsTerm 1 := pd_16
theorem pX4_readsOne : zpar mX4_readsOne 1 := pd_16
theorem pX4_passesSign : zpar mX4_passesSign 0 := pd_3
theorem pX4_faultAsOne : zpar mX4_faultAsOne 1 := pd_9
theorem pd_17 : (parseMethodDescriptor "()I").map (fun s => s.parameters.length) = some 0 := by decide +kernel
theorem pX4_token : zpar mX4_token 0 := pd_17
theorem pX4_fail : zpar mX4_fail 1 := pd_16
theorem pX4_write : zpar mX4_write 1 := pd_12
theorem pd_18 : (parseMethodDescriptor "(II)V").map (fun s => s.parameters.length) = some 2 := by decide +kernel
theorem pX5_init : zpar mX5_init 2 := pd_18
theorem pX5_forgetFrom : zpar mX5_forgetFrom 1 := pd_12
theorem pX6_init : zpar mX6_init 0 := pd_2
theorem pd_19 : (parseMethodDescriptor "([II)I").map (fun s => s.parameters.length) = some 2 := by decide +kernel
theorem pX6_tell : zpar mX6_tell 2 := pd_19
theorem pX6_step : zpar mX6_step 1 := pd_16
theorem pX6_named : zpar mX6_named 1 := pd_9
theorem pd_20 : (parseMethodDescriptor "(III)Z").map (fun s => s.parameters.length) = some 3 := by decide +kernel
theorem pX6_compares : zpar mX6_compares 3 := pd_20
theorem pd_21 : (parseMethodDescriptor "(IJJ)J").map (fun s => s.parameters.length) = some 3 := by decide +kernel
theorem pX6_joined : zpar mX6_joined 3 := pd_21
theorem pX6_push : zpar mX6_push 1 := pd_12
theorem pX6_pop : zpar mX6_pop 0 := pd_17
theorem pX7_init : zpar mX7_init 1 := pd_12
theorem pX7_missingThisYear : zpar mX7_missingThisYear 0 := pd_17
theorem pX7_closeYear : zpar mX7_closeYear 0 := pd_2
theorem pX8_init : zpar mX8_init 0 := pd_2
theorem pX8_hasRoom : zpar mX8_hasRoom 0 := pd_3
theorem pX8_append : zpar mX8_append 1 := pd_12
theorem pX9_init : zpar mX9_init 0 := pd_2
theorem pd_22 : (parseMethodDescriptor "([BI)V").map (fun s => s.parameters.length) = some 2 := by decide +kernel
theorem pX9_scan : zpar mX9_scan 2 := pd_22
theorem pX9_add : zpar mX9_add 2 := pd_18
theorem pd_23 : (parseMethodDescriptor "([BII)I").map (fun s => s.parameters.length) = some 3 := by decide +kernel
theorem pX9_endOfRun : zpar mX9_endOfRun 3 := pd_23
theorem pX9_tokenOf : zpar mX9_tokenOf 3 := pd_23
theorem pX9_numberOf : zpar mX9_numberOf 3 := pd_23
theorem pX9_wordOf : zpar mX9_wordOf 3 := pd_23
theorem pX9_nameOf : zpar mX9_nameOf 3 := pd_23
theorem pd_24 : (parseMethodDescriptor "([BIILjava/lang/String;)Z").map (fun s => s.parameters.length) = some 4 := by decide +kernel
theorem pX9_spells : zpar mX9_spells 4 := pd_24
theorem pd_25 : (parseMethodDescriptor "(B)I").map (fun s => s.parameters.length) = some 1 := by decide +kernel
theorem pX9_signOf : zpar mX9_signOf 1 := pd_25
theorem pd_26 : (parseMethodDescriptor "(B)Z").map (fun s => s.parameters.length) = some 1 := by decide +kernel
theorem pX9_isLetter : zpar mX9_isLetter 1 := pd_26
theorem pX9_isDigit : zpar mX9_isDigit 1 := pd_26
theorem pX10_init : zpar mX10_init 0 := pd_2
theorem pd_27 : (parseMethodDescriptor "(LSaltFarm$Market;II)J").map (fun s => s.parameters.length) = some 3 := by decide +kernel
theorem pX10_lay : zpar mX10_lay 3 := pd_27
theorem pX10_standingOn : zpar mX10_standingOn 1 := pd_9
theorem pd_28 : (parseMethodDescriptor "(LSaltFarm$Market;I)V").map (fun s => s.parameters.length) = some 2 := by decide +kernel
theorem pX10_charge : zpar mX10_charge 2 := pd_28
theorem pX10_keep : zpar mX10_keep 0 := pd_2
theorem pX10_shift : zpar mX10_shift 0 := pd_3
theorem pX11_init : zpar mX11_init 0 := pd_2
theorem pX11_province : zpar mX11_province 2 := pd_5
theorem pX11_people : zpar mX11_people 3 := pd_20
theorem pd_29 : (parseMethodDescriptor "(III)I").map (fun s => s.parameters.length) = some 3 := by decide +kernel
theorem pX11_border : zpar mX11_border 3 := pd_29
theorem pd_30 : (parseMethodDescriptor "(II)Z").map (fun s => s.parameters.length) = some 2 := by decide +kernel
theorem pX11_guard : zpar mX11_guard 2 := pd_30
theorem pX11_weight : zpar mX11_weight 1 := pd_16
theorem pd_31 : (parseMethodDescriptor "(IIIII)I").map (fun s => s.parameters.length) = some 5 := by decide +kernel
theorem pX11_feed : zpar mX11_feed 5 := pd_31
theorem pX11_edict : zpar mX11_edict 3 := pd_29
theorem pX11_fault : zpar mX11_fault 0 := pd_17
theorem pX11_where : zpar mX11_where 0 := pd_17
theorem pX11_force : zpar mX11_force 2 := pd_5
theorem pd_32 : (parseMethodDescriptor "(IIZ)I").map (fun s => s.parameters.length) = some 3 := by decide +kernel
theorem pX11_price : zpar mX11_price 3 := pd_32
theorem pX11_brought : zpar mX11_brought 2 := pd_5
theorem pX11_cheap : zpar mX11_cheap 1 := pd_9
theorem pX11_source : zpar mX11_source 1 := pd_9
theorem pX11_taken : zpar mX11_taken 1 := pd_10
theorem pX11_crown : zpar mX11_crown 0 := pd_11
theorem pX11_lost : zpar mX11_lost 0 := pd_11
theorem pX11_carried : zpar mX11_carried 1 := pd_10
theorem pX11_way : zpar mX11_way 1 := pd_9
theorem pX11_wayAt : zpar mX11_wayAt 2 := pd_5
theorem pX11_best : zpar mX11_best 1 := pd_10
theorem pX11_stand : zpar mX11_stand 1 := pd_9
theorem pX11_pass : zpar mX11_pass 0 := pd_17
theorem pX11_store : zpar mX11_store 2 := pd_5
theorem pX11_moves : zpar mX11_moves 3 := pd_32
theorem pX11_counted : zpar mX11_counted 2 := pd_5
theorem pX11_missing : zpar mX11_missing 1 := pd_10
theorem pX11_worst : zpar mX11_worst 0 := pd_17
theorem pX11_count : zpar mX11_count 1 := pd_9
theorem pX11_trouble : zpar mX11_trouble 0 := pd_17
theorem pX11_refuse : zpar mX11_refuse 1 := pd_9
theorem pX11_grant : zpar mX11_grant 1 := pd_9
theorem pX11_deny : zpar mX11_deny 1 := pd_16
theorem pX11_allow : zpar mX11_allow 0 := pd_3
theorem pd_33 : (parseMethodDescriptor "(I)LSaltFarm$Province;").map (fun s => s.parameters.length) = some 1 := by decide +kernel
theorem pX11_provinceAt : zpar mX11_provinceAt 1 := pd_33
theorem pd_34 : (parseMethodDescriptor "(I)LSaltFarm$Border;").map (fun s => s.parameters.length) = some 1 := by decide +kernel
theorem pX11_borderAt : zpar mX11_borderAt 1 := pd_34
theorem pd_35 : (parseMethodDescriptor "(I)LSaltFarm$Store;").map (fun s => s.parameters.length) = some 1 := by decide +kernel
theorem pX11_storeAt : zpar mX11_storeAt 1 := pd_35
theorem pX11_guardsInAll : zpar mX11_guardsInAll 0 := pd_17
theorem pX11_survey : zpar mX11_survey 0 := pd_2
theorem pX11_fitsPeople : zpar mX11_fitsPeople 2 := pd_30
theorem pX11_within : zpar mX11_within 3 := pd_20
theorem pd_36 : (parseMethodDescriptor "(JII)I").map (fun s => s.parameters.length) = some 3 := by decide +kernel
theorem pX11_bound : zpar mX11_bound 3 := pd_36
theorem pX12_init : zpar mX12_init 0 := pd_2
theorem pX12_put : zpar mX12_put 2 := pd_18
theorem pX13_init : zpar mX13_init 0 := pd_2
theorem pX14_init : zpar mX14_init 0 := pd_2
theorem pX14_refused : zpar mX14_refused 1 := pd_9
theorem pX14_denied : zpar mX14_denied 1 := pd_16
theorem pX14_done : zpar mX14_done 1 := pd_9
theorem pX14_granted : zpar mX14_granted 0 := pd_3
theorem pX14_in : zpar mX14_in 3 := pd_20
theorem pX14_isProvince : zpar mX14_isProvince 1 := pd_16
theorem pX14_isBorder : zpar mX14_isBorder 1 := pd_16
theorem pX14_province : zpar mX14_province 2 := pd_5
theorem pX14_people : zpar mX14_people 3 := pd_20
theorem pX14_border : zpar mX14_border 3 := pd_29
theorem pX14_guard : zpar mX14_guard 2 := pd_30
theorem pX14_weight : zpar mX14_weight 1 := pd_16
theorem pd_37 : (parseMethodDescriptor "(I)LSaltFarmModel$Stop;").map (fun s => s.parameters.length) = some 1 := by decide +kernel
theorem pX14_stop : zpar mX14_stop 1 := pd_37
theorem pX14_byteAt : zpar mX14_byteAt 1 := pd_9
theorem pX14_isLetter : zpar mX14_isLetter 1 := pd_16
theorem pX14_isDigit : zpar mX14_isDigit 1 := pd_16
theorem pd_38 : (parseMethodDescriptor "(Ljava/lang/String;)J").map (fun s => s.parameters.length) = some 1 := by decide +kernel
theorem pX14_wordOf : zpar mX14_wordOf 1 := pd_38
theorem pX14_next : zpar mX14_next 0 := pd_2
theorem pd_39 : (parseMethodDescriptor "(Ljava/lang/String;)Z").map (fun s => s.parameters.length) = some 1 := by decide +kernel
theorem pX14_isWord : zpar mX14_isWord 1 := pd_39
theorem pX14_is : zpar mX14_is 1 := pd_16
theorem pX14_nameHere : zpar mX14_nameHere 0 := pd_17
theorem pX14_reads : zpar mX14_reads 0 := pd_2
theorem pX14_readTest : zpar mX14_readTest 1 := pd_12
theorem pX14_sign : zpar mX14_sign 0 := pd_2
theorem pX14_readSum : zpar mX14_readSum 0 := pd_2
theorem pX14_readTerm : zpar mX14_readTerm 0 := pd_2
theorem pX14_readOne : zpar mX14_readOne 0 := pd_2
theorem pX14_feed : zpar mX14_feed 5 := pd_31
theorem pX14_edict : zpar mX14_edict 3 := pd_29
theorem pX14_fault : zpar mX14_fault 0 := pd_17
theorem pX14_where : zpar mX14_where 0 := pd_17
theorem pX14_forceOf : zpar mX14_forceOf 2 := pd_5
theorem pX14_force : zpar mX14_force 2 := pd_5
theorem pd_40 : (parseMethodDescriptor "(J)I").map (fun s => s.parameters.length) = some 1 := by decide +kernel
theorem pX14_bound : zpar mX14_bound 1 := pd_40
theorem pd_41 : (parseMethodDescriptor "(IJJ)I").map (fun s => s.parameters.length) = some 3 := by decide +kernel
theorem pX14_both : zpar mX14_both 3 := pd_41
theorem pd_42 : (parseMethodDescriptor "(LSaltFarmModel$Edict;IIII)I").map (fun s => s.parameters.length) = some 5 := by decide +kernel
theorem pX14_tells : zpar mX14_tells 5 := pd_42
theorem pX14_priceOf : zpar mX14_priceOf 3 := pd_32
theorem pX14_price : zpar mX14_price 3 := pd_32
theorem pX14_prices : zpar mX14_prices 0 := pd_2
theorem pX14_costOf : zpar mX14_costOf 2 := pd_5
theorem pd_43 : (parseMethodDescriptor "([I)V").map (fun s => s.parameters.length) = some 1 := by decide +kernel
theorem pX14_ways : zpar mX14_ways 1 := pd_43
theorem pX14_now : zpar mX14_now 0 := pd_2
theorem pX14_brought : zpar mX14_brought 2 := pd_5
theorem pX14_cheap : zpar mX14_cheap 1 := pd_9
theorem pX14_source : zpar mX14_source 1 := pd_9
theorem pX14_restOf : zpar mX14_restOf 1 := pd_10
theorem pX14_takenOf : zpar mX14_takenOf 1 := pd_10
theorem pX14_crownOf : zpar mX14_crownOf 0 := pd_11
theorem pX14_taken : zpar mX14_taken 1 := pd_10
theorem pX14_crown : zpar mX14_crown 0 := pd_11
theorem pX14_lost : zpar mX14_lost 0 := pd_11
theorem pX14_walks : zpar mX14_walks 1 := pd_12
theorem pX14_carried : zpar mX14_carried 1 := pd_10
theorem pX14_way : zpar mX14_way 1 := pd_9
theorem pX14_wayAt : zpar mX14_wayAt 2 := pd_5
theorem pX14_tries : zpar mX14_tries 2 := pd_18
theorem pX14_best : zpar mX14_best 1 := pd_10
theorem pX14_stand : zpar mX14_stand 1 := pd_9
theorem pX14_isStore : zpar mX14_isStore 1 := pd_16
theorem pX14_missingNow : zpar mX14_missingNow 1 := pd_9
theorem pX14_pass : zpar mX14_pass 0 := pd_17
theorem pX14_store : zpar mX14_store 2 := pd_5
theorem pX14_moves : zpar mX14_moves 3 := pd_32
theorem pX14_counted : zpar mX14_counted 2 := pd_5
theorem pX14_missing : zpar mX14_missing 1 := pd_10
theorem pX14_worst : zpar mX14_worst 0 := pd_17
theorem pX14_count : zpar mX14_count 1 := pd_9
theorem pX14_trouble : zpar mX14_trouble 0 := pd_17
theorem pJ9_max_7cf53 : zpar mJ9_max_7cf53 2 := pd_5
theorem pd_44 : (parseMethodDescriptor "(JJ)J").map (fun s => s.parameters.length) = some 2 := by decide +kernel
theorem pJ9_max_f86c9 : zpar mJ9_max_f86c9 2 := pd_44
theorem pJ9_min_7cf53 : zpar mJ9_min_7cf53 2 := pd_5
theorem pJ9_min_f86c9 : zpar mJ9_min_f86c9 2 := pd_44
theorem pJ0_length_8abf5 : zpar mJ0_length_8abf5 0 := pd_17
theorem pd_45 : (parseMethodDescriptor "(I)C").map (fun s => s.parameters.length) = some 1 := by decide +kernel
theorem pJ0_charAt_5068e : zpar mJ0_charAt_5068e 1 := pd_45
theorem pd_46 : (parseMethodDescriptor "()B").map (fun s => s.parameters.length) = some 0 := by decide +kernel
theorem pJ0_coder_7d493 : zpar mJ0_coder_7d493 0 := pd_46
theorem pJ0_isLatin1_aae02 : zpar mJ0_isLatin1_aae02 0 := pd_3
theorem pJ0_checkIndex_df160 : zpar mJ0_checkIndex_df160 2 := pd_18
theorem pd_47 : (parseMethodDescriptor "([BI)C").map (fun s => s.parameters.length) = some 2 := by decide +kernel
theorem pJ1_charAt_3b067 : zpar mJ1_charAt_3b067 2 := pd_47
theorem pJ2_getChar_3b067 : zpar mJ2_getChar_3b067 2 := pd_47
theorem pd_48 : (parseMethodDescriptor "([B)I").map (fun s => s.parameters.length) = some 1 := by decide +kernel
theorem pJ2_length_9d52b : zpar mJ2_length_9d52b 1 := pd_48
theorem pJ2_charAt_3b067 : zpar mJ2_charAt_3b067 2 := pd_47
theorem pd_49 : (parseMethodDescriptor "(I[B)V").map (fun s => s.parameters.length) = some 2 := by decide +kernel
theorem pJ2_checkIndex_2214a : zpar mJ2_checkIndex_2214a 2 := pd_49
theorem pd_50 : (parseMethodDescriptor "(IILjava/util/function/BiFunction;)I").map (fun s => s.parameters.length) = some 3 := by decide +kernel
theorem pJ3_checkIndex_8e157 : zpar mJ3_checkIndex_8e157 3 := pd_50
theorem pd_51 : (parseMethodDescriptor "(Ljava/lang/String;Ljava/lang/Throwable;ZZ)V").map (fun s => s.parameters.length) = some 4 := by decide +kernel
theorem pJE_init : zpar mJE_init 4 := pd_51
theorem pJR_init : zpar mJR_init 4 := pd_51
theorem pJT_init : zpar mJT_init 4 := pd_51
theorem pnJ9_max_7cf53 : plainFor (zMy mJ9_max_7cf53) = true := by decide +kernel
theorem pnJ9_max_f86c9 : plainFor (zMy mJ9_max_f86c9) = true := by decide +kernel
theorem pnJ9_min_7cf53 : plainFor (zMy mJ9_min_7cf53) = true := by decide +kernel
theorem pnJ9_min_f86c9 : plainFor (zMy mJ9_min_f86c9) = true := by decide +kernel
theorem pnJ0_length_8abf5 : plainFor (zMy mJ0_length_8abf5) = true := by decide +kernel
theorem pnJ0_charAt_5068e : plainFor (zMy mJ0_charAt_5068e) = true := by decide +kernel
theorem pnJ0_coder_7d493 : plainFor (zMy mJ0_coder_7d493) = true := by decide +kernel
theorem pnJ0_isLatin1_aae02 : plainFor (zMy mJ0_isLatin1_aae02) = true := by decide +kernel
theorem pnJ0_checkIndex_df160 : plainFor (zMy mJ0_checkIndex_df160) = true := by decide +kernel
theorem pnJ1_charAt_3b067 : plainFor (zMy mJ1_charAt_3b067) = true := by decide +kernel
theorem pnJ3_checkIndex_8e157 : plainFor (zMy mJ3_checkIndex_8e157) = true := by decide +kernel
theorem pnJE_init : plainFor (zMy mJE_init) = true := by decide +kernel
theorem pnJR_init : plainFor (zMy mJR_init) = true := by decide +kernel
theorem pnJT_init : plainFor (zMy mJT_init) = true := by decide +kernel
end
section
-- LEAVES, by program (wip/gen/p19.py)
theorem zrc {k i : Nat} {C : String} (h1 : k < 900) (h2 : zshp k < 100) (h3 : (zcl[zshp k]?.map (fun q => q.1)) = some C) : zRc (k, i) C := Or.inl ⟨h1, h2, h3⟩
theorem lc_lt {x y : Int64} : lg_cmp x y < 0 ↔ x < y := by
  unfold lg_cmp
  by_cases h1 : y < x
  · rw [if_pos h1]
    exact ⟨fun q => absurd q (by decide), fun q => by rw [Int64.lt_iff_toInt_lt] at *; omega⟩
  · rw [if_neg h1]
    by_cases h2 : x = y
    · rw [if_pos h2]
      exact ⟨fun q => absurd q (by decide), fun q => by rw [h2, Int64.lt_iff_toInt_lt] at q; omega⟩
    · rw [if_neg h2]
      refine ⟨fun _ => ?_, fun _ => by decide⟩
      rw [Int64.lt_iff_toInt_lt] at *
      have : x.toInt ≠ y.toInt := fun q => h2 (Int64.toInt_inj.mp q)
      omega
theorem lc_gt {x y : Int64} : 0 < lg_cmp x y ↔ y < x := by
  unfold lg_cmp
  by_cases h1 : y < x
  · rw [if_pos h1]
    exact ⟨fun _ => h1, fun _ => by decide⟩
  · rw [if_neg h1]
    by_cases h2 : x = y
    · rw [if_pos h2]
      exact ⟨fun q => absurd q (by decide), fun q => absurd q h1⟩
    · rw [if_neg h2]
      exact ⟨fun q => absurd q (by decide), fun q => absurd q h1⟩
theorem lc_eq {x y : Int64} : lg_cmp x y = 0 ↔ x = y := by
  unfold lg_cmp
  by_cases h1 : y < x
  · rw [if_pos h1]
    exact ⟨fun q => absurd q (by decide), fun q => by rw [q, Int64.lt_iff_toInt_lt] at h1; omega⟩
  · rw [if_neg h1]
    by_cases h2 : x = y
    · rw [if_pos h2]
      exact ⟨fun _ => h2, fun _ => rfl⟩
    · rw [if_neg h2]
      exact ⟨fun q => absurd q (by decide), fun q => absurd q h2⟩
theorem qX11_within (l : Launch) (h : zH) (a b c : Int32) : Cx l 1 mX11_within [Vi a, Vi b, Vi c] h (Rv (Vi (zb (b ≤ a ∧ a ≤ c)))) h := by
  refine Ct.in 0 kX11_within (plainFor_of_name rfl) (Nat.le_of_ble_eq_true rfl) ?_
  refine w_iload_n (zat TX11_within 0 rfl) rfl ?_
  refine w_iload_n (zat TX11_within 1 rfl) rfl ?_
  refine w_icmp_lt 14 (zat TX11_within 2 rfl) (by decide) (fun Hc2 => ?_) (fun Hc2 => ?_)
  · refine w_iconst (v := 0) (zat TX11_within 8 rfl) (by decide) ?_
    refine w_ireturn (zat TX11_within 9 rfl) rfl rfl ?_
    refine ⟨congrArg (fun x => Rv (Vi x)) ?_, rfl⟩
    simp only [zb, Int32.le_iff_toInt_le, Int32.lt_iff_toInt_lt] at *
    first | rw [if_pos (by omega)] | rw [if_neg (by omega)]
  · refine w_iload_n (zat TX11_within 3 rfl) rfl ?_
    refine w_iload_n (zat TX11_within 4 rfl) rfl ?_
    refine w_icmp_gt 14 (zat TX11_within 5 rfl) (by decide) (fun Hc7 => ?_) (fun Hc7 => ?_)
    · refine w_iconst (v := 0) (zat TX11_within 8 rfl) (by decide) ?_
      refine w_ireturn (zat TX11_within 9 rfl) rfl rfl ?_
      refine ⟨congrArg (fun x => Rv (Vi x)) ?_, rfl⟩
      simp only [zb, Int32.le_iff_toInt_le, Int32.lt_iff_toInt_lt] at *
      first | rw [if_pos (by omega)] | rw [if_neg (by omega)]
    · refine w_iconst (v := 1) (zat TX11_within 6 rfl) (by decide) ?_
      refine w_goto 15 (zat TX11_within 7 rfl) (by decide) ?_
      refine w_ireturn (zat TX11_within 9 rfl) rfl rfl ?_
      refine ⟨congrArg (fun x => Rv (Vi x)) ?_, rfl⟩
      simp only [zb, Int32.le_iff_toInt_le, Int32.lt_iff_toInt_lt] at *
      first | rw [if_pos (by omega)] | rw [if_neg (by omega)]
theorem qX14_in (l : Launch) (h : zH) (a b c : Int32) : Cx l 1 mX14_in [Vi a, Vi b, Vi c] h (Rv (Vi (zb (b ≤ a ∧ a ≤ c)))) h := by
  refine Ct.in 0 kX14_in (plainFor_of_name rfl) (Nat.le_of_ble_eq_true rfl) ?_
  refine w_iload_n (zat TX14_in 0 rfl) rfl ?_
  refine w_iload_n (zat TX14_in 1 rfl) rfl ?_
  refine w_icmp_lt 14 (zat TX14_in 2 rfl) (by decide) (fun Hc2 => ?_) (fun Hc2 => ?_)
  · refine w_iconst (v := 0) (zat TX14_in 8 rfl) (by decide) ?_
    refine w_ireturn (zat TX14_in 9 rfl) rfl rfl ?_
    refine ⟨congrArg (fun x => Rv (Vi x)) ?_, rfl⟩
    simp only [zb, Int32.le_iff_toInt_le, Int32.lt_iff_toInt_lt] at *
    first | rw [if_pos (by omega)] | rw [if_neg (by omega)]
  · refine w_iload_n (zat TX14_in 3 rfl) rfl ?_
    refine w_iload_n (zat TX14_in 4 rfl) rfl ?_
    refine w_icmp_gt 14 (zat TX14_in 5 rfl) (by decide) (fun Hc7 => ?_) (fun Hc7 => ?_)
    · refine w_iconst (v := 0) (zat TX14_in 8 rfl) (by decide) ?_
      refine w_ireturn (zat TX14_in 9 rfl) rfl rfl ?_
      refine ⟨congrArg (fun x => Rv (Vi x)) ?_, rfl⟩
      simp only [zb, Int32.le_iff_toInt_le, Int32.lt_iff_toInt_lt] at *
      first | rw [if_pos (by omega)] | rw [if_neg (by omega)]
    · refine w_iconst (v := 1) (zat TX14_in 6 rfl) (by decide) ?_
      refine w_goto 15 (zat TX14_in 7 rfl) (by decide) ?_
      refine w_ireturn (zat TX14_in 9 rfl) rfl rfl ?_
      refine ⟨congrArg (fun x => Rv (Vi x)) ?_, rfl⟩
      simp only [zb, Int32.le_iff_toInt_le, Int32.lt_iff_toInt_lt] at *
      first | rw [if_pos (by omega)] | rw [if_neg (by omega)]
theorem qJ9_max_7cf53 (l : Launch) (h : zH) (a b : Int32) : Cx l 1 mJ9_max_7cf53 [Vi a, Vi b] h (Rv (Vi (if a < b then b else a))) h := by
  refine Ct.in 0 kJ9_max_7cf53 pnJ9_max_7cf53 (Nat.le_of_ble_eq_true rfl) ?_
  refine w_iload_n (zat TJ9_max_7cf53 0 rfl) rfl ?_
  refine w_iload_n (zat TJ9_max_7cf53 1 rfl) rfl ?_
  refine w_icmp_lt 9 (zat TJ9_max_7cf53 2 rfl) (by decide) (fun Hc2 => ?_) (fun Hc2 => ?_)
  · refine w_iload_n (zat TJ9_max_7cf53 5 rfl) rfl ?_
    refine w_ireturn (zat TJ9_max_7cf53 6 rfl) rfl rfl ?_
    refine ⟨congrArg (fun x => Rv (Vi x)) ?_, rfl⟩
    first | rw [if_pos Hc2] | rw [if_neg Hc2]
  · refine w_iload_n (zat TJ9_max_7cf53 3 rfl) rfl ?_
    refine w_goto 10 (zat TJ9_max_7cf53 4 rfl) (by decide) ?_
    refine w_ireturn (zat TJ9_max_7cf53 6 rfl) rfl rfl ?_
    refine ⟨congrArg (fun x => Rv (Vi x)) ?_, rfl⟩
    first | rw [if_pos Hc2] | rw [if_neg Hc2]
theorem qJ9_min_7cf53 (l : Launch) (h : zH) (a b : Int32) : Cx l 1 mJ9_min_7cf53 [Vi a, Vi b] h (Rv (Vi (if b < a then b else a))) h := by
  refine Ct.in 0 kJ9_min_7cf53 pnJ9_min_7cf53 (Nat.le_of_ble_eq_true rfl) ?_
  refine w_iload_n (zat TJ9_min_7cf53 0 rfl) rfl ?_
  refine w_iload_n (zat TJ9_min_7cf53 1 rfl) rfl ?_
  refine w_icmp_gt 9 (zat TJ9_min_7cf53 2 rfl) (by decide) (fun Hc2 => ?_) (fun Hc2 => ?_)
  · refine w_iload_n (zat TJ9_min_7cf53 5 rfl) rfl ?_
    refine w_ireturn (zat TJ9_min_7cf53 6 rfl) rfl rfl ?_
    refine ⟨congrArg (fun x => Rv (Vi x)) ?_, rfl⟩
    first | rw [if_pos Hc2] | rw [if_neg Hc2]
  · refine w_iload_n (zat TJ9_min_7cf53 3 rfl) rfl ?_
    refine w_goto 10 (zat TJ9_min_7cf53 4 rfl) (by decide) ?_
    refine w_ireturn (zat TJ9_min_7cf53 6 rfl) rfl rfl ?_
    refine ⟨congrArg (fun x => Rv (Vi x)) ?_, rfl⟩
    first | rw [if_pos Hc2] | rw [if_neg Hc2]
theorem qJ9_max_f86c9 (l : Launch) (h : zH) (a b : Int64) : Cx l 1 mJ9_max_f86c9 [Vj a, Vj b] h (Rv (Vj (if a < b then b else a))) h := by
  refine Ct.in 0 kJ9_max_f86c9 pnJ9_max_f86c9 (Nat.le_of_ble_eq_true rfl) ?_
  refine w_lload_n (zat TJ9_max_f86c9 0 rfl) rfl ?_
  refine w_lload_n (zat TJ9_max_f86c9 1 rfl) rfl ?_
  refine w_lcmp (zat TJ9_max_f86c9 2 rfl) ?_
  refine w_if_lt 10 (zat TJ9_max_f86c9 3 rfl) (by decide) (fun Hc3 => ?_) (fun Hc3 => ?_)
  · refine w_lload_n (zat TJ9_max_f86c9 6 rfl) rfl ?_
    refine w_lreturn (zat TJ9_max_f86c9 7 rfl) rfl ?_
    refine ⟨congrArg (fun x => Rv (Vj x)) ?_, rfl⟩
    rw [lc_lt] at Hc3
    first | rw [if_pos Hc3] | rw [if_neg Hc3]
  · refine w_lload_n (zat TJ9_max_f86c9 4 rfl) rfl ?_
    refine w_goto 11 (zat TJ9_max_f86c9 5 rfl) (by decide) ?_
    refine w_lreturn (zat TJ9_max_f86c9 7 rfl) rfl ?_
    refine ⟨congrArg (fun x => Rv (Vj x)) ?_, rfl⟩
    rw [lc_lt] at Hc3
    first | rw [if_pos Hc3] | rw [if_neg Hc3]
theorem qJ9_min_f86c9 (l : Launch) (h : zH) (a b : Int64) : Cx l 1 mJ9_min_f86c9 [Vj a, Vj b] h (Rv (Vj (if b < a then b else a))) h := by
  refine Ct.in 0 kJ9_min_f86c9 pnJ9_min_f86c9 (Nat.le_of_ble_eq_true rfl) ?_
  refine w_lload_n (zat TJ9_min_f86c9 0 rfl) rfl ?_
  refine w_lload_n (zat TJ9_min_f86c9 1 rfl) rfl ?_
  refine w_lcmp (zat TJ9_min_f86c9 2 rfl) ?_
  refine w_if_gt 10 (zat TJ9_min_f86c9 3 rfl) (by decide) (fun Hc3 => ?_) (fun Hc3 => ?_)
  · refine w_lload_n (zat TJ9_min_f86c9 6 rfl) rfl ?_
    refine w_lreturn (zat TJ9_min_f86c9 7 rfl) rfl ?_
    refine ⟨congrArg (fun x => Rv (Vj x)) ?_, rfl⟩
    rw [lc_gt] at Hc3
    first | rw [if_pos Hc3] | rw [if_neg Hc3]
  · refine w_lload_n (zat TJ9_min_f86c9 4 rfl) rfl ?_
    refine w_goto 11 (zat TJ9_min_f86c9 5 rfl) (by decide) ?_
    refine w_lreturn (zat TJ9_min_f86c9 7 rfl) rfl ?_
    refine ⟨congrArg (fun x => Rv (Vj x)) ?_, rfl⟩
    rw [lc_gt] at Hc3
    first | rw [if_pos Hc3] | rw [if_neg Hc3]
theorem qX11_refuse (l : Launch) (h : zH) (w : Int32) : Cx l 1 mX11_refuse [Vq (some (0, 0)), Vi w] h (Rv (Vi (-1))) (zsI h 0 0 13 w) := by
  refine Ct.in 0 kX11_refuse (plainFor_of_name rfl) (Nat.le_of_ble_eq_true rfl) ?_
  refine w_aload_n (zat TX11_refuse 0 rfl) rfl ?_
  refine w_iload_n (zat TX11_refuse 1 rfl) rfl ?_
  refine w_putI (zat TX11_refuse 2 rfl) gX11_refuse_78 s0 (by decide) (by decide) rfl ⟨rfl, rfl⟩ ?_
  refine w_iconst (v := -1) (zat TX11_refuse 3 rfl) (by decide) ?_
  refine w_ireturn (zat TX11_refuse 4 rfl) rfl rfl ?_
  exact ⟨rfl, rfl⟩
theorem qX11_grant (l : Launch) (h : zH) (w : Int32) : Cx l 1 mX11_grant [Vq (some (0, 0)), Vi w] h (Rv (Vi w)) (zsI h 0 0 13 0) := by
  refine Ct.in 0 kX11_grant (plainFor_of_name rfl) (Nat.le_of_ble_eq_true rfl) ?_
  refine w_aload_n (zat TX11_grant 0 rfl) rfl ?_
  refine w_iconst (v := 0) (zat TX11_grant 1 rfl) (by decide) ?_
  refine w_putI (zat TX11_grant 2 rfl) gX11_grant_78 s0 (by decide) (by decide) rfl ⟨rfl, rfl⟩ ?_
  refine w_iload_n (zat TX11_grant 3 rfl) rfl ?_
  refine w_ireturn (zat TX11_grant 4 rfl) rfl rfl ?_
  exact ⟨rfl, rfl⟩
theorem qX11_deny (l : Launch) (h : zH) (w : Int32) : Cx l 1 mX11_deny [Vq (some (0, 0)), Vi w] h (Rv (Vi 0)) (zsI h 0 0 13 w) := by
  refine Ct.in 0 kX11_deny (plainFor_of_name rfl) (Nat.le_of_ble_eq_true rfl) ?_
  refine w_aload_n (zat TX11_deny 0 rfl) rfl ?_
  refine w_iload_n (zat TX11_deny 1 rfl) rfl ?_
  refine w_putI (zat TX11_deny 2 rfl) gX11_deny_78 s0 (by decide) (by decide) rfl ⟨rfl, rfl⟩ ?_
  refine w_iconst (v := 0) (zat TX11_deny 3 rfl) (by decide) ?_
  refine w_ireturn (zat TX11_deny 4 rfl) rfl rfl ?_
  exact ⟨rfl, rfl⟩
theorem qX11_allow (l : Launch) (h : zH) : Cx l 1 mX11_allow [Vq (some (0, 0))] h (Rv (Vi 1)) (zsI h 0 0 13 0) := by
  refine Ct.in 0 kX11_allow (plainFor_of_name rfl) (Nat.le_of_ble_eq_true rfl) ?_
  refine w_aload_n (zat TX11_allow 0 rfl) rfl ?_
  refine w_iconst (v := 0) (zat TX11_allow 1 rfl) (by decide) ?_
  refine w_putI (zat TX11_allow 2 rfl) gX11_allow_78 s0 (by decide) (by decide) rfl ⟨rfl, rfl⟩ ?_
  refine w_iconst (v := 1) (zat TX11_allow 3 rfl) (by decide) ?_
  refine w_ireturn (zat TX11_allow 4 rfl) rfl rfl ?_
  exact ⟨rfl, rfl⟩
theorem qX11_fitsPeople (l : Launch) (h : zH) (a b : Int32) : Cx l 2 mX11_fitsPeople [Vi a, Vi b] h (Rv (Vi (zb ((0 ≤ a ∧ a ≤ 100000) ∧ (0 ≤ b ∧ b ≤ 50))))) h := by
  refine Ct.in 0 kX11_fitsPeople (plainFor_of_name rfl) (Nat.le_of_ble_eq_true rfl) ?_
  refine w_iload_n (zat TX11_fitsPeople 0 rfl) rfl ?_
  refine w_iconst (v := 0) (zat TX11_fitsPeople 1 rfl) (by decide) ?_
  refine w_ldcw (v := 100000) (zat TX11_fitsPeople 2 rfl) zw340 ?_
  refine x_callv3 (qX11_within l _ _ _ _) (by decide) kX11_within (rdy_S (zat TX11_fitsPeople 3 rfl) kX11_within pX11_within zw341 zw342) (Nat.le_of_ble_eq_true rfl) rfl rfl ?_
  refine w_if_eq 25 (zat TX11_fitsPeople 4 rfl) (by decide) (fun Hc8 => ?_) (fun Hc8 => ?_)
  · refine w_iconst (v := 0) (zat TX11_fitsPeople 12 rfl) (by decide) ?_
    refine w_ireturn (zat TX11_fitsPeople 13 rfl) rfl rfl ?_
    refine ⟨congrArg (fun x => Rv (Vi x)) ?_, rfl⟩
    simp only [zb_0, Decidable.not_not] at *
    first | exact (zb_t ⟨by assumption, by assumption⟩).symm | exact (zb_f (fun q => by first | exact absurd q.1 (by assumption) | exact absurd q.2 (by assumption))).symm
  · refine w_iload_n (zat TX11_fitsPeople 5 rfl) rfl ?_
    refine w_iconst (v := 0) (zat TX11_fitsPeople 6 rfl) (by decide) ?_
    refine w_bipush (v := 50) (zat TX11_fitsPeople 7 rfl) (by decide) ?_
    refine x_callv3 (qX11_within l _ _ _ _) (by decide) kX11_within (rdy_S (zat TX11_fitsPeople 8 rfl) kX11_within pX11_within zw341 zw342) (Nat.le_of_ble_eq_true rfl) rfl rfl ?_
    refine w_if_eq 25 (zat TX11_fitsPeople 9 rfl) (by decide) (fun Hc18 => ?_) (fun Hc18 => ?_)
    · refine w_iconst (v := 0) (zat TX11_fitsPeople 12 rfl) (by decide) ?_
      refine w_ireturn (zat TX11_fitsPeople 13 rfl) rfl rfl ?_
      refine ⟨congrArg (fun x => Rv (Vi x)) ?_, rfl⟩
      simp only [zb_0, Decidable.not_not] at *
      first | exact (zb_t ⟨by assumption, by assumption⟩).symm | exact (zb_f (fun q => by first | exact absurd q.1 (by assumption) | exact absurd q.2 (by assumption))).symm
    · refine w_iconst (v := 1) (zat TX11_fitsPeople 10 rfl) (by decide) ?_
      refine w_goto 26 (zat TX11_fitsPeople 11 rfl) (by decide) ?_
      refine w_ireturn (zat TX11_fitsPeople 13 rfl) rfl rfl ?_
      refine ⟨congrArg (fun x => Rv (Vi x)) ?_, rfl⟩
      simp only [zb_0, Decidable.not_not] at *
      first | exact (zb_t ⟨by assumption, by assumption⟩).symm | exact (zb_f (fun q => by first | exact absurd q.1 (by assumption) | exact absurd q.2 (by assumption))).symm
end
section
-- THE MODEL'S SMALL METHODS, by program (wip/gen/p20.py)
section zROWS
variable {l : Launch} {M M2 : zM} {d d2 pc nx : Nat} {ls ls2 : List (Option zV)} {st : List zV} {h h2 h' : zH} {Q : zO → zH → Prop}
theorem y_getI {index ci j k i : Nat} {v : Int32} (hd : zAt M pc (.getfield index) 3 nx) (hf : zFld (zMy M).cls index ci j) (hs : zshp k = ci) (hc : ci < 100) (hr : k < 900) (ht : zkd (zty ci j) = 0) (hv : zI h k i j = v) (kk : Wp l M d nx ls (Vi v :: st) h Q) : Wp l M d pc ls (Vq (some (k, i)) :: st) h Q := w_getI hd hf hs hc hr ht (hv ▸ kk)
theorem y_getL {index ci j k i : Nat} {v : Int64} (hd : zAt M pc (.getfield index) 3 nx) (hf : zFld (zMy M).cls index ci j) (hs : zshp k = ci) (hc : ci < 100) (hr : k < 900) (ht : zkd (zty ci j) = 1) (hv : zL h k i j = v) (kk : Wp l M d nx ls (Vj v :: st) h Q) : Wp l M d pc ls (Vq (some (k, i)) :: st) h Q := w_getL hd hf hs hc hr ht (hv ▸ kk)
theorem y_iaload {k i : Nat} {x v : Int32} (n L : Nat) (hd : zAt M pc .iaload 1 nx) (hs : zshp k = 100) (hr : k < 900) (hL : zN h k i = L) (hb : L < 2 ^ 31) (hx : x = nI n) (hn : n < L) (hv : zI h k i n = v) (kk : Wp l M d nx ls (Vi v :: st) h Q) : Wp l M d pc ls (Vi x :: Vq (some (k, i)) :: st) h Q := x_iaload n L hd hs hr hL hb hx hn (hv ▸ kk)
theorem y_baload {k i : Nat} {x v : Int32} (n L : Nat) (hd : zAt M pc .baload 1 nx) (hs : zshp k = 102) (hr : k < 900) (hL : zN h k i = L) (hb : L < 2 ^ 31) (hx : x = nI n) (hn : n < L) (hv : zI h k i n = v) (kk : Wp l M d nx ls (Vi v :: st) h Q) : Wp l M d pc ls (Vi x :: Vq (some (k, i)) :: st) h Q := x_baload n L hd hs hr hL hb hx hn (hv ▸ kk)
theorem y_zaload {k i : Nat} {x v : Int32} (n L : Nat) (hd : zAt M pc .baload 1 nx) (hs : zshp k = 103) (hr : k < 900) (hL : zN h k i = L) (hb : L < 2 ^ 31) (hx : x = nI n) (hn : n < L) (hv : zI h k i n = v) (kk : Wp l M d nx ls (Vi v :: st) h Q) : Wp l M d pc ls (Vi x :: Vq (some (k, i)) :: st) h Q := x_zaload n L hd hs hr hL hb hx hn (hv ▸ kk)
theorem y_laload {k i : Nat} {x : Int32} {v : Int64} (n L : Nat) (hd : zAt M pc .laload 1 nx) (hs : zshp k = 101) (hr : k < 900) (hL : zN h k i = L) (hb : L < 2 ^ 31) (hx : x = nI n) (hn : n < L) (hv : zL h k i n = v) (kk : Wp l M d nx ls (Vj v :: st) h Q) : Wp l M d pc ls (Vi x :: Vq (some (k, i)) :: st) h Q := x_laload n L hd hs hr hL hb hx hn (hv ▸ kk)
end zROWS
/-- an index that the machine has tested -/
theorem ixN {x : Int32} {n : Nat} (hn : n < 2 ^ 31) (h : 0 ≤ x ∧ x < nI n) : ∃ j : Nat, j < n ∧ x = nI j := by
  rcases pk_ix x hn with q | q | q
  · exact absurd h.1 (by rw [Int32.le_iff_toInt_le]; rw [Int32.lt_iff_toInt_lt] at q; omega)
  · exact absurd h.2 (by rw [Int32.lt_iff_toInt_lt]; rw [Int32.le_iff_toInt_le] at q; omega)
  · exact q
theorem nIe {a b : Nat} (ha : a < 2 ^ 31) (hb : b < 2 ^ 31) (h : nI a = nI b) : a = b := (nI_eq ha hb).mp h
theorem nIlt {a b : Nat} (hb : b < 2 ^ 31) (ha : a < 2 ^ 31) (h : nI a < nI b) : a < b := (nI_ltI ha hb).mp h
theorem ixC {x : Int32} {n : Nat} (hn : n < 2 ^ 31) (h : 0 ≤ x ∧ x < nI n) : x = nI x.toNatClampNeg ∧ x.toNatClampNeg < n := by
  obtain ⟨j, h1, h2⟩ := ixN hn h
  rw [h2, nI_clamp (by omega)]
  exact ⟨rfl, h1⟩
def mRef (h : zH) (w : Int32) : zH := zsI (zsI h 1 0 1 w) 1 0 2 (-1)
theorem qX14_refused (l : Launch) (h : zH) (w : Int32) : Cx l 1 mX14_refused [Vq (some (1, 0)), Vi w] h (Rv (Vi (-1))) (mRef h w) := by
  refine Ct.in 0 kX14_refused (plainFor_of_name rfl) (Nat.le_of_ble_eq_true rfl) ?_
  refine w_aload_n (zat TX14_refused 0 rfl) rfl ?_
  refine w_iload_n (zat TX14_refused 1 rfl) rfl ?_
  refine w_putI (zat TX14_refused 2 rfl) gX14_refused_103 s1 (by decide) (by decide) rfl ⟨rfl, rfl⟩ ?_
  refine w_aload_n (zat TX14_refused 3 rfl) rfl ?_
  refine w_iconst (v := -1) (zat TX14_refused 4 rfl) (by decide) ?_
  refine w_putI (zat TX14_refused 5 rfl) gX14_refused_9 s1 (by decide) (by decide) rfl ⟨rfl, rfl⟩ ?_
  refine w_iconst (v := -1) (zat TX14_refused 6 rfl) (by decide) ?_
  refine w_ireturn (zat TX14_refused 7 rfl) rfl rfl ?_
  exact ⟨rfl, rfl⟩
theorem qX14_denied (l : Launch) (h : zH) (w : Int32) : Cx l 1 mX14_denied [Vq (some (1, 0)), Vi w] h (Rv (Vi 0)) (mRef h w) := by
  refine Ct.in 0 kX14_denied (plainFor_of_name rfl) (Nat.le_of_ble_eq_true rfl) ?_
  refine w_aload_n (zat TX14_denied 0 rfl) rfl ?_
  refine w_iload_n (zat TX14_denied 1 rfl) rfl ?_
  refine w_putI (zat TX14_denied 2 rfl) gX14_denied_103 s1 (by decide) (by decide) rfl ⟨rfl, rfl⟩ ?_
  refine w_aload_n (zat TX14_denied 3 rfl) rfl ?_
  refine w_iconst (v := -1) (zat TX14_denied 4 rfl) (by decide) ?_
  refine w_putI (zat TX14_denied 5 rfl) gX14_denied_9 s1 (by decide) (by decide) rfl ⟨rfl, rfl⟩ ?_
  refine w_iconst (v := 0) (zat TX14_denied 6 rfl) (by decide) ?_
  refine w_ireturn (zat TX14_denied 7 rfl) rfl rfl ?_
  exact ⟨rfl, rfl⟩
theorem qX14_done (l : Launch) (h : zH) (w : Int32) : Cx l 1 mX14_done [Vq (some (1, 0)), Vi w] h (Rv (Vi w)) (mRef h 0) := by
  refine Ct.in 0 kX14_done (plainFor_of_name rfl) (Nat.le_of_ble_eq_true rfl) ?_
  refine w_aload_n (zat TX14_done 0 rfl) rfl ?_
  refine w_iconst (v := 0) (zat TX14_done 1 rfl) (by decide) ?_
  refine w_putI (zat TX14_done 2 rfl) gX14_done_103 s1 (by decide) (by decide) rfl ⟨rfl, rfl⟩ ?_
  refine w_aload_n (zat TX14_done 3 rfl) rfl ?_
  refine w_iconst (v := -1) (zat TX14_done 4 rfl) (by decide) ?_
  refine w_putI (zat TX14_done 5 rfl) gX14_done_9 s1 (by decide) (by decide) rfl ⟨rfl, rfl⟩ ?_
  refine w_iload_n (zat TX14_done 6 rfl) rfl ?_
  refine w_ireturn (zat TX14_done 7 rfl) rfl rfl ?_
  exact ⟨rfl, rfl⟩
theorem qX14_granted (l : Launch) (h : zH) : Cx l 1 mX14_granted [Vq (some (1, 0))] h (Rv (Vi 1)) (mRef h 0) := by
  refine Ct.in 0 kX14_granted (plainFor_of_name rfl) (Nat.le_of_ble_eq_true rfl) ?_
  refine w_aload_n (zat TX14_granted 0 rfl) rfl ?_
  refine w_iconst (v := 0) (zat TX14_granted 1 rfl) (by decide) ?_
  refine w_putI (zat TX14_granted 2 rfl) gX14_granted_103 s1 (by decide) (by decide) rfl ⟨rfl, rfl⟩ ?_
  refine w_aload_n (zat TX14_granted 3 rfl) rfl ?_
  refine w_iconst (v := -1) (zat TX14_granted 4 rfl) (by decide) ?_
  refine w_putI (zat TX14_granted 5 rfl) gX14_granted_9 s1 (by decide) (by decide) rfl ⟨rfl, rfl⟩ ?_
  refine w_iconst (v := 1) (zat TX14_granted 6 rfl) (by decide) ?_
  refine w_ireturn (zat TX14_granted 7 rfl) rfl rfl ?_
  exact ⟨rfl, rfl⟩
theorem qX14_isProvince (l : Launch) (h : zH) (p : Int32) (nP : Nat) (hv : zI h 1 0 4 = nI nP) : Cx l 1 mX14_isProvince [Vq (some (1, 0)), Vi p] h (Rv (Vi (zb (0 ≤ p ∧ p < nI nP)))) h := by
  refine Ct.in 0 kX14_isProvince (plainFor_of_name rfl) (Nat.le_of_ble_eq_true rfl) ?_
  refine w_iload_n (zat TX14_isProvince 0 rfl) rfl ?_
  refine w_if_lt 16 (zat TX14_isProvince 1 rfl) (by decide) (fun Hc1 => ?_) (fun Hc1 => ?_)
  · refine w_iconst (v := 0) (zat TX14_isProvince 8 rfl) (by decide) ?_
    refine w_ireturn (zat TX14_isProvince 9 rfl) rfl rfl ?_
    refine ⟨congrArg (fun x => Rv (Vi x)) ?_, rfl⟩
    simp only [zb, Int32.le_iff_toInt_le, Int32.lt_iff_toInt_lt] at *
    first | rw [if_pos (by omega)] | rw [if_neg (by omega)]
  · refine w_iload_n (zat TX14_isProvince 2 rfl) rfl ?_
    refine w_aload_n (zat TX14_isProvince 3 rfl) rfl ?_
    refine y_getI (v := nI nP) (zat TX14_isProvince 4 rfl) fX14_106 s1 (by decide) (by decide) rfl hv ?_
    refine w_icmp_ge 16 (zat TX14_isProvince 5 rfl) (by decide) (fun Hc9 => ?_) (fun Hc9 => ?_)
    · refine w_iconst (v := 0) (zat TX14_isProvince 8 rfl) (by decide) ?_
      refine w_ireturn (zat TX14_isProvince 9 rfl) rfl rfl ?_
      refine ⟨congrArg (fun x => Rv (Vi x)) ?_, rfl⟩
      simp only [zb, Int32.le_iff_toInt_le, Int32.lt_iff_toInt_lt] at *
      first | rw [if_pos (by omega)] | rw [if_neg (by omega)]
    · refine w_iconst (v := 1) (zat TX14_isProvince 6 rfl) (by decide) ?_
      refine w_goto 17 (zat TX14_isProvince 7 rfl) (by decide) ?_
      refine w_ireturn (zat TX14_isProvince 9 rfl) rfl rfl ?_
      refine ⟨congrArg (fun x => Rv (Vi x)) ?_, rfl⟩
      simp only [zb, Int32.le_iff_toInt_le, Int32.lt_iff_toInt_lt] at *
      first | rw [if_pos (by omega)] | rw [if_neg (by omega)]
theorem qX14_isBorder (l : Launch) (h : zH) (p : Int32) (nB : Nat) (hv : zI h 1 0 5 = nI nB) : Cx l 1 mX14_isBorder [Vq (some (1, 0)), Vi p] h (Rv (Vi (zb (0 ≤ p ∧ p < nI nB)))) h := by
  refine Ct.in 0 kX14_isBorder (plainFor_of_name rfl) (Nat.le_of_ble_eq_true rfl) ?_
  refine w_iload_n (zat TX14_isBorder 0 rfl) rfl ?_
  refine w_if_lt 16 (zat TX14_isBorder 1 rfl) (by decide) (fun Hc1 => ?_) (fun Hc1 => ?_)
  · refine w_iconst (v := 0) (zat TX14_isBorder 8 rfl) (by decide) ?_
    refine w_ireturn (zat TX14_isBorder 9 rfl) rfl rfl ?_
    refine ⟨congrArg (fun x => Rv (Vi x)) ?_, rfl⟩
    simp only [zb, Int32.le_iff_toInt_le, Int32.lt_iff_toInt_lt] at *
    first | rw [if_pos (by omega)] | rw [if_neg (by omega)]
  · refine w_iload_n (zat TX14_isBorder 2 rfl) rfl ?_
    refine w_aload_n (zat TX14_isBorder 3 rfl) rfl ?_
    refine y_getI (v := nI nB) (zat TX14_isBorder 4 rfl) fX14_109 s1 (by decide) (by decide) rfl hv ?_
    refine w_icmp_ge 16 (zat TX14_isBorder 5 rfl) (by decide) (fun Hc9 => ?_) (fun Hc9 => ?_)
    · refine w_iconst (v := 0) (zat TX14_isBorder 8 rfl) (by decide) ?_
      refine w_ireturn (zat TX14_isBorder 9 rfl) rfl rfl ?_
      refine ⟨congrArg (fun x => Rv (Vi x)) ?_, rfl⟩
      simp only [zb, Int32.le_iff_toInt_le, Int32.lt_iff_toInt_lt] at *
      first | rw [if_pos (by omega)] | rw [if_neg (by omega)]
    · refine w_iconst (v := 1) (zat TX14_isBorder 6 rfl) (by decide) ?_
      refine w_goto 17 (zat TX14_isBorder 7 rfl) (by decide) ?_
      refine w_ireturn (zat TX14_isBorder 9 rfl) rfl rfl ?_
      refine ⟨congrArg (fun x => Rv (Vi x)) ?_, rfl⟩
      simp only [zb, Int32.le_iff_toInt_le, Int32.lt_iff_toInt_lt] at *
      first | rw [if_pos (by omega)] | rw [if_neg (by omega)]
theorem qX14_isStore (l : Launch) (h : zH) (p : Int32) (nS : Nat) (hv : zI h 1 0 40 = nI nS) : Cx l 1 mX14_isStore [Vq (some (1, 0)), Vi p] h (Rv (Vi (zb (0 ≤ p ∧ p < nI nS)))) h := by
  refine Ct.in 0 kX14_isStore (plainFor_of_name rfl) (Nat.le_of_ble_eq_true rfl) ?_
  refine w_iload_n (zat TX14_isStore 0 rfl) rfl ?_
  refine w_if_lt 16 (zat TX14_isStore 1 rfl) (by decide) (fun Hc1 => ?_) (fun Hc1 => ?_)
  · refine w_iconst (v := 0) (zat TX14_isStore 8 rfl) (by decide) ?_
    refine w_ireturn (zat TX14_isStore 9 rfl) rfl rfl ?_
    refine ⟨congrArg (fun x => Rv (Vi x)) ?_, rfl⟩
    simp only [zb, Int32.le_iff_toInt_le, Int32.lt_iff_toInt_lt] at *
    first | rw [if_pos (by omega)] | rw [if_neg (by omega)]
  · refine w_iload_n (zat TX14_isStore 2 rfl) rfl ?_
    refine w_aload_n (zat TX14_isStore 3 rfl) rfl ?_
    refine y_getI (v := nI nS) (zat TX14_isStore 4 rfl) fX14_367 s1 (by decide) (by decide) rfl hv ?_
    refine w_icmp_ge 16 (zat TX14_isStore 5 rfl) (by decide) (fun Hc9 => ?_) (fun Hc9 => ?_)
    · refine w_iconst (v := 0) (zat TX14_isStore 8 rfl) (by decide) ?_
      refine w_ireturn (zat TX14_isStore 9 rfl) rfl rfl ?_
      refine ⟨congrArg (fun x => Rv (Vi x)) ?_, rfl⟩
      simp only [zb, Int32.le_iff_toInt_le, Int32.lt_iff_toInt_lt] at *
      first | rw [if_pos (by omega)] | rw [if_neg (by omega)]
    · refine w_iconst (v := 1) (zat TX14_isStore 6 rfl) (by decide) ?_
      refine w_goto 17 (zat TX14_isStore 7 rfl) (by decide) ?_
      refine w_ireturn (zat TX14_isStore 9 rfl) rfl rfl ?_
      refine ⟨congrArg (fun x => Rv (Vi x)) ?_, rfl⟩
      simp only [zb, Int32.le_iff_toInt_le, Int32.lt_iff_toInt_lt] at *
      first | rw [if_pos (by omega)] | rw [if_neg (by omega)]
def mWeight (h : zH) (v : Int32) : Int32 × zH := if 0 ≤ v ∧ v ≤ 200 then (1, mRef (zsI (zsI h 1 0 0 0) 1 0 7 v) 0) else (0, mRef (zsI h 1 0 0 0) 2)
theorem qX14_weight (l : Launch) (h : zH) (v : Int32) : Cx l 2 mX14_weight [Vq (some (1, 0)), Vi v] h (Rv (Vi (mWeight h v).1)) (mWeight h v).2 := by
  refine Ct.in 0 kX14_weight (plainFor_of_name rfl) (Nat.le_of_ble_eq_true rfl) ?_
  refine w_aload_n (zat TX14_weight 0 rfl) rfl ?_
  refine w_iconst (v := 0) (zat TX14_weight 1 rfl) (by decide) ?_
  refine w_putI (zat TX14_weight 2 rfl) gX14_weight_100 s1 (by decide) (by decide) rfl ⟨rfl, rfl⟩ ?_
  refine w_iload_n (zat TX14_weight 3 rfl) rfl ?_
  refine w_iconst (v := 0) (zat TX14_weight 4 rfl) (by decide) ?_
  refine w_sipush (v := 200) (zat TX14_weight 5 rfl) (by decide) ?_
  refine x_callv3 (qX14_in l _ _ _ _) (by decide) kX14_in (rdy_S (zat TX14_weight 6 rfl) kX14_in pX14_in zw1185 zw1186) (Nat.le_of_ble_eq_true rfl) rfl rfl ?_
  refine w_if_ne 22 (zat TX14_weight 7 rfl) (by decide) (fun Hc13 => ?_) (fun Hc13 => ?_)
  · refine w_aload_n (zat TX14_weight 12 rfl) rfl ?_
    refine w_iload_n (zat TX14_weight 13 rfl) rfl ?_
    refine w_putI (zat TX14_weight 14 rfl) gX14_weight_13 s1 (by decide) (by decide) rfl ⟨rfl, rfl⟩ ?_
    refine w_aload_n (zat TX14_weight 15 rfl) rfl ?_
    refine x_callv1 (qX14_granted l _) (by decide) kX14_granted (rdy_V (zat TX14_weight 16 rfl) kX14_granted pX14_granted zw1208 zw1210 zw35 (zrc (by decide) (by decide) rfl)) (Nat.le_of_ble_eq_true rfl) rfl rfl ?_
    refine w_ireturn (zat TX14_weight 17 rfl) rfl rfl ?_
    try simp only [zb_0, Decidable.not_not] at Hc13
    exact ⟨by simp only [mWeight, Hc13, if_true, if_false, and_self, not_true_eq_false, not_false_eq_true, and_false, false_and, true_and, and_true], by simp only [mWeight, Hc13, if_true, if_false, and_self, not_true_eq_false, not_false_eq_true, and_false, false_and, true_and, and_true]⟩
  · refine w_aload_n (zat TX14_weight 8 rfl) rfl ?_
    refine w_iconst (v := 2) (zat TX14_weight 9 rfl) (by decide) ?_
    refine x_callv2 (qX14_denied l _ _) (by decide) kX14_denied (rdy_V (zat TX14_weight 10 rfl) kX14_denied pX14_denied zw1204 zw1206 zw34 (zrc (by decide) (by decide) rfl)) (Nat.le_of_ble_eq_true rfl) rfl rfl ?_
    refine w_ireturn (zat TX14_weight 11 rfl) rfl rfl ?_
    try simp only [zb_0, Decidable.not_not] at Hc13
    exact ⟨by simp only [mWeight, Hc13, if_true, if_false, and_self, not_true_eq_false, not_false_eq_true, and_false, false_and, true_and, and_true], by simp only [mWeight, Hc13, if_true, if_false, and_self, not_true_eq_false, not_false_eq_true, and_false, false_and, true_and, and_true]⟩
def mProvince (h : zH) (nP : Nat) (a b : Int32) : Int32 × zH := if (0 ≤ a ∧ a ≤ 100000) ∧ (0 ≤ b ∧ b ≤ 50) then (if nP = 10 then (-1, mRef (zsI h 1 0 0 0) 3) else (nI nP, mRef (zsI (zsI (zsI (zsI h 1 0 0 0) 10 0 nP a) 11 0 nP b) 1 0 4 (nI (nP + 1))) 0)) else (-1, mRef (zsI h 1 0 0 0) 2)
theorem qX14_province (l : Launch) (h : zH) (hWM : Wm h) (a b : Int32) (nP : Nat) (hP : zI h 1 0 4 = nI nP) (hP2 : nP ≤ 10) : Cx l 2 mX14_province [Vq (some (1, 0)), Vi a, Vi b] h (Rv (Vi (mProvince h nP a b).1)) (mProvince h nP a b).2 := by
  refine Ct.in 0 kX14_province (plainFor_of_name rfl) (Nat.le_of_ble_eq_true rfl) ?_
  refine w_aload_n (zat TX14_province 0 rfl) rfl ?_
  refine w_iconst (v := 0) (zat TX14_province 1 rfl) (by decide) ?_
  refine w_putI (zat TX14_province 2 rfl) gX14_province_100 s1 (by decide) (by decide) rfl ⟨rfl, rfl⟩ ?_
  refine w_iload_n (zat TX14_province 3 rfl) rfl ?_
  refine w_iconst (v := 0) (zat TX14_province 4 rfl) (by decide) ?_
  refine w_ldc (v := 100000) (zat TX14_province 5 rfl) zw1184 ?_
  refine x_callv3 (qX14_in l _ _ _ _) (by decide) kX14_in (rdy_S (zat TX14_province 6 rfl) kX14_in pX14_in zw1185 zw1186) (Nat.le_of_ble_eq_true rfl) rfl rfl ?_
  refine w_if_eq 25 (zat TX14_province 7 rfl) (by decide) (fun Hc12 => ?_) (fun Hc12 => ?_)
  · refine w_aload_n (zat TX14_province 13 rfl) rfl ?_
    refine w_iconst (v := 2) (zat TX14_province 14 rfl) (by decide) ?_
    refine x_callv2 (qX14_refused l _ _) (by decide) kX14_refused (rdy_V (zat TX14_province 15 rfl) kX14_refused pX14_refused zw1188 zw1190 zw31 (zrc (by decide) (by decide) rfl)) (Nat.le_of_ble_eq_true rfl) rfl rfl ?_
    refine w_ireturn (zat TX14_province 16 rfl) rfl rfl ?_
    try simp only [zb_0, Decidable.not_not] at Hc12
    exact ⟨by simp only [mProvince, Hc12, if_true, if_false, and_self, not_true_eq_false, not_false_eq_true, and_false, false_and, true_and, and_true], by simp only [mProvince, Hc12, if_true, if_false, and_self, not_true_eq_false, not_false_eq_true, and_false, false_and, true_and, and_true]⟩
  · refine w_iload_n (zat TX14_province 8 rfl) rfl ?_
    refine w_iconst (v := 0) (zat TX14_province 9 rfl) (by decide) ?_
    refine w_bipush (v := 50) (zat TX14_province 10 rfl) (by decide) ?_
    refine x_callv3 (qX14_in l _ _ _ _) (by decide) kX14_in (rdy_S (zat TX14_province 11 rfl) kX14_in pX14_in zw1185 zw1186) (Nat.le_of_ble_eq_true rfl) rfl rfl ?_
    refine w_if_ne 31 (zat TX14_province 12 rfl) (by decide) (fun Hc22 => ?_) (fun Hc22 => ?_)
    · refine w_aload_n (zat TX14_province 17 rfl) rfl ?_
      refine y_getI (v := nI nP) (zat TX14_province 18 rfl) fX14_106 s1 (by decide) (by decide) rfl hP ?_
      refine w_bipush (v := 10) (zat TX14_province 19 rfl) (by decide) ?_
      refine w_icmp_ne 46 (zat TX14_province 20 rfl) (by decide) (fun Hc37 => ?_) (fun Hc37 => ?_)
      · replace Hc37 : ¬ nP = 10 := fun q => Hc37 (by rw [q]; rfl)
        refine w_aload_n (zat TX14_province 25 rfl) rfl ?_
        refine w_getR (zat TX14_province 26 rfl) fX14_16 s1 (by decide) (by decide) rfl (wmr hWM 0 rfl) ?_
        refine w_aload_n (zat TX14_province 27 rfl) rfl ?_
        refine y_getI (v := nI nP) (zat TX14_province 28 rfl) fX14_106 s1 (by decide) (by decide) rfl hP ?_
        refine w_iload_n (zat TX14_province 29 rfl) rfl ?_
        refine x_iastore _ _ (zat TX14_province 30 rfl) s10 (by decide) (wmn hWM 0 rfl) (by decide) rfl (by omega) ?_
        refine w_aload_n (zat TX14_province 31 rfl) rfl ?_
        refine w_getR (zat TX14_province 32 rfl) fX14_20 s1 (by decide) (by decide) rfl (wmr hWM 1 rfl) ?_
        refine w_aload_n (zat TX14_province 33 rfl) rfl ?_
        refine y_getI (v := nI nP) (zat TX14_province 34 rfl) fX14_106 s1 (by decide) (by decide) rfl hP ?_
        refine w_iload_n (zat TX14_province 35 rfl) rfl ?_
        refine x_iastore _ _ (zat TX14_province 36 rfl) s11 (by decide) (wmn hWM 1 rfl) (by decide) rfl (by omega) ?_
        refine w_aload_n (zat TX14_province 37 rfl) rfl ?_
        refine w_dup (zat TX14_province 38 rfl) rfl ?_
        refine y_getI (v := nI nP) (zat TX14_province 39 rfl) fX14_106 s1 (by decide) (by decide) rfl hP ?_
        refine w_iconst (v := 1) (zat TX14_province 40 rfl) (by decide) ?_
        refine w_iadd (zat TX14_province 41 rfl) ?_
        rw [nI_1]
        refine w_putI (zat TX14_province 42 rfl) gX14_province_106 s1 (by decide) (by decide) rfl ⟨rfl, rfl⟩ ?_
        refine w_aload_n (zat TX14_province 43 rfl) rfl ?_
        refine w_aload_n (zat TX14_province 44 rfl) rfl ?_
        refine y_getI (v := nI (nP + 1)) (zat TX14_province 45 rfl) fX14_106 s1 (by decide) (by decide) rfl rfl ?_
        refine w_iconst (v := 1) (zat TX14_province 46 rfl) (by decide) ?_
        refine w_isub (zat TX14_province 47 rfl) ?_
        rw [show nI (nP + 1) - 1 = nI nP from nI_pred nP]
        refine x_callv2 (qX14_done l _ _) (by decide) kX14_done (rdy_V (zat TX14_province 48 rfl) kX14_done pX14_done zw1192 zw1194 zw32 (zrc (by decide) (by decide) rfl)) (Nat.le_of_ble_eq_true rfl) rfl rfl ?_
        refine w_ireturn (zat TX14_province 49 rfl) rfl rfl ?_
        try simp only [zb_0, Decidable.not_not] at Hc12 Hc22 Hc37
        exact ⟨by simp only [mProvince, Hc12, Hc22, Hc37, if_true, if_false, and_self, not_true_eq_false, not_false_eq_true, and_false, false_and, true_and, and_true], by simp only [mProvince, Hc12, Hc22, Hc37, if_true, if_false, and_self, not_true_eq_false, not_false_eq_true, and_false, false_and, true_and, and_true]⟩
      · replace Hc37 : nP = 10 := nIe (by omega) (by decide) Hc37
        refine w_aload_n (zat TX14_province 21 rfl) rfl ?_
        refine w_iconst (v := 3) (zat TX14_province 22 rfl) (by decide) ?_
        refine x_callv2 (qX14_refused l _ _) (by decide) kX14_refused (rdy_V (zat TX14_province 23 rfl) kX14_refused pX14_refused zw1188 zw1190 zw31 (zrc (by decide) (by decide) rfl)) (Nat.le_of_ble_eq_true rfl) rfl rfl ?_
        refine w_ireturn (zat TX14_province 24 rfl) rfl rfl ?_
        try simp only [zb_0, Decidable.not_not] at Hc12 Hc22 Hc37
        exact ⟨by simp only [mProvince, Hc12, Hc22, Hc37, if_true, if_false, and_self, not_true_eq_false, not_false_eq_true, and_false, false_and, true_and, and_true], by simp only [mProvince, Hc12, Hc22, Hc37, if_true, if_false, and_self, not_true_eq_false, not_false_eq_true, and_false, false_and, true_and, and_true]⟩
    · refine w_aload_n (zat TX14_province 13 rfl) rfl ?_
      refine w_iconst (v := 2) (zat TX14_province 14 rfl) (by decide) ?_
      refine x_callv2 (qX14_refused l _ _) (by decide) kX14_refused (rdy_V (zat TX14_province 15 rfl) kX14_refused pX14_refused zw1188 zw1190 zw31 (zrc (by decide) (by decide) rfl)) (Nat.le_of_ble_eq_true rfl) rfl rfl ?_
      refine w_ireturn (zat TX14_province 16 rfl) rfl rfl ?_
      try simp only [zb_0, Decidable.not_not] at Hc12 Hc22
      exact ⟨by simp only [mProvince, Hc12, Hc22, if_true, if_false, and_self, not_true_eq_false, not_false_eq_true, and_false, false_and, true_and, and_true], by simp only [mProvince, Hc12, Hc22, if_true, if_false, and_self, not_true_eq_false, not_false_eq_true, and_false, false_and, true_and, and_true]⟩
def mPeople (h : zH) (nP : Nat) (p a b : Int32) : Int32 × zH := if 0 ≤ p ∧ p < nI nP then (if (0 ≤ a ∧ a ≤ 100000) ∧ (0 ≤ b ∧ b ≤ 50) then (1, mRef (zsI (zsI (zsI h 1 0 0 0) 10 0 p.toNatClampNeg a) 11 0 p.toNatClampNeg b) 0) else (0, mRef (zsI h 1 0 0 0) 2)) else (0, mRef (zsI h 1 0 0 0) 1)
theorem qX14_people (l : Launch) (h : zH) (hWM : Wm h) (p a b : Int32) (nP : Nat) (hP : zI h 1 0 4 = nI nP) (hP2 : nP ≤ 10) : Cx l 2 mX14_people [Vq (some (1, 0)), Vi p, Vi a, Vi b] h (Rv (Vi (mPeople h nP p a b).1)) (mPeople h nP p a b).2 := by
  refine Ct.in 0 kX14_people (plainFor_of_name rfl) (Nat.le_of_ble_eq_true rfl) ?_
  refine w_aload_n (zat TX14_people 0 rfl) rfl ?_
  refine w_iconst (v := 0) (zat TX14_people 1 rfl) (by decide) ?_
  refine w_putI (zat TX14_people 2 rfl) gX14_people_100 s1 (by decide) (by decide) rfl ⟨rfl, rfl⟩ ?_
  refine w_aload_n (zat TX14_people 3 rfl) rfl ?_
  refine w_iload_n (zat TX14_people 4 rfl) rfl ?_
  refine x_callv2 (qX14_isProvince l _ _ nP hP) (by decide) kX14_isProvince (rdy_V (zat TX14_people 5 rfl) kX14_isProvince pX14_isProvince zw1200 zw1202 zw33 (zrc (by decide) (by decide) rfl)) (Nat.le_of_ble_eq_true rfl) rfl rfl ?_
  refine w_if_ne 19 (zat TX14_people 6 rfl) (by decide) (fun Hc10 => ?_) (fun Hc10 => ?_)
  · obtain ⟨Hx, Hn⟩ := ixC (n := nP) (by omega) (zb_n.mp Hc10)
    refine w_iload_n (zat TX14_people 11 rfl) rfl ?_
    refine w_iconst (v := 0) (zat TX14_people 12 rfl) (by decide) ?_
    refine w_ldc (v := 100000) (zat TX14_people 13 rfl) zw1184 ?_
    refine x_callv3 (qX14_in l _ _ _ _) (by decide) kX14_in (rdy_S (zat TX14_people 14 rfl) kX14_in pX14_in zw1185 zw1186) (Nat.le_of_ble_eq_true rfl) rfl rfl ?_
    refine w_if_eq 39 (zat TX14_people 15 rfl) (by decide) (fun Hc26 => ?_) (fun Hc26 => ?_)
    · refine w_aload_n (zat TX14_people 21 rfl) rfl ?_
      refine w_iconst (v := 2) (zat TX14_people 22 rfl) (by decide) ?_
      refine x_callv2 (qX14_denied l _ _) (by decide) kX14_denied (rdy_V (zat TX14_people 23 rfl) kX14_denied pX14_denied zw1204 zw1206 zw34 (zrc (by decide) (by decide) rfl)) (Nat.le_of_ble_eq_true rfl) rfl rfl ?_
      refine w_ireturn (zat TX14_people 24 rfl) rfl rfl ?_
      try simp only [zb_0, Decidable.not_not] at Hc10 Hc26
      exact ⟨by simp only [mPeople, Hc10, Hc26, if_true, if_false, and_self, not_true_eq_false, not_false_eq_true, and_false, false_and, true_and, and_true], by simp only [mPeople, Hc10, Hc26, if_true, if_false, and_self, not_true_eq_false, not_false_eq_true, and_false, false_and, true_and, and_true]⟩
    · refine w_iload_n (zat TX14_people 16 rfl) rfl ?_
      refine w_iconst (v := 0) (zat TX14_people 17 rfl) (by decide) ?_
      refine w_bipush (v := 50) (zat TX14_people 18 rfl) (by decide) ?_
      refine x_callv3 (qX14_in l _ _ _ _) (by decide) kX14_in (rdy_S (zat TX14_people 19 rfl) kX14_in pX14_in zw1185 zw1186) (Nat.le_of_ble_eq_true rfl) rfl rfl ?_
      refine w_if_ne 45 (zat TX14_people 20 rfl) (by decide) (fun Hc36 => ?_) (fun Hc36 => ?_)
      · refine w_aload_n (zat TX14_people 25 rfl) rfl ?_
        refine w_getR (zat TX14_people 26 rfl) fX14_16 s1 (by decide) (by decide) rfl (wmr hWM 0 rfl) ?_
        refine w_iload_n (zat TX14_people 27 rfl) rfl ?_
        refine w_iload_n (zat TX14_people 28 rfl) rfl ?_
        refine x_iastore _ _ (zat TX14_people 29 rfl) s10 (by decide) (wmn hWM 0 rfl) (by decide) Hx (by omega) ?_
        refine w_aload_n (zat TX14_people 30 rfl) rfl ?_
        refine w_getR (zat TX14_people 31 rfl) fX14_20 s1 (by decide) (by decide) rfl (wmr hWM 1 rfl) ?_
        refine w_iload_n (zat TX14_people 32 rfl) rfl ?_
        refine w_iload_n (zat TX14_people 33 rfl) rfl ?_
        refine x_iastore _ _ (zat TX14_people 34 rfl) s11 (by decide) (wmn hWM 1 rfl) (by decide) Hx (by omega) ?_
        refine w_aload_n (zat TX14_people 35 rfl) rfl ?_
        refine x_callv1 (qX14_granted l _) (by decide) kX14_granted (rdy_V (zat TX14_people 36 rfl) kX14_granted pX14_granted zw1208 zw1210 zw35 (zrc (by decide) (by decide) rfl)) (Nat.le_of_ble_eq_true rfl) rfl rfl ?_
        refine w_ireturn (zat TX14_people 37 rfl) rfl rfl ?_
        try simp only [zb_0, Decidable.not_not] at Hc10 Hc26 Hc36
        exact ⟨by simp only [mPeople, Hc10, Hc26, Hc36, if_true, if_false, and_self, not_true_eq_false, not_false_eq_true, and_false, false_and, true_and, and_true], by simp only [mPeople, Hc10, Hc26, Hc36, if_true, if_false, and_self, not_true_eq_false, not_false_eq_true, and_false, false_and, true_and, and_true]⟩
      · refine w_aload_n (zat TX14_people 21 rfl) rfl ?_
        refine w_iconst (v := 2) (zat TX14_people 22 rfl) (by decide) ?_
        refine x_callv2 (qX14_denied l _ _) (by decide) kX14_denied (rdy_V (zat TX14_people 23 rfl) kX14_denied pX14_denied zw1204 zw1206 zw34 (zrc (by decide) (by decide) rfl)) (Nat.le_of_ble_eq_true rfl) rfl rfl ?_
        refine w_ireturn (zat TX14_people 24 rfl) rfl rfl ?_
        try simp only [zb_0, Decidable.not_not] at Hc10 Hc26 Hc36
        exact ⟨by simp only [mPeople, Hc10, Hc26, Hc36, if_true, if_false, and_self, not_true_eq_false, not_false_eq_true, and_false, false_and, true_and, and_true], by simp only [mPeople, Hc10, Hc26, Hc36, if_true, if_false, and_self, not_true_eq_false, not_false_eq_true, and_false, false_and, true_and, and_true]⟩
  · refine w_aload_n (zat TX14_people 7 rfl) rfl ?_
    refine w_iconst (v := 1) (zat TX14_people 8 rfl) (by decide) ?_
    refine x_callv2 (qX14_denied l _ _) (by decide) kX14_denied (rdy_V (zat TX14_people 9 rfl) kX14_denied pX14_denied zw1204 zw1206 zw34 (zrc (by decide) (by decide) rfl)) (Nat.le_of_ble_eq_true rfl) rfl rfl ?_
    refine w_ireturn (zat TX14_people 10 rfl) rfl rfl ?_
    try simp only [zb_0, Decidable.not_not] at Hc10
    exact ⟨by simp only [mPeople, Hc10, if_true, if_false, and_self, not_true_eq_false, not_false_eq_true, and_false, false_and, true_and, and_true], by simp only [mPeople, Hc10, if_true, if_false, and_self, not_true_eq_false, not_false_eq_true, and_false, false_and, true_and, and_true]⟩
def mBorder (h : zH) (nP nB : Nat) (a b r : Int32) : Int32 × zH := if (0 ≤ a ∧ a < nI nP) ∧ (0 ≤ b ∧ b < nI nP) ∧ ¬ a = b then (if 1 ≤ r ∧ r ≤ 500 then (if nB = 16 then (-1, mRef (zsI h 1 0 0 0) 3) else (nI nB, mRef (zsI (zsI (zsI (zsI (zsI h 1 0 0 0) 12 0 nB a) 13 0 nB b) 14 0 nB r) 1 0 5 (nI (nB + 1))) 0)) else (-1, mRef (zsI h 1 0 0 0) 2)) else (-1, mRef (zsI h 1 0 0 0) 1)
theorem qX14_border (l : Launch) (h : zH) (hWM : Wm h) (a b r : Int32) (nP : Nat) (hP : zI h 1 0 4 = nI nP) (hP2 : nP ≤ 10) (nB : Nat) (hB : zI h 1 0 5 = nI nB) (hB2 : nB ≤ 16) : Cx l 2 mX14_border [Vq (some (1, 0)), Vi a, Vi b, Vi r] h (Rv (Vi (mBorder h nP nB a b r).1)) (mBorder h nP nB a b r).2 := by
  refine Ct.in 0 kX14_border (plainFor_of_name rfl) (Nat.le_of_ble_eq_true rfl) ?_
  refine w_aload_n (zat TX14_border_0 0 rfl) rfl ?_
  refine w_iconst (v := 0) (zat TX14_border_0 1 rfl) (by decide) ?_
  refine w_putI (zat TX14_border_0 2 rfl) gX14_border_100 s1 (by decide) (by decide) rfl ⟨rfl, rfl⟩ ?_
  refine w_aload_n (zat TX14_border_0 3 rfl) rfl ?_
  refine w_iload_n (zat TX14_border_0 4 rfl) rfl ?_
  refine x_callv2 (qX14_isProvince l _ _ nP hP) (by decide) kX14_isProvince (rdy_V (zat TX14_border_0 5 rfl) kX14_isProvince pX14_isProvince zw1200 zw1202 zw33 (zrc (by decide) (by decide) rfl)) (Nat.le_of_ble_eq_true rfl) rfl rfl ?_
  refine w_if_eq 26 (zat TX14_border_0 6 rfl) (by decide) (fun Hc10 => ?_) (fun Hc10 => ?_)
  · refine w_aload_n (zat TX14_border_0 14 rfl) rfl ?_
    refine w_iconst (v := 1) (zat TX14_border_0 15 rfl) (by decide) ?_
    refine x_callv2 (qX14_refused l _ _) (by decide) kX14_refused (rdy_V (zat TX14_border_0 16 rfl) kX14_refused pX14_refused zw1188 zw1190 zw31 (zrc (by decide) (by decide) rfl)) (Nat.le_of_ble_eq_true rfl) rfl rfl ?_
    refine w_ireturn (zat TX14_border_0 17 rfl) rfl rfl ?_
    try simp only [zb_0, Decidable.not_not] at Hc10
    exact ⟨by simp only [mBorder, Hc10, if_true, if_false, and_self, not_true_eq_false, not_false_eq_true, and_false, false_and, true_and, and_true], by simp only [mBorder, Hc10, if_true, if_false, and_self, not_true_eq_false, not_false_eq_true, and_false, false_and, true_and, and_true]⟩
  · refine w_aload_n (zat TX14_border_0 7 rfl) rfl ?_
    refine w_iload_n (zat TX14_border_0 8 rfl) rfl ?_
    refine x_callv2 (qX14_isProvince l _ _ nP hP) (by decide) kX14_isProvince (rdy_V (zat TX14_border_0 9 rfl) kX14_isProvince pX14_isProvince zw1200 zw1202 zw33 (zrc (by decide) (by decide) rfl)) (Nat.le_of_ble_eq_true rfl) rfl rfl ?_
    refine w_if_eq 26 (zat TX14_border_0 10 rfl) (by decide) (fun Hc18 => ?_) (fun Hc18 => ?_)
    · refine w_aload_n (zat TX14_border_0 14 rfl) rfl ?_
      refine w_iconst (v := 1) (zat TX14_border_0 15 rfl) (by decide) ?_
      refine x_callv2 (qX14_refused l _ _) (by decide) kX14_refused (rdy_V (zat TX14_border_0 16 rfl) kX14_refused pX14_refused zw1188 zw1190 zw31 (zrc (by decide) (by decide) rfl)) (Nat.le_of_ble_eq_true rfl) rfl rfl ?_
      refine w_ireturn (zat TX14_border_0 17 rfl) rfl rfl ?_
      try simp only [zb_0, Decidable.not_not] at Hc10 Hc18
      exact ⟨by simp only [mBorder, Hc10, Hc18, if_true, if_false, and_self, not_true_eq_false, not_false_eq_true, and_false, false_and, true_and, and_true], by simp only [mBorder, Hc10, Hc18, if_true, if_false, and_self, not_true_eq_false, not_false_eq_true, and_false, false_and, true_and, and_true]⟩
    · refine w_iload_n (zat TX14_border_0 11 rfl) rfl ?_
      refine w_iload_n (zat TX14_border_0 12 rfl) rfl ?_
      refine w_icmp_ne 32 (zat TX14_border_0 13 rfl) (by decide) (fun Hc23 => ?_) (fun Hc23 => ?_)
      · refine w_iload_n (zat TX14_border_0 18 rfl) rfl ?_
        refine w_iconst (v := 1) (zat TX14_border_0 19 rfl) (by decide) ?_
        refine w_sipush (v := 500) (zat TX14_border_0 20 rfl) (by decide) ?_
        refine x_callv3 (qX14_in l _ _ _ _) (by decide) kX14_in (rdy_S (zat TX14_border_0 21 rfl) kX14_in pX14_in zw1185 zw1186) (Nat.le_of_ble_eq_true rfl) rfl rfl ?_
        refine w_if_ne 49 (zat TX14_border_0 22 rfl) (by decide) (fun Hc40 => ?_) (fun Hc40 => ?_)
        · refine w_aload_n (zat TX14_border_0 27 rfl) rfl ?_
          refine y_getI (v := nI nB) (zat TX14_border_0 28 rfl) fX14_109 s1 (by decide) (by decide) rfl hB ?_
          refine w_bipush (v := 16) (zat TX14_border_0 29 rfl) (by decide) ?_
          refine w_icmp_ne 64 (zat TX14_border_0 30 rfl) (by decide) (fun Hc55 => ?_) (fun Hc55 => ?_)
          · replace Hc55 : ¬ nB = 16 := fun q => Hc55 (by rw [q]; rfl)
            refine w_aload_n (zat TX14_border_0 35 rfl) rfl ?_
            refine w_getR (zat TX14_border_0 36 rfl) fX14_23 s1 (by decide) (by decide) rfl (wmr hWM 2 rfl) ?_
            refine w_aload_n (zat TX14_border_0 37 rfl) rfl ?_
            refine y_getI (v := nI nB) (zat TX14_border_0 38 rfl) fX14_109 s1 (by decide) (by decide) rfl hB ?_
            refine w_iload_n (zat TX14_border_0 39 rfl) rfl ?_
            refine x_iastore _ _ (zat TX14_border_0 40 rfl) s12 (by decide) (wmn hWM 2 rfl) (by decide) rfl (by omega) ?_
            refine w_aload_n (zat TX14_border_0 41 rfl) rfl ?_
            refine w_getR (zat TX14_border_0 42 rfl) fX14_26 s1 (by decide) (by decide) rfl (wmr hWM 3 rfl) ?_
            refine w_aload_n (zat TX14_border_0 43 rfl) rfl ?_
            refine y_getI (v := nI nB) (zat TX14_border_0 44 rfl) fX14_109 s1 (by decide) (by decide) rfl hB ?_
            refine w_iload_n (zat TX14_border_0 45 rfl) rfl ?_
            refine x_iastore _ _ (zat TX14_border_0 46 rfl) s13 (by decide) (wmn hWM 3 rfl) (by decide) rfl (by omega) ?_
            refine w_aload_n (zat TX14_border_0 47 rfl) rfl ?_
            refine w_getR (zat TX14_border_0 48 rfl) fX14_29 s1 (by decide) (by decide) rfl (wmr hWM 4 rfl) ?_
            refine w_aload_n (zat TX14_border_0 49 rfl) rfl ?_
            refine y_getI (v := nI nB) (zat TX14_border_0 50 rfl) fX14_109 s1 (by decide) (by decide) rfl hB ?_
            refine w_iload_n (zat TX14_border_0 51 rfl) rfl ?_
            refine x_iastore _ _ (zat TX14_border_0 52 rfl) s14 (by decide) (wmn hWM 4 rfl) (by decide) rfl (by omega) ?_
            refine w_aload_n (zat TX14_border_0 53 rfl) rfl ?_
            refine w_dup (zat TX14_border_0 54 rfl) rfl ?_
            refine y_getI (v := nI nB) (zat TX14_border_0 55 rfl) fX14_109 s1 (by decide) (by decide) rfl hB ?_
            refine w_iconst (v := 1) (zat TX14_border_0 56 rfl) (by decide) ?_
            refine w_iadd (zat TX14_border_0 57 rfl) ?_
            rw [nI_1]
            refine w_putI (zat TX14_border_0 58 rfl) gX14_border_109 s1 (by decide) (by decide) rfl ⟨rfl, rfl⟩ ?_
            refine w_aload_n (zat TX14_border_0 59 rfl) rfl ?_
            refine w_aload_n (zat TX14_border_1 0 rfl) rfl ?_
            refine y_getI (v := nI (nB + 1)) (zat TX14_border_1 1 rfl) fX14_109 s1 (by decide) (by decide) rfl rfl ?_
            refine w_iconst (v := 1) (zat TX14_border_1 2 rfl) (by decide) ?_
            refine w_isub (zat TX14_border_1 3 rfl) ?_
            rw [show nI (nB + 1) - 1 = nI nB from nI_pred nB]
            refine x_callv2 (qX14_done l _ _) (by decide) kX14_done (rdy_V (zat TX14_border_1 4 rfl) kX14_done pX14_done zw1192 zw1194 zw32 (zrc (by decide) (by decide) rfl)) (Nat.le_of_ble_eq_true rfl) rfl rfl ?_
            refine w_ireturn (zat TX14_border_1 5 rfl) rfl rfl ?_
            try simp only [zb_0, Decidable.not_not] at Hc10 Hc18 Hc23 Hc40 Hc55
            exact ⟨by simp only [mBorder, Hc10, Hc18, Hc23, Hc40, Hc55, if_true, if_false, and_self, not_true_eq_false, not_false_eq_true, and_false, false_and, true_and, and_true], by simp only [mBorder, Hc10, Hc18, Hc23, Hc40, Hc55, if_true, if_false, and_self, not_true_eq_false, not_false_eq_true, and_false, false_and, true_and, and_true]⟩
          · replace Hc55 : nB = 16 := nIe (by omega) (by decide) Hc55
            refine w_aload_n (zat TX14_border_0 31 rfl) rfl ?_
            refine w_iconst (v := 3) (zat TX14_border_0 32 rfl) (by decide) ?_
            refine x_callv2 (qX14_refused l _ _) (by decide) kX14_refused (rdy_V (zat TX14_border_0 33 rfl) kX14_refused pX14_refused zw1188 zw1190 zw31 (zrc (by decide) (by decide) rfl)) (Nat.le_of_ble_eq_true rfl) rfl rfl ?_
            refine w_ireturn (zat TX14_border_0 34 rfl) rfl rfl ?_
            try simp only [zb_0, Decidable.not_not] at Hc10 Hc18 Hc23 Hc40 Hc55
            exact ⟨by simp only [mBorder, Hc10, Hc18, Hc23, Hc40, Hc55, if_true, if_false, and_self, not_true_eq_false, not_false_eq_true, and_false, false_and, true_and, and_true], by simp only [mBorder, Hc10, Hc18, Hc23, Hc40, Hc55, if_true, if_false, and_self, not_true_eq_false, not_false_eq_true, and_false, false_and, true_and, and_true]⟩
        · refine w_aload_n (zat TX14_border_0 23 rfl) rfl ?_
          refine w_iconst (v := 2) (zat TX14_border_0 24 rfl) (by decide) ?_
          refine x_callv2 (qX14_refused l _ _) (by decide) kX14_refused (rdy_V (zat TX14_border_0 25 rfl) kX14_refused pX14_refused zw1188 zw1190 zw31 (zrc (by decide) (by decide) rfl)) (Nat.le_of_ble_eq_true rfl) rfl rfl ?_
          refine w_ireturn (zat TX14_border_0 26 rfl) rfl rfl ?_
          try simp only [zb_0, Decidable.not_not] at Hc10 Hc18 Hc23 Hc40
          exact ⟨by simp only [mBorder, Hc10, Hc18, Hc23, Hc40, if_true, if_false, and_self, not_true_eq_false, not_false_eq_true, and_false, false_and, true_and, and_true], by simp only [mBorder, Hc10, Hc18, Hc23, Hc40, if_true, if_false, and_self, not_true_eq_false, not_false_eq_true, and_false, false_and, true_and, and_true]⟩
      · refine w_aload_n (zat TX14_border_0 14 rfl) rfl ?_
        refine w_iconst (v := 1) (zat TX14_border_0 15 rfl) (by decide) ?_
        refine x_callv2 (qX14_refused l _ _) (by decide) kX14_refused (rdy_V (zat TX14_border_0 16 rfl) kX14_refused pX14_refused zw1188 zw1190 zw31 (zrc (by decide) (by decide) rfl)) (Nat.le_of_ble_eq_true rfl) rfl rfl ?_
        refine w_ireturn (zat TX14_border_0 17 rfl) rfl rfl ?_
        try simp only [zb_0, Decidable.not_not] at Hc10 Hc18 Hc23
        exact ⟨by simp only [mBorder, Hc10, Hc18, Hc23, if_true, if_false, and_self, not_true_eq_false, not_false_eq_true, and_false, false_and, true_and, and_true], by simp only [mBorder, Hc10, Hc18, Hc23, if_true, if_false, and_self, not_true_eq_false, not_false_eq_true, and_false, false_and, true_and, and_true]⟩
def mGuard (h : zH) (nB : Nat) (b g : Int32) : Int32 × zH := if 0 ≤ b ∧ b < nI nB then (if 0 ≤ g ∧ g ≤ 9 then (1, mRef (zsI (zsI h 1 0 0 0) 15 0 b.toNatClampNeg g) 0) else (0, mRef (zsI h 1 0 0 0) 2)) else (0, mRef (zsI h 1 0 0 0) 1)
theorem qX14_guard (l : Launch) (h : zH) (hWM : Wm h) (b g : Int32) (nB : Nat) (hB : zI h 1 0 5 = nI nB) (hB2 : nB ≤ 16) : Cx l 2 mX14_guard [Vq (some (1, 0)), Vi b, Vi g] h (Rv (Vi (mGuard h nB b g).1)) (mGuard h nB b g).2 := by
  refine Ct.in 0 kX14_guard (plainFor_of_name rfl) (Nat.le_of_ble_eq_true rfl) ?_
  refine w_aload_n (zat TX14_guard 0 rfl) rfl ?_
  refine w_iconst (v := 0) (zat TX14_guard 1 rfl) (by decide) ?_
  refine w_putI (zat TX14_guard 2 rfl) gX14_guard_100 s1 (by decide) (by decide) rfl ⟨rfl, rfl⟩ ?_
  refine w_aload_n (zat TX14_guard 3 rfl) rfl ?_
  refine w_iload_n (zat TX14_guard 4 rfl) rfl ?_
  refine x_callv2 (qX14_isBorder l _ _ nB hB) (by decide) kX14_isBorder (rdy_V (zat TX14_guard 5 rfl) kX14_isBorder pX14_isBorder zw1220 zw1222 zw36 (zrc (by decide) (by decide) rfl)) (Nat.le_of_ble_eq_true rfl) rfl rfl ?_
  refine w_if_ne 19 (zat TX14_guard 6 rfl) (by decide) (fun Hc10 => ?_) (fun Hc10 => ?_)
  · obtain ⟨Hx, Hn⟩ := ixC (n := nB) (by omega) (zb_n.mp Hc10)
    refine w_iload_n (zat TX14_guard 11 rfl) rfl ?_
    refine w_iconst (v := 0) (zat TX14_guard 12 rfl) (by decide) ?_
    refine w_bipush (v := 9) (zat TX14_guard 13 rfl) (by decide) ?_
    refine x_callv3 (qX14_in l _ _ _ _) (by decide) kX14_in (rdy_S (zat TX14_guard 14 rfl) kX14_in pX14_in zw1185 zw1186) (Nat.le_of_ble_eq_true rfl) rfl rfl ?_
    refine w_if_ne 35 (zat TX14_guard 15 rfl) (by decide) (fun Hc26 => ?_) (fun Hc26 => ?_)
    · refine w_aload_n (zat TX14_guard 20 rfl) rfl ?_
      refine w_getR (zat TX14_guard 21 rfl) fX14_32 s1 (by decide) (by decide) rfl (wmr hWM 5 rfl) ?_
      refine w_iload_n (zat TX14_guard 22 rfl) rfl ?_
      refine w_iload_n (zat TX14_guard 23 rfl) rfl ?_
      refine x_iastore _ _ (zat TX14_guard 24 rfl) s15 (by decide) (wmn hWM 5 rfl) (by decide) Hx (by omega) ?_
      refine w_aload_n (zat TX14_guard 25 rfl) rfl ?_
      refine x_callv1 (qX14_granted l _) (by decide) kX14_granted (rdy_V (zat TX14_guard 26 rfl) kX14_granted pX14_granted zw1208 zw1210 zw35 (zrc (by decide) (by decide) rfl)) (Nat.le_of_ble_eq_true rfl) rfl rfl ?_
      refine w_ireturn (zat TX14_guard 27 rfl) rfl rfl ?_
      try simp only [zb_0, Decidable.not_not] at Hc10 Hc26
      exact ⟨by simp only [mGuard, Hc10, Hc26, if_true, if_false, and_self, not_true_eq_false, not_false_eq_true, and_false, false_and, true_and, and_true], by simp only [mGuard, Hc10, Hc26, if_true, if_false, and_self, not_true_eq_false, not_false_eq_true, and_false, false_and, true_and, and_true]⟩
    · refine w_aload_n (zat TX14_guard 16 rfl) rfl ?_
      refine w_iconst (v := 2) (zat TX14_guard 17 rfl) (by decide) ?_
      refine x_callv2 (qX14_denied l _ _) (by decide) kX14_denied (rdy_V (zat TX14_guard 18 rfl) kX14_denied pX14_denied zw1204 zw1206 zw34 (zrc (by decide) (by decide) rfl)) (Nat.le_of_ble_eq_true rfl) rfl rfl ?_
      refine w_ireturn (zat TX14_guard 19 rfl) rfl rfl ?_
      try simp only [zb_0, Decidable.not_not] at Hc10 Hc26
      exact ⟨by simp only [mGuard, Hc10, Hc26, if_true, if_false, and_self, not_true_eq_false, not_false_eq_true, and_false, false_and, true_and, and_true], by simp only [mGuard, Hc10, Hc26, if_true, if_false, and_self, not_true_eq_false, not_false_eq_true, and_false, false_and, true_and, and_true]⟩
  · refine w_aload_n (zat TX14_guard 7 rfl) rfl ?_
    refine w_iconst (v := 1) (zat TX14_guard 8 rfl) (by decide) ?_
    refine x_callv2 (qX14_denied l _ _) (by decide) kX14_denied (rdy_V (zat TX14_guard 9 rfl) kX14_denied pX14_denied zw1204 zw1206 zw34 (zrc (by decide) (by decide) rfl)) (Nat.le_of_ble_eq_true rfl) rfl rfl ?_
    refine w_ireturn (zat TX14_guard 10 rfl) rfl rfl ?_
    try simp only [zb_0, Decidable.not_not] at Hc10
    exact ⟨by simp only [mGuard, Hc10, if_true, if_false, and_self, not_true_eq_false, not_false_eq_true, and_false, false_and, true_and, and_true], by simp only [mGuard, Hc10, if_true, if_false, and_self, not_true_eq_false, not_false_eq_true, and_false, false_and, true_and, and_true]⟩
theorem qX14_fault (l : Launch) (h : zH) : Cx l 1 mX14_fault [Vq (some (1, 0))] h (Rv (Vi (zI h 1 0 3))) (zsI h 1 0 0 0) := by
  refine Ct.in 0 kX14_fault (plainFor_of_name rfl) (Nat.le_of_ble_eq_true rfl) ?_
  refine w_aload_n (zat TX14_fault 0 rfl) rfl ?_
  refine w_iconst (v := 0) (zat TX14_fault 1 rfl) (by decide) ?_
  refine w_putI (zat TX14_fault 2 rfl) gX14_fault_100 s1 (by decide) (by decide) rfl ⟨rfl, rfl⟩ ?_
  refine w_aload_n (zat TX14_fault 3 rfl) rfl ?_
  refine y_getI (v := zI h 1 0 3) (zat TX14_fault 4 rfl) fX14_266 s1 (by decide) (by decide) rfl rfl ?_
  refine w_ireturn (zat TX14_fault 5 rfl) rfl rfl ?_
  exact ⟨rfl, rfl⟩
theorem qX14_where (l : Launch) (h : zH) : Cx l 1 mX14_where [Vq (some (1, 0))] h (Rv (Vi (zI h 1 0 2))) (zsI h 1 0 0 0) := by
  refine Ct.in 0 kX14_where (plainFor_of_name rfl) (Nat.le_of_ble_eq_true rfl) ?_
  refine w_aload_n (zat TX14_where 0 rfl) rfl ?_
  refine w_iconst (v := 0) (zat TX14_where 1 rfl) (by decide) ?_
  refine w_putI (zat TX14_where 2 rfl) gX14_where_100 s1 (by decide) (by decide) rfl ⟨rfl, rfl⟩ ?_
  refine w_aload_n (zat TX14_where 3 rfl) rfl ?_
  refine y_getI (v := zI h 1 0 2) (zat TX14_where 4 rfl) fX14_9 s1 (by decide) (by decide) rfl rfl ?_
  refine w_ireturn (zat TX14_where 5 rfl) rfl rfl ?_
  exact ⟨rfl, rfl⟩
theorem qX14_trouble (l : Launch) (h : zH) : Cx l 1 mX14_trouble [Vq (some (1, 0))] h (Rv (Vi (zI h 1 0 1))) (zsI h 1 0 0 0) := by
  refine Ct.in 0 kX14_trouble (plainFor_of_name rfl) (Nat.le_of_ble_eq_true rfl) ?_
  refine w_aload_n (zat TX14_trouble 0 rfl) rfl ?_
  refine w_iconst (v := 0) (zat TX14_trouble 1 rfl) (by decide) ?_
  refine w_putI (zat TX14_trouble 2 rfl) gX14_trouble_100 s1 (by decide) (by decide) rfl ⟨rfl, rfl⟩ ?_
  refine w_aload_n (zat TX14_trouble 3 rfl) rfl ?_
  refine y_getI (v := zI h 1 0 1) (zat TX14_trouble 4 rfl) fX14_103 s1 (by decide) (by decide) rfl rfl ?_
  refine w_ireturn (zat TX14_trouble 5 rfl) rfl rfl ?_
  exact ⟨rfl, rfl⟩
def mStore (h : zH) (nP nS : Nat) (p a : Int32) : Int32 × zH := if 0 ≤ p ∧ p < nI nP then (if 0 ≤ a ∧ a ≤ 1000000 then (if nS = 8 then (-1, mRef (zsI h 1 0 0 0) 3) else (nI nS, mRef (zsI (zsI (zsI (zsI (zsI h 1 0 0 0) 32 0 nS p) 28 0 nS a) 31 0 nS (-1)) 1 0 40 (nI (nS + 1))) 0)) else (-1, mRef (zsI h 1 0 0 0) 2)) else (-1, mRef (zsI h 1 0 0 0) 1)
theorem qX14_store (l : Launch) (h : zH) (hWM : Wm h) (p a : Int32) (nP : Nat) (hP : zI h 1 0 4 = nI nP) (hP2 : nP ≤ 10) (nS : Nat) (hS : zI h 1 0 40 = nI nS) (hS2 : nS ≤ 8) : Cx l 2 mX14_store [Vq (some (1, 0)), Vi p, Vi a] h (Rv (Vi (mStore h nP nS p a).1)) (mStore h nP nS p a).2 := by
  refine Ct.in 0 kX14_store (plainFor_of_name rfl) (Nat.le_of_ble_eq_true rfl) ?_
  refine w_aload_n (zat TX14_store 0 rfl) rfl ?_
  refine w_iconst (v := 0) (zat TX14_store 1 rfl) (by decide) ?_
  refine w_putI (zat TX14_store 2 rfl) gX14_store_100 s1 (by decide) (by decide) rfl ⟨rfl, rfl⟩ ?_
  refine w_aload_n (zat TX14_store 3 rfl) rfl ?_
  refine w_iload_n (zat TX14_store 4 rfl) rfl ?_
  refine x_callv2 (qX14_isProvince l _ _ nP hP) (by decide) kX14_isProvince (rdy_V (zat TX14_store 5 rfl) kX14_isProvince pX14_isProvince zw1200 zw1202 zw33 (zrc (by decide) (by decide) rfl)) (Nat.le_of_ble_eq_true rfl) rfl rfl ?_
  refine w_if_ne 19 (zat TX14_store 6 rfl) (by decide) (fun Hc10 => ?_) (fun Hc10 => ?_)
  · refine w_iload_n (zat TX14_store 11 rfl) rfl ?_
    refine w_iconst (v := 0) (zat TX14_store 12 rfl) (by decide) ?_
    refine w_ldcw (v := 1000000) (zat TX14_store 13 rfl) zw1447 ?_
    refine x_callv3 (qX14_in l _ _ _ _) (by decide) kX14_in (rdy_S (zat TX14_store 14 rfl) kX14_in pX14_in zw1185 zw1186) (Nat.le_of_ble_eq_true rfl) rfl rfl ?_
    refine w_if_ne 36 (zat TX14_store 15 rfl) (by decide) (fun Hc27 => ?_) (fun Hc27 => ?_)
    · refine w_aload_n (zat TX14_store 20 rfl) rfl ?_
      refine y_getI (v := nI nS) (zat TX14_store 21 rfl) fX14_367 s1 (by decide) (by decide) rfl hS ?_
      refine w_bipush (v := 8) (zat TX14_store 22 rfl) (by decide) ?_
      refine w_icmp_ne 51 (zat TX14_store 23 rfl) (by decide) (fun Hc42 => ?_) (fun Hc42 => ?_)
      · replace Hc42 : ¬ nS = 8 := fun q => Hc42 (by rw [q]; rfl)
        refine w_aload_n (zat TX14_store 28 rfl) rfl ?_
        refine w_getR (zat TX14_store 29 rfl) fX14_93 s1 (by decide) (by decide) rfl (wmr hWM 21 rfl) ?_
        refine w_aload_n (zat TX14_store 30 rfl) rfl ?_
        refine y_getI (v := nI nS) (zat TX14_store 31 rfl) fX14_367 s1 (by decide) (by decide) rfl hS ?_
        refine w_iload_n (zat TX14_store 32 rfl) rfl ?_
        refine x_iastore _ _ (zat TX14_store 33 rfl) s32 (by decide) (wmn hWM 20 rfl) (by decide) rfl (by omega) ?_
        refine w_aload_n (zat TX14_store 34 rfl) rfl ?_
        refine w_getR (zat TX14_store 35 rfl) fX14_81 s1 (by decide) (by decide) rfl (wmr hWM 17 rfl) ?_
        refine w_aload_n (zat TX14_store 36 rfl) rfl ?_
        refine y_getI (v := nI nS) (zat TX14_store 37 rfl) fX14_367 s1 (by decide) (by decide) rfl hS ?_
        refine w_iload_n (zat TX14_store 38 rfl) rfl ?_
        refine x_iastore _ _ (zat TX14_store 39 rfl) s28 (by decide) (wmn hWM 16 rfl) (by decide) rfl (by omega) ?_
        refine w_aload_n (zat TX14_store 40 rfl) rfl ?_
        refine w_getR (zat TX14_store 41 rfl) fX14_90 s1 (by decide) (by decide) rfl (wmr hWM 20 rfl) ?_
        refine w_aload_n (zat TX14_store 42 rfl) rfl ?_
        refine y_getI (v := nI nS) (zat TX14_store 43 rfl) fX14_367 s1 (by decide) (by decide) rfl hS ?_
        refine w_iconst (v := -1) (zat TX14_store 44 rfl) (by decide) ?_
        refine x_iastore _ _ (zat TX14_store 45 rfl) s31 (by decide) (wmn hWM 19 rfl) (by decide) rfl (by omega) ?_
        refine w_aload_n (zat TX14_store 46 rfl) rfl ?_
        refine w_dup (zat TX14_store 47 rfl) rfl ?_
        refine y_getI (v := nI nS) (zat TX14_store 48 rfl) fX14_367 s1 (by decide) (by decide) rfl hS ?_
        refine w_iconst (v := 1) (zat TX14_store 49 rfl) (by decide) ?_
        refine w_iadd (zat TX14_store 50 rfl) ?_
        rw [nI_1]
        refine w_putI (zat TX14_store 51 rfl) gX14_store_367 s1 (by decide) (by decide) rfl ⟨rfl, rfl⟩ ?_
        refine w_aload_n (zat TX14_store 52 rfl) rfl ?_
        refine w_aload_n (zat TX14_store 53 rfl) rfl ?_
        refine y_getI (v := nI (nS + 1)) (zat TX14_store 54 rfl) fX14_367 s1 (by decide) (by decide) rfl rfl ?_
        refine w_iconst (v := 1) (zat TX14_store 55 rfl) (by decide) ?_
        refine w_isub (zat TX14_store 56 rfl) ?_
        rw [show nI (nS + 1) - 1 = nI nS from nI_pred nS]
        refine x_callv2 (qX14_done l _ _) (by decide) kX14_done (rdy_V (zat TX14_store 57 rfl) kX14_done pX14_done zw1192 zw1194 zw32 (zrc (by decide) (by decide) rfl)) (Nat.le_of_ble_eq_true rfl) rfl rfl ?_
        refine w_ireturn (zat TX14_store 58 rfl) rfl rfl ?_
        try simp only [zb_0, Decidable.not_not] at Hc10 Hc27 Hc42
        exact ⟨by simp only [mStore, Hc10, Hc27, Hc42, if_true, if_false, and_self, not_true_eq_false, not_false_eq_true, and_false, false_and, true_and, and_true], by simp only [mStore, Hc10, Hc27, Hc42, if_true, if_false, and_self, not_true_eq_false, not_false_eq_true, and_false, false_and, true_and, and_true]⟩
      · replace Hc42 : nS = 8 := nIe (by omega) (by decide) Hc42
        refine w_aload_n (zat TX14_store 24 rfl) rfl ?_
        refine w_iconst (v := 3) (zat TX14_store 25 rfl) (by decide) ?_
        refine x_callv2 (qX14_refused l _ _) (by decide) kX14_refused (rdy_V (zat TX14_store 26 rfl) kX14_refused pX14_refused zw1188 zw1190 zw31 (zrc (by decide) (by decide) rfl)) (Nat.le_of_ble_eq_true rfl) rfl rfl ?_
        refine w_ireturn (zat TX14_store 27 rfl) rfl rfl ?_
        try simp only [zb_0, Decidable.not_not] at Hc10 Hc27 Hc42
        exact ⟨by simp only [mStore, Hc10, Hc27, Hc42, if_true, if_false, and_self, not_true_eq_false, not_false_eq_true, and_false, false_and, true_and, and_true], by simp only [mStore, Hc10, Hc27, Hc42, if_true, if_false, and_self, not_true_eq_false, not_false_eq_true, and_false, false_and, true_and, and_true]⟩
    · refine w_aload_n (zat TX14_store 16 rfl) rfl ?_
      refine w_iconst (v := 2) (zat TX14_store 17 rfl) (by decide) ?_
      refine x_callv2 (qX14_refused l _ _) (by decide) kX14_refused (rdy_V (zat TX14_store 18 rfl) kX14_refused pX14_refused zw1188 zw1190 zw31 (zrc (by decide) (by decide) rfl)) (Nat.le_of_ble_eq_true rfl) rfl rfl ?_
      refine w_ireturn (zat TX14_store 19 rfl) rfl rfl ?_
      try simp only [zb_0, Decidable.not_not] at Hc10 Hc27
      exact ⟨by simp only [mStore, Hc10, Hc27, if_true, if_false, and_self, not_true_eq_false, not_false_eq_true, and_false, false_and, true_and, and_true], by simp only [mStore, Hc10, Hc27, if_true, if_false, and_self, not_true_eq_false, not_false_eq_true, and_false, false_and, true_and, and_true]⟩
  · refine w_aload_n (zat TX14_store 7 rfl) rfl ?_
    refine w_iconst (v := 1) (zat TX14_store 8 rfl) (by decide) ?_
    refine x_callv2 (qX14_refused l _ _) (by decide) kX14_refused (rdy_V (zat TX14_store 9 rfl) kX14_refused pX14_refused zw1188 zw1190 zw31 (zrc (by decide) (by decide) rfl)) (Nat.le_of_ble_eq_true rfl) rfl rfl ?_
    refine w_ireturn (zat TX14_store 10 rfl) rfl rfl ?_
    try simp only [zb_0, Decidable.not_not] at Hc10
    exact ⟨by simp only [mStore, Hc10, if_true, if_false, and_self, not_true_eq_false, not_false_eq_true, and_false, false_and, true_and, and_true], by simp only [mStore, Hc10, if_true, if_false, and_self, not_true_eq_false, not_false_eq_true, and_false, false_and, true_and, and_true]⟩
def mMoves (h : zH) (nS : Nat) (s a z : Int32) : Int32 × zH := if 0 ≤ s ∧ s < nI nS then (if z = 0 then (if (1 ≤ a ∧ a ≤ 1000000) ∧ zI h 29 0 s.toNatClampNeg + a ≤ 1000000000 then (zI h 29 0 s.toNatClampNeg + a, mRef (zsI (zsI h 1 0 0 0) 29 0 s.toNatClampNeg (zI h 29 0 s.toNatClampNeg + a)) 0) else (-1, mRef (zsI h 1 0 0 0) 2))
  else (if (1 ≤ a ∧ a ≤ 1000000) ∧ zI h 30 0 s.toNatClampNeg + a ≤ 1000000000 then (zI h 30 0 s.toNatClampNeg + a, mRef (zsI (zsI h 1 0 0 0) 30 0 s.toNatClampNeg (zI h 30 0 s.toNatClampNeg + a)) 0) else (-1, mRef (zsI h 1 0 0 0) 2))) else (-1, mRef (zsI h 1 0 0 0) 1)
theorem qX14_moves (l : Launch) (h : zH) (hWM : Wm h) (s a z : Int32) (nS : Nat) (hS : zI h 1 0 40 = nI nS) (hS2 : nS ≤ 8) : Cx l 2 mX14_moves [Vq (some (1, 0)), Vi s, Vi a, Vi z] h (Rv (Vi (mMoves h nS s a z).1)) (mMoves h nS s a z).2 := by
  refine Ct.in 1 kX14_moves (plainFor_of_name rfl) (Nat.le_of_ble_eq_true rfl) ?_
  refine w_aload_n (zat TX14_moves_0 0 rfl) rfl ?_
  refine w_iconst (v := 0) (zat TX14_moves_0 1 rfl) (by decide) ?_
  refine w_putI (zat TX14_moves_0 2 rfl) gX14_moves_100 s1 (by decide) (by decide) rfl ⟨rfl, rfl⟩ ?_
  refine w_aload_n (zat TX14_moves_0 3 rfl) rfl ?_
  refine w_iload_n (zat TX14_moves_0 4 rfl) rfl ?_
  refine x_callv2 (qX14_isStore l _ _ nS hS) (by decide) kX14_isStore (rdy_V (zat TX14_moves_0 5 rfl) kX14_isStore pX14_isStore zw1452 zw1454 zw62 (zrc (by decide) (by decide) rfl)) (Nat.le_of_ble_eq_true rfl) rfl rfl ?_
  refine w_if_ne 19 (zat TX14_moves_0 6 rfl) (by decide) (fun Hc10 => ?_) (fun Hc10 => ?_)
  · obtain ⟨Hx, Hn⟩ := ixC (n := nS) (by omega) (zb_n.mp Hc10)
    refine w_iload_n (zat TX14_moves_0 11 rfl) rfl ?_
    refine w_if_eq 32 (zat TX14_moves_0 12 rfl) (by decide) (fun Hc20 => ?_) (fun Hc20 => ?_)
    · refine w_aload_n (zat TX14_moves_0 18 rfl) rfl ?_
      refine w_getR (zat TX14_moves_0 19 rfl) fX14_84 s1 (by decide) (by decide) rfl (wmr hWM 18 rfl) ?_
      refine w_iload_n (zat TX14_moves_0 20 rfl) rfl ?_
      refine y_iaload _ _ (v := zI h 29 0 s.toNatClampNeg) (zat TX14_moves_0 21 rfl) s29 (by decide) (wmn hWM 17 rfl) (by decide) Hx (by omega) rfl ?_
      refine x_istore (ls2 := [_, _, _, _, _]) (zat TX14_moves_0 22 rfl) (by decide) rfl ?_
      refine w_iload_n (zat TX14_moves_0 23 rfl) rfl ?_
      refine w_iconst (v := 1) (zat TX14_moves_0 24 rfl) (by decide) ?_
      refine w_ldcw (v := 1000000) (zat TX14_moves_0 25 rfl) zw1447 ?_
      refine x_callv3 (qX14_in l _ _ _ _) (by decide) kX14_in (rdy_S (zat TX14_moves_0 26 rfl) kX14_in pX14_in zw1185 zw1186) (Nat.le_of_ble_eq_true rfl) rfl rfl ?_
      refine w_if_eq 61 (zat TX14_moves_0 27 rfl) (by decide) (fun Hc48 => ?_) (fun Hc48 => ?_)
      · refine w_aload_n (zat TX14_moves_0 33 rfl) rfl ?_
        refine w_iconst (v := 2) (zat TX14_moves_0 34 rfl) (by decide) ?_
        refine x_callv2 (qX14_refused l _ _) (by decide) kX14_refused (rdy_V (zat TX14_moves_0 35 rfl) kX14_refused pX14_refused zw1188 zw1190 zw31 (zrc (by decide) (by decide) rfl)) (Nat.le_of_ble_eq_true rfl) rfl rfl ?_
        refine w_ireturn (zat TX14_moves_0 36 rfl) rfl rfl ?_
        try simp only [zb_0, Decidable.not_not] at Hc10 Hc20 Hc48
        exact ⟨by simp only [mMoves, Hc10, Hc20, Hc48, if_true, if_false, and_self, not_true_eq_false, not_false_eq_true, and_false, false_and, true_and, and_true], by simp only [mMoves, Hc10, Hc20, Hc48, if_true, if_false, and_self, not_true_eq_false, not_false_eq_true, and_false, false_and, true_and, and_true]⟩
      · refine w_iload (zat TX14_moves_0 28 rfl) rfl ?_
        refine w_iload_n (zat TX14_moves_0 29 rfl) rfl ?_
        refine w_iadd (zat TX14_moves_0 30 rfl) ?_
        refine w_ldcw (v := 1000000000) (zat TX14_moves_0 31 rfl) zw1456 ?_
        refine w_icmp_le 67 (zat TX14_moves_0 32 rfl) (by decide) (fun Hc58 => ?_) (fun Hc58 => ?_)
        · refine w_iload_n (zat TX14_moves_0 37 rfl) rfl ?_
          refine w_if_eq 84 (zat TX14_moves_0 38 rfl) (by decide) (fun Hc68 => ?_) (fun Hc68 => ?_)
          · refine w_aload_n (zat TX14_moves_0 48 rfl) rfl ?_
            refine w_getR (zat TX14_moves_0 49 rfl) fX14_84 s1 (by decide) (by decide) rfl (wmr hWM 18 rfl) ?_
            refine w_iload_n (zat TX14_moves_0 50 rfl) rfl ?_
            refine w_dup2 (zat TX14_moves_0 51 rfl) rfl rfl ?_
            refine y_iaload _ _ (v := zI h 29 0 s.toNatClampNeg) (zat TX14_moves_0 52 rfl) s29 (by decide) (wmn hWM 17 rfl) (by decide) Hx (by omega) rfl ?_
            refine w_iload_n (zat TX14_moves_0 53 rfl) rfl ?_
            refine w_iadd (zat TX14_moves_0 54 rfl) ?_
            refine x_iastore _ _ (zat TX14_moves_0 55 rfl) s29 (by decide) (wmn hWM 17 rfl) (by decide) Hx (by omega) ?_
            refine w_aload_n (zat TX14_moves_0 56 rfl) rfl ?_
            refine w_iload (zat TX14_moves_0 57 rfl) rfl ?_
            refine w_iload_n (zat TX14_moves_0 58 rfl) rfl ?_
            refine w_iadd (zat TX14_moves_0 59 rfl) ?_
            refine x_callv2 (qX14_done l _ _) (by decide) kX14_done (rdy_V (zat TX14_moves_1 0 rfl) kX14_done pX14_done zw1192 zw1194 zw32 (zrc (by decide) (by decide) rfl)) (Nat.le_of_ble_eq_true rfl) rfl rfl ?_
            refine w_ireturn (zat TX14_moves_1 1 rfl) rfl rfl ?_
            try simp only [zb_0, Decidable.not_not] at Hc10 Hc20 Hc48 Hc58 Hc68
            exact ⟨by simp only [mMoves, Hc10, Hc20, Hc48, Hc58, Hc68, if_true, if_false, and_self, not_true_eq_false, not_false_eq_true, and_false, false_and, true_and, and_true], by simp only [mMoves, Hc10, Hc20, Hc48, Hc58, Hc68, if_true, if_false, and_self, not_true_eq_false, not_false_eq_true, and_false, false_and, true_and, and_true]⟩
          · exact absurd Hc20 Hc68
        · refine w_aload_n (zat TX14_moves_0 33 rfl) rfl ?_
          refine w_iconst (v := 2) (zat TX14_moves_0 34 rfl) (by decide) ?_
          refine x_callv2 (qX14_refused l _ _) (by decide) kX14_refused (rdy_V (zat TX14_moves_0 35 rfl) kX14_refused pX14_refused zw1188 zw1190 zw31 (zrc (by decide) (by decide) rfl)) (Nat.le_of_ble_eq_true rfl) rfl rfl ?_
          refine w_ireturn (zat TX14_moves_0 36 rfl) rfl rfl ?_
          try simp only [zb_0, Decidable.not_not] at Hc10 Hc20 Hc48 Hc58
          exact ⟨by simp only [mMoves, Hc10, Hc20, Hc48, Hc58, if_true, if_false, and_self, not_true_eq_false, not_false_eq_true, and_false, false_and, true_and, and_true], by simp only [mMoves, Hc10, Hc20, Hc48, Hc58, if_true, if_false, and_self, not_true_eq_false, not_false_eq_true, and_false, false_and, true_and, and_true]⟩
    · refine w_aload_n (zat TX14_moves_0 13 rfl) rfl ?_
      refine w_getR (zat TX14_moves_0 14 rfl) fX14_87 s1 (by decide) (by decide) rfl (wmr hWM 19 rfl) ?_
      refine w_iload_n (zat TX14_moves_0 15 rfl) rfl ?_
      refine y_iaload _ _ (v := zI h 30 0 s.toNatClampNeg) (zat TX14_moves_0 16 rfl) s30 (by decide) (wmn hWM 18 rfl) (by decide) Hx (by omega) rfl ?_
      refine w_goto 38 (zat TX14_moves_0 17 rfl) (by decide) ?_
      refine x_istore (ls2 := [_, _, _, _, _]) (zat TX14_moves_0 22 rfl) (by decide) rfl ?_
      refine w_iload_n (zat TX14_moves_0 23 rfl) rfl ?_
      refine w_iconst (v := 1) (zat TX14_moves_0 24 rfl) (by decide) ?_
      refine w_ldcw (v := 1000000) (zat TX14_moves_0 25 rfl) zw1447 ?_
      refine x_callv3 (qX14_in l _ _ _ _) (by decide) kX14_in (rdy_S (zat TX14_moves_0 26 rfl) kX14_in pX14_in zw1185 zw1186) (Nat.le_of_ble_eq_true rfl) rfl rfl ?_
      refine w_if_eq 61 (zat TX14_moves_0 27 rfl) (by decide) (fun Hc48 => ?_) (fun Hc48 => ?_)
      · refine w_aload_n (zat TX14_moves_0 33 rfl) rfl ?_
        refine w_iconst (v := 2) (zat TX14_moves_0 34 rfl) (by decide) ?_
        refine x_callv2 (qX14_refused l _ _) (by decide) kX14_refused (rdy_V (zat TX14_moves_0 35 rfl) kX14_refused pX14_refused zw1188 zw1190 zw31 (zrc (by decide) (by decide) rfl)) (Nat.le_of_ble_eq_true rfl) rfl rfl ?_
        refine w_ireturn (zat TX14_moves_0 36 rfl) rfl rfl ?_
        try simp only [zb_0, Decidable.not_not] at Hc10 Hc20 Hc48
        exact ⟨by simp only [mMoves, Hc10, Hc20, Hc48, if_true, if_false, and_self, not_true_eq_false, not_false_eq_true, and_false, false_and, true_and, and_true], by simp only [mMoves, Hc10, Hc20, Hc48, if_true, if_false, and_self, not_true_eq_false, not_false_eq_true, and_false, false_and, true_and, and_true]⟩
      · refine w_iload (zat TX14_moves_0 28 rfl) rfl ?_
        refine w_iload_n (zat TX14_moves_0 29 rfl) rfl ?_
        refine w_iadd (zat TX14_moves_0 30 rfl) ?_
        refine w_ldcw (v := 1000000000) (zat TX14_moves_0 31 rfl) zw1456 ?_
        refine w_icmp_le 67 (zat TX14_moves_0 32 rfl) (by decide) (fun Hc58 => ?_) (fun Hc58 => ?_)
        · refine w_iload_n (zat TX14_moves_0 37 rfl) rfl ?_
          refine w_if_eq 84 (zat TX14_moves_0 38 rfl) (by decide) (fun Hc68 => ?_) (fun Hc68 => ?_)
          · exact absurd Hc68 Hc20
          · refine w_aload_n (zat TX14_moves_0 39 rfl) rfl ?_
            refine w_getR (zat TX14_moves_0 40 rfl) fX14_87 s1 (by decide) (by decide) rfl (wmr hWM 19 rfl) ?_
            refine w_iload_n (zat TX14_moves_0 41 rfl) rfl ?_
            refine w_dup2 (zat TX14_moves_0 42 rfl) rfl rfl ?_
            refine y_iaload _ _ (v := zI h 30 0 s.toNatClampNeg) (zat TX14_moves_0 43 rfl) s30 (by decide) (wmn hWM 18 rfl) (by decide) Hx (by omega) rfl ?_
            refine w_iload_n (zat TX14_moves_0 44 rfl) rfl ?_
            refine w_iadd (zat TX14_moves_0 45 rfl) ?_
            refine x_iastore _ _ (zat TX14_moves_0 46 rfl) s30 (by decide) (wmn hWM 18 rfl) (by decide) Hx (by omega) ?_
            refine w_goto 94 (zat TX14_moves_0 47 rfl) (by decide) ?_
            refine w_aload_n (zat TX14_moves_0 56 rfl) rfl ?_
            refine w_iload (zat TX14_moves_0 57 rfl) rfl ?_
            refine w_iload_n (zat TX14_moves_0 58 rfl) rfl ?_
            refine w_iadd (zat TX14_moves_0 59 rfl) ?_
            refine x_callv2 (qX14_done l _ _) (by decide) kX14_done (rdy_V (zat TX14_moves_1 0 rfl) kX14_done pX14_done zw1192 zw1194 zw32 (zrc (by decide) (by decide) rfl)) (Nat.le_of_ble_eq_true rfl) rfl rfl ?_
            refine w_ireturn (zat TX14_moves_1 1 rfl) rfl rfl ?_
            try simp only [zb_0, Decidable.not_not] at Hc10 Hc20 Hc48 Hc58 Hc68
            exact ⟨by simp only [mMoves, Hc10, Hc20, Hc48, Hc58, Hc68, if_true, if_false, and_self, not_true_eq_false, not_false_eq_true, and_false, false_and, true_and, and_true], by simp only [mMoves, Hc10, Hc20, Hc48, Hc58, Hc68, if_true, if_false, and_self, not_true_eq_false, not_false_eq_true, and_false, false_and, true_and, and_true]⟩
        · refine w_aload_n (zat TX14_moves_0 33 rfl) rfl ?_
          refine w_iconst (v := 2) (zat TX14_moves_0 34 rfl) (by decide) ?_
          refine x_callv2 (qX14_refused l _ _) (by decide) kX14_refused (rdy_V (zat TX14_moves_0 35 rfl) kX14_refused pX14_refused zw1188 zw1190 zw31 (zrc (by decide) (by decide) rfl)) (Nat.le_of_ble_eq_true rfl) rfl rfl ?_
          refine w_ireturn (zat TX14_moves_0 36 rfl) rfl rfl ?_
          try simp only [zb_0, Decidable.not_not] at Hc10 Hc20 Hc48 Hc58
          exact ⟨by simp only [mMoves, Hc10, Hc20, Hc48, Hc58, if_true, if_false, and_self, not_true_eq_false, not_false_eq_true, and_false, false_and, true_and, and_true], by simp only [mMoves, Hc10, Hc20, Hc48, Hc58, if_true, if_false, and_self, not_true_eq_false, not_false_eq_true, and_false, false_and, true_and, and_true]⟩
  · refine w_aload_n (zat TX14_moves_0 7 rfl) rfl ?_
    refine w_iconst (v := 1) (zat TX14_moves_0 8 rfl) (by decide) ?_
    refine x_callv2 (qX14_refused l _ _) (by decide) kX14_refused (rdy_V (zat TX14_moves_0 9 rfl) kX14_refused pX14_refused zw1188 zw1190 zw31 (zrc (by decide) (by decide) rfl)) (Nat.le_of_ble_eq_true rfl) rfl rfl ?_
    refine w_ireturn (zat TX14_moves_0 10 rfl) rfl rfl ?_
    try simp only [zb_0, Decidable.not_not] at Hc10
    exact ⟨by simp only [mMoves, Hc10, if_true, if_false, and_self, not_true_eq_false, not_false_eq_true, and_false, false_and, true_and, and_true], by simp only [mMoves, Hc10, if_true, if_false, and_self, not_true_eq_false, not_false_eq_true, and_false, false_and, true_and, and_true]⟩
theorem qX14_missingNow (l : Launch) (h : zH) (hWM : Wm h) (s : Int32) (n : Nat) (Hx : s = nI n) (Hn : n < 8) : Cx l 1 mX14_missingNow [Vq (some (1, 0)), Vi s] h (Rv (Vi (zI h 28 0 n + zI h 29 0 n - zI h 30 0 n - zI h 31 0 n))) h := by
  refine Ct.in 0 kX14_missingNow (plainFor_of_name rfl) (Nat.le_of_ble_eq_true rfl) ?_
  refine w_aload_n (zat TX14_missingNow 0 rfl) rfl ?_
  refine w_getR (zat TX14_missingNow 1 rfl) fX14_81 s1 (by decide) (by decide) rfl (wmr hWM 17 rfl) ?_
  refine w_iload_n (zat TX14_missingNow 2 rfl) rfl ?_
  refine x_iaload _ _ (zat TX14_missingNow 3 rfl) s28 (by decide) (wmn hWM 16 rfl) (by decide) Hx Hn ?_
  refine w_aload_n (zat TX14_missingNow 4 rfl) rfl ?_
  refine w_getR (zat TX14_missingNow 5 rfl) fX14_84 s1 (by decide) (by decide) rfl (wmr hWM 18 rfl) ?_
  refine w_iload_n (zat TX14_missingNow 6 rfl) rfl ?_
  refine x_iaload _ _ (zat TX14_missingNow 7 rfl) s29 (by decide) (wmn hWM 17 rfl) (by decide) Hx Hn ?_
  refine w_iadd (zat TX14_missingNow 8 rfl) ?_
  refine w_aload_n (zat TX14_missingNow 9 rfl) rfl ?_
  refine w_getR (zat TX14_missingNow 10 rfl) fX14_87 s1 (by decide) (by decide) rfl (wmr hWM 19 rfl) ?_
  refine w_iload_n (zat TX14_missingNow 11 rfl) rfl ?_
  refine x_iaload _ _ (zat TX14_missingNow 12 rfl) s30 (by decide) (wmn hWM 18 rfl) (by decide) Hx Hn ?_
  refine w_isub (zat TX14_missingNow 13 rfl) ?_
  refine w_aload_n (zat TX14_missingNow 14 rfl) rfl ?_
  refine w_getR (zat TX14_missingNow 15 rfl) fX14_90 s1 (by decide) (by decide) rfl (wmr hWM 20 rfl) ?_
  refine w_iload_n (zat TX14_missingNow 16 rfl) rfl ?_
  refine x_iaload _ _ (zat TX14_missingNow 17 rfl) s31 (by decide) (wmn hWM 19 rfl) (by decide) Hx Hn ?_
  refine w_isub (zat TX14_missingNow 18 rfl) ?_
  refine w_ireturn (zat TX14_missingNow 19 rfl) rfl rfl ?_
  exact ⟨rfl, rfl⟩
def mCounted (h : zH) (nS : Nat) (s a : Int32) : Int32 × zH := if 0 ≤ s ∧ s < nI nS then (if 0 ≤ a ∧ a ≤ 1000000000 then (zI h 28 0 s.toNatClampNeg + zI h 29 0 s.toNatClampNeg - zI h 30 0 s.toNatClampNeg - a, mRef (zsI (zsI h 1 0 0 0) 31 0 s.toNatClampNeg a) 0) else (-1, mRef (zsI h 1 0 0 0) 2)) else (-1, mRef (zsI h 1 0 0 0) 1)
theorem qX14_counted (l : Launch) (h : zH) (hWM : Wm h) (s a : Int32) (nS : Nat) (hS : zI h 1 0 40 = nI nS) (hS2 : nS ≤ 8) : Cx l 2 mX14_counted [Vq (some (1, 0)), Vi s, Vi a] h (Rv (Vi (mCounted h nS s a).1)) (mCounted h nS s a).2 := by
  refine Ct.in 0 kX14_counted (plainFor_of_name rfl) (Nat.le_of_ble_eq_true rfl) ?_
  refine w_aload_n (zat TX14_counted 0 rfl) rfl ?_
  refine w_iconst (v := 0) (zat TX14_counted 1 rfl) (by decide) ?_
  refine w_putI (zat TX14_counted 2 rfl) gX14_counted_100 s1 (by decide) (by decide) rfl ⟨rfl, rfl⟩ ?_
  refine w_aload_n (zat TX14_counted 3 rfl) rfl ?_
  refine w_iload_n (zat TX14_counted 4 rfl) rfl ?_
  refine x_callv2 (qX14_isStore l _ _ nS hS) (by decide) kX14_isStore (rdy_V (zat TX14_counted 5 rfl) kX14_isStore pX14_isStore zw1452 zw1454 zw62 (zrc (by decide) (by decide) rfl)) (Nat.le_of_ble_eq_true rfl) rfl rfl ?_
  refine w_if_ne 19 (zat TX14_counted 6 rfl) (by decide) (fun Hc10 => ?_) (fun Hc10 => ?_)
  · obtain ⟨Hx, Hn⟩ := ixC (n := nS) (by omega) (zb_n.mp Hc10)
    refine w_iload_n (zat TX14_counted 11 rfl) rfl ?_
    refine w_iconst (v := 0) (zat TX14_counted 12 rfl) (by decide) ?_
    refine w_ldcw (v := 1000000000) (zat TX14_counted 13 rfl) zw1456 ?_
    refine x_callv3 (qX14_in l _ _ _ _) (by decide) kX14_in (rdy_S (zat TX14_counted 14 rfl) kX14_in pX14_in zw1185 zw1186) (Nat.le_of_ble_eq_true rfl) rfl rfl ?_
    refine w_if_ne 36 (zat TX14_counted 15 rfl) (by decide) (fun Hc27 => ?_) (fun Hc27 => ?_)
    · refine w_aload_n (zat TX14_counted 20 rfl) rfl ?_
      refine w_getR (zat TX14_counted 21 rfl) fX14_90 s1 (by decide) (by decide) rfl (wmr hWM 20 rfl) ?_
      refine w_iload_n (zat TX14_counted 22 rfl) rfl ?_
      refine w_iload_n (zat TX14_counted 23 rfl) rfl ?_
      refine x_iastore _ _ (zat TX14_counted 24 rfl) s31 (by decide) (wmn hWM 19 rfl) (by decide) Hx (by omega) ?_
      refine w_aload_n (zat TX14_counted 25 rfl) rfl ?_
      refine w_aload_n (zat TX14_counted 26 rfl) rfl ?_
      refine w_iload_n (zat TX14_counted 27 rfl) rfl ?_
      refine x_callv2 (qX14_missingNow l (zsI (zsI h 1 0 0 0) 31 0 s.toNatClampNeg a) hWM _ _ Hx (by omega)) (by decide) kX14_missingNow (rdy_V (zat TX14_counted 28 rfl) kX14_missingNow pX14_missingNow zw1439 zw1441 zw61 (zrc (by decide) (by decide) rfl)) (Nat.le_of_ble_eq_true rfl) rfl rfl ?_
      rw [show zI (zsI (zsI h 1 0 0 0) 31 0 s.toNatClampNeg a) 28 0 s.toNatClampNeg = zI h 28 0 s.toNatClampNeg from rfl, show zI (zsI (zsI h 1 0 0 0) 31 0 s.toNatClampNeg a) 29 0 s.toNatClampNeg = zI h 29 0 s.toNatClampNeg from rfl, show zI (zsI (zsI h 1 0 0 0) 31 0 s.toNatClampNeg a) 30 0 s.toNatClampNeg = zI h 30 0 s.toNatClampNeg from rfl, zI_same]
      refine x_callv2 (qX14_done l _ _) (by decide) kX14_done (rdy_V (zat TX14_counted 29 rfl) kX14_done pX14_done zw1192 zw1194 zw32 (zrc (by decide) (by decide) rfl)) (Nat.le_of_ble_eq_true rfl) rfl rfl ?_
      refine w_ireturn (zat TX14_counted 30 rfl) rfl rfl ?_
      try simp only [zb_0, Decidable.not_not] at Hc10 Hc27
      exact ⟨by simp only [mCounted, Hc10, Hc27, if_true, if_false, and_self, not_true_eq_false, not_false_eq_true, and_false, false_and, true_and, and_true], by simp only [mCounted, Hc10, Hc27, if_true, if_false, and_self, not_true_eq_false, not_false_eq_true, and_false, false_and, true_and, and_true]⟩
    · refine w_aload_n (zat TX14_counted 16 rfl) rfl ?_
      refine w_iconst (v := 2) (zat TX14_counted 17 rfl) (by decide) ?_
      refine x_callv2 (qX14_refused l _ _) (by decide) kX14_refused (rdy_V (zat TX14_counted 18 rfl) kX14_refused pX14_refused zw1188 zw1190 zw31 (zrc (by decide) (by decide) rfl)) (Nat.le_of_ble_eq_true rfl) rfl rfl ?_
      refine w_ireturn (zat TX14_counted 19 rfl) rfl rfl ?_
      try simp only [zb_0, Decidable.not_not] at Hc10 Hc27
      exact ⟨by simp only [mCounted, Hc10, Hc27, if_true, if_false, and_self, not_true_eq_false, not_false_eq_true, and_false, false_and, true_and, and_true], by simp only [mCounted, Hc10, Hc27, if_true, if_false, and_self, not_true_eq_false, not_false_eq_true, and_false, false_and, true_and, and_true]⟩
  · refine w_aload_n (zat TX14_counted 7 rfl) rfl ?_
    refine w_iconst (v := 1) (zat TX14_counted 8 rfl) (by decide) ?_
    refine x_callv2 (qX14_refused l _ _) (by decide) kX14_refused (rdy_V (zat TX14_counted 9 rfl) kX14_refused pX14_refused zw1188 zw1190 zw31 (zrc (by decide) (by decide) rfl)) (Nat.le_of_ble_eq_true rfl) rfl rfl ?_
    refine w_ireturn (zat TX14_counted 10 rfl) rfl rfl ?_
    try simp only [zb_0, Decidable.not_not] at Hc10
    exact ⟨by simp only [mCounted, Hc10, if_true, if_false, and_self, not_true_eq_false, not_false_eq_true, and_false, false_and, true_and, and_true], by simp only [mCounted, Hc10, if_true, if_false, and_self, not_true_eq_false, not_false_eq_true, and_false, false_and, true_and, and_true]⟩
def mMissing (h : zH) (nS : Nat) (s : Int32) : Int64 := if 0 ≤ s ∧ s < nI nS then zL h 33 0 s.toNatClampNeg else 0
theorem qX14_missing (l : Launch) (h : zH) (hWM : Wm h) (s : Int32) (nS : Nat) (hS : zI h 1 0 40 = nI nS) (hS2 : nS ≤ 8) : Cx l 2 mX14_missing [Vq (some (1, 0)), Vi s] h (Rv (Vj (mMissing h nS s))) (zsI h 1 0 0 0) := by
  refine Ct.in 0 kX14_missing (plainFor_of_name rfl) (Nat.le_of_ble_eq_true rfl) ?_
  refine w_aload_n (zat TX14_missing 0 rfl) rfl ?_
  refine w_iconst (v := 0) (zat TX14_missing 1 rfl) (by decide) ?_
  refine w_putI (zat TX14_missing 2 rfl) gX14_missing_100 s1 (by decide) (by decide) rfl ⟨rfl, rfl⟩ ?_
  refine w_aload_n (zat TX14_missing 3 rfl) rfl ?_
  refine w_iload_n (zat TX14_missing 4 rfl) rfl ?_
  refine x_callv2 (qX14_isStore l _ _ nS hS) (by decide) kX14_isStore (rdy_V (zat TX14_missing 5 rfl) kX14_isStore pX14_isStore zw1452 zw1454 zw62 (zrc (by decide) (by decide) rfl)) (Nat.le_of_ble_eq_true rfl) rfl rfl ?_
  refine w_if_eq 22 (zat TX14_missing 6 rfl) (by decide) (fun Hc10 => ?_) (fun Hc10 => ?_)
  · refine w_lconst (v := 0) (zat TX14_missing 12 rfl) (by decide) ?_
    refine w_lreturn (zat TX14_missing 13 rfl) rfl ?_
    try simp only [zb_0, Decidable.not_not] at Hc10
    exact ⟨by simp only [mMissing, Hc10, if_true, if_false, and_self, not_true_eq_false, not_false_eq_true, and_false, false_and, true_and, and_true], rfl⟩
  · obtain ⟨Hx, Hn⟩ := ixC (n := nS) (by omega) (zb_n.mp Hc10)
    refine w_aload_n (zat TX14_missing 7 rfl) rfl ?_
    refine w_getR (zat TX14_missing 8 rfl) fX14_96 s1 (by decide) (by decide) rfl (wmr hWM 22 rfl) ?_
    refine w_iload_n (zat TX14_missing 9 rfl) rfl ?_
    refine y_laload _ _ (v := zL h 33 0 s.toNatClampNeg) (zat TX14_missing 10 rfl) s33 (by decide) (wmn hWM 21 rfl) (by decide) Hx (by omega) rfl ?_
    refine w_goto 23 (zat TX14_missing 11 rfl) (by decide) ?_
    refine w_lreturn (zat TX14_missing 13 rfl) rfl ?_
    try simp only [zb_0, Decidable.not_not] at Hc10
    exact ⟨by simp only [mMissing, Hc10, if_true, if_false, and_self, not_true_eq_false, not_false_eq_true, and_false, false_and, true_and, and_true], rfl⟩
def mStand (h : zH) (nT : Nat) (b : Int32) : Int32 := if 0 ≤ b ∧ b < nI nT then zI h 27 0 b.toNatClampNeg else -1
theorem qX14_stand (l : Launch) (h : zH) (hWM : Wm h) (b : Int32) (nT : Nat) (hT : zI h 1 0 39 = nI nT) (hT2 : nT ≤ 16) : Cx l 1 mX14_stand [Vq (some (1, 0)), Vi b] h (Rv (Vi (mStand h nT b))) (zsI h 1 0 0 0) := by
  refine Ct.in 0 kX14_stand (plainFor_of_name rfl) (Nat.le_of_ble_eq_true rfl) ?_
  refine w_aload_n (zat TX14_stand 0 rfl) rfl ?_
  refine w_iconst (v := 0) (zat TX14_stand 1 rfl) (by decide) ?_
  refine w_putI (zat TX14_stand 2 rfl) gX14_stand_100 s1 (by decide) (by decide) rfl ⟨rfl, rfl⟩ ?_
  refine w_iload_n (zat TX14_stand 3 rfl) rfl ?_
  refine w_if_lt 26 (zat TX14_stand 4 rfl) (by decide) (fun Hc6 => ?_) (fun Hc6 => ?_)
  · refine w_iconst (v := -1) (zat TX14_stand 14 rfl) (by decide) ?_
    refine w_ireturn (zat TX14_stand 15 rfl) rfl rfl ?_
    exact ⟨by rw [mStand, if_neg (fun q => Int32.not_le.mpr Hc6 q.1)], rfl⟩
  · have Hb : 0 ≤ b := by rw [Int32.le_iff_toInt_le]; rw [Int32.lt_iff_toInt_lt] at Hc6; omega
    refine w_iload_n (zat TX14_stand 5 rfl) rfl ?_
    refine w_aload_n (zat TX14_stand 6 rfl) rfl ?_
    refine y_getI (v := nI nT) (zat TX14_stand 7 rfl) fX14_364 s1 (by decide) (by decide) rfl hT ?_
    refine w_icmp_ge 26 (zat TX14_stand 8 rfl) (by decide) (fun Hc14 => ?_) (fun Hc14 => ?_)
    · refine w_iconst (v := -1) (zat TX14_stand 14 rfl) (by decide) ?_
      refine w_ireturn (zat TX14_stand 15 rfl) rfl rfl ?_
      exact ⟨by rw [mStand, if_neg (fun q => Int32.not_lt.mpr Hc14 q.2)], rfl⟩
    · have Hb2 : 0 ≤ b ∧ b < nI nT := ⟨Hb, by rw [Int32.lt_iff_toInt_lt]; rw [Int32.le_iff_toInt_le] at Hc14; omega⟩
      obtain ⟨Hx, Hn⟩ := ixC (n := nT) (by omega) Hb2
      refine w_aload_n (zat TX14_stand 9 rfl) rfl ?_
      refine w_getR (zat TX14_stand 10 rfl) fX14_78 s1 (by decide) (by decide) rfl (wmr hWM 16 rfl) ?_
      refine w_iload_n (zat TX14_stand 11 rfl) rfl ?_
      refine y_iaload _ _ (v := zI h 27 0 b.toNatClampNeg) (zat TX14_stand 12 rfl) s27 (by decide) (wmn hWM 15 rfl) (by decide) Hx (by omega) rfl ?_
      refine w_goto 27 (zat TX14_stand 13 rfl) (by decide) ?_
      refine w_ireturn (zat TX14_stand 15 rfl) rfl rfl ?_
      exact ⟨by rw [mStand, if_pos Hb2], rfl⟩
end
section
-- THE MODEL'S LOOPS, by program (wip/gen/p21.py)
theorem nI_inc (a : Nat) : nI a + Int32.ofInt 1 = nI (a + 1) := nI_1 a
theorem lc_le {x y : Int64} : lg_cmp x y ≤ 0 ↔ ¬ y < x := by rw [← lc_gt, Int32.not_lt]
theorem i_le {x y : Int32} : ¬ (x ≤ y) ↔ y < x := Int32.not_le
theorem nI_ne2 (j : Nat) (h : j < 2 ^ 31) : ¬ nI j = -2 := by
  intro q
  have h1 := congrArg Int32.toInt q
  rw [nI_toInt h] at h1
  have h2 : (-2 : Int32).toInt = -2 := by decide
  rw [h2] at h1
  omega
theorem nI_ne1 (j : Nat) (h : j < 2 ^ 31) : ¬ nI j = -1 := by
  intro q
  have h1 := congrArg Int32.toInt q
  rw [nI_toInt h] at h1
  have h2 : (-1 : Int32).toInt = -1 := by decide
  rw [h2] at h1
  omega
/-- the worst of the first s stores -/
def mW (Z : Nat → Int64) : Nat → Int32
  | 0 => -2
  | s + 1 => if 0 < Z s ∧ (mW Z s = -2 ∨ Z (mW Z s).toNatClampNeg < Z s) then nI s else mW Z s
theorem mW_ix (Z : Nat → Int64) : ∀ s, s < 1000 → mW Z s = -2 ∨ ∃ j, j < s ∧ mW Z s = nI j
  | 0, _ => Or.inl rfl
  | s + 1, h => by
    unfold mW
    split
    · exact Or.inr ⟨s, Nat.lt_succ_self s, rfl⟩
    · rcases mW_ix Z s (by omega) with q | ⟨j, h1, h2⟩
      · exact Or.inl q
      · exact Or.inr ⟨j, by omega, h2⟩
theorem lX14_worst (l : Launch) (h : zH) (hWM : Wm h) (nS : Nat) (hS : zI h 1 0 40 = nI nS) (hS2 : nS ≤ 8) : ∀ kk s : Nat, s + kk = nS → Wp l mX14_worst 1 10 [some (Vq (some (1, 0))), some (Vi (mW (zL h 33 0) s)), some (Vi (nI s))] [] (zsI h 1 0 0 0) (fun o h' => o = Rv (Vi (mW (zL h 33 0) nS)) ∧ h' = (zsI h 1 0 0 0)) := by
  intro kk
  induction kk with
  | zero =>
    intro s hs
    refine w_iload_n (zat TX14_worst 7 rfl) rfl ?_
    refine w_aload_n (zat TX14_worst 8 rfl) rfl ?_
    refine y_getI (v := nI nS) (zat TX14_worst 9 rfl) fX14_367 s1 (by decide) (by decide) rfl hS ?_
    refine w_icmp_ge 59 (zat TX14_worst 10 rfl) (by decide) (fun Hc15 => ?_) (fun Hc15 => ?_)
    · refine w_iload_n (zat TX14_worst 35 rfl) rfl ?_
      refine w_ireturn (zat TX14_worst 36 rfl) rfl rfl ?_
      exact ⟨by rw [show s = nS by omega], rfl⟩
    · exact absurd (nI_le (by omega) (by omega)) Hc15
  | succ kk ih =>
    intro s hs
    refine w_iload_n (zat TX14_worst 7 rfl) rfl ?_
    refine w_aload_n (zat TX14_worst 8 rfl) rfl ?_
    refine y_getI (v := nI nS) (zat TX14_worst 9 rfl) fX14_367 s1 (by decide) (by decide) rfl hS ?_
    refine w_icmp_ge 59 (zat TX14_worst 10 rfl) (by decide) (fun Hc15 => ?_) (fun Hc15 => ?_)
    · exact absurd Hc15 (nI_ge (by omega) (by omega))
    · refine w_aload_n (zat TX14_worst 11 rfl) rfl ?_
      refine w_getR (zat TX14_worst 12 rfl) fX14_96 s1 (by decide) (by decide) rfl (wmr hWM 22 rfl) ?_
      refine w_iload_n (zat TX14_worst 13 rfl) rfl ?_
      refine y_laload _ _ (v := zL h 33 0 s) (zat TX14_worst 14 rfl) s33 (by decide) (wmn hWM 21 rfl) (by decide) rfl (by omega) rfl ?_
      refine w_lconst (v := 0) (zat TX14_worst 15 rfl) (by decide) ?_
      refine w_lcmp (zat TX14_worst 16 rfl) ?_
      refine w_if_le 53 (zat TX14_worst 17 rfl) (by decide) (fun Hc26 => ?_) (fun Hc26 => ?_)
      · rw [lc_le] at Hc26
        have Hm : mW (zL h 33 0) (s + 1) = mW (zL h 33 0) s := by rw [mW, if_neg (fun q => Hc26 q.1)]
        refine x_iinc (v := nI (s + 1)) (ls2 := [_, _, _]) (zat TX14_worst 33 rfl) rfl (nI_inc s) rfl ?_
        refine w_goto 10 (zat TX14_worst 34 rfl) (by decide) ?_
        rw [← Hm]
        exact ih (s + 1) (by omega)
      · rw [lc_le, Decidable.not_not] at Hc26
        refine w_iload_n (zat TX14_worst 18 rfl) rfl ?_
        refine w_bipush (v := -2) (zat TX14_worst 19 rfl) (by decide) ?_
        refine w_icmp_eq 51 (zat TX14_worst 20 rfl) (by decide) (fun Hc32 => ?_) (fun Hc32 => ?_)
        · have Hm : mW (zL h 33 0) (s + 1) = nI s := by rw [mW, if_pos ⟨Hc26, Or.inl Hc32⟩]
          refine w_iload_n (zat TX14_worst 31 rfl) rfl ?_
          refine x_istore_n (ls2 := [_, _, _]) (zat TX14_worst 32 rfl) (by decide) rfl ?_
          refine x_iinc (v := nI (s + 1)) (ls2 := [_, _, _]) (zat TX14_worst 33 rfl) rfl (nI_inc s) rfl ?_
          refine w_goto 10 (zat TX14_worst 34 rfl) (by decide) ?_
          rw [← Hm]
          exact ih (s + 1) (by omega)
        · obtain ⟨j, Hj1, Hj2⟩ := (mW_ix (zL h 33 0) s (by omega)).resolve_left Hc32
          refine w_aload_n (zat TX14_worst 21 rfl) rfl ?_
          refine w_getR (zat TX14_worst 22 rfl) fX14_96 s1 (by decide) (by decide) rfl (wmr hWM 22 rfl) ?_
          refine w_iload_n (zat TX14_worst 23 rfl) rfl ?_
          refine y_laload _ _ (v := zL h 33 0 s) (zat TX14_worst 24 rfl) s33 (by decide) (wmn hWM 21 rfl) (by decide) rfl (by omega) rfl ?_
          refine w_aload_n (zat TX14_worst 25 rfl) rfl ?_
          refine w_getR (zat TX14_worst 26 rfl) fX14_96 s1 (by decide) (by decide) rfl (wmr hWM 22 rfl) ?_
          refine w_iload_n (zat TX14_worst 27 rfl) rfl ?_
          refine y_laload j _ (v := zL h 33 0 j) (zat TX14_worst 28 rfl) s33 (by decide) (wmn hWM 21 rfl) (by decide) Hj2 (by omega) rfl ?_
          refine w_lcmp (zat TX14_worst 29 rfl) ?_
          refine w_if_le 53 (zat TX14_worst 30 rfl) (by decide) (fun Hc48 => ?_) (fun Hc48 => ?_)
          · rw [lc_le] at Hc48
            have Hm : mW (zL h 33 0) (s + 1) = mW (zL h 33 0) s := by rw [mW, if_neg (fun q => q.2.elim Hc32 (fun z => Hc48 (by rw [Hj2, nI_clamp (by omega)] at z; exact z)))]
            refine x_iinc (v := nI (s + 1)) (ls2 := [_, _, _]) (zat TX14_worst 33 rfl) rfl (nI_inc s) rfl ?_
            refine w_goto 10 (zat TX14_worst 34 rfl) (by decide) ?_
            rw [← Hm]
            exact ih (s + 1) (by omega)
          · rw [lc_le, Decidable.not_not] at Hc48
            have Hm : mW (zL h 33 0) (s + 1) = nI s := by rw [mW, if_pos ⟨Hc26, Or.inr (by rw [Hj2, nI_clamp (by omega)]; exact Hc48)⟩]
            refine w_iload_n (zat TX14_worst 31 rfl) rfl ?_
            refine x_istore_n (ls2 := [_, _, _]) (zat TX14_worst 32 rfl) (by decide) rfl ?_
            refine x_iinc (v := nI (s + 1)) (ls2 := [_, _, _]) (zat TX14_worst 33 rfl) rfl (nI_inc s) rfl ?_
            refine w_goto 10 (zat TX14_worst 34 rfl) (by decide) ?_
            rw [← Hm]
            exact ih (s + 1) (by omega)
theorem qX14_worst (l : Launch) (h : zH) (hWM : Wm h) (nS : Nat) (hS : zI h 1 0 40 = nI nS) (hS2 : nS ≤ 8) : Cx l 1 mX14_worst [Vq (some (1, 0))] h (Rv (Vi (mW (zL h 33 0) nS))) (zsI h 1 0 0 0) := by
  refine Ct.in 2 kX14_worst (plainFor_of_name rfl) (Nat.le_of_ble_eq_true rfl) ?_
  refine w_aload_n (zat TX14_worst 0 rfl) rfl ?_
  refine w_iconst (v := 0) (zat TX14_worst 1 rfl) (by decide) ?_
  refine w_putI (zat TX14_worst 2 rfl) gX14_worst_100 s1 (by decide) (by decide) rfl ⟨rfl, rfl⟩ ?_
  refine w_bipush (v := -2) (zat TX14_worst 3 rfl) (by decide) ?_
  refine x_istore_n (ls2 := [_, _, _]) (zat TX14_worst 4 rfl) (by decide) rfl ?_
  refine w_iconst (v := 0) (zat TX14_worst 5 rfl) (by decide) ?_
  refine x_istore_n (ls2 := [_, _, _]) (zat TX14_worst 6 rfl) (by decide) rfl ?_
  exact lX14_worst l h hWM nS hS hS2 nS 0 (by omega)
def mG (f : Nat → Int32) : Nat → Int32
  | 0 => 0
  | s + 1 => mG f s + f s
theorem lX14_count (l : Launch) (h : zH) (hWM : Wm h) (w : Int32) (nB : Nat) (hB : zI h 1 0 5 = nI nB) (hB2 : nB ≤ 16) : ∀ kk s : Nat, s + kk = nB → Wp l mX14_count 1 82 [some (Vq (some (1, 0))), some (Vi w), some (Vi (mG (zI h 15 0) s)), some (Vi (nI s))] [] (zsI h 1 0 0 0) (fun o h' => o = Rv (Vi (mG (zI h 15 0) nB)) ∧ h' = (zsI h 1 0 0 0)) := by
  intro kk
  induction kk with
  | zero =>
    intro s hs
    refine w_iload_n (zat TX14_count 27 rfl) rfl ?_
    refine w_aload_n (zat TX14_count 28 rfl) rfl ?_
    refine y_getI (v := nI nB) (zat TX14_count 29 rfl) fX14_109 s1 (by decide) (by decide) rfl hB ?_
    refine w_icmp_ge 105 (zat TX14_count 30 rfl) (by decide) (fun Hc87 => ?_) (fun Hc87 => ?_)
    · refine w_iload_n (zat TX14_count 40 rfl) rfl ?_
      refine w_ireturn (zat TX14_count 41 rfl) rfl rfl ?_
      exact ⟨by rw [show s = nB by omega], rfl⟩
    · exact absurd (nI_le (by omega) (by omega)) Hc87
  | succ kk ih =>
    intro s hs
    refine w_iload_n (zat TX14_count 27 rfl) rfl ?_
    refine w_aload_n (zat TX14_count 28 rfl) rfl ?_
    refine y_getI (v := nI nB) (zat TX14_count 29 rfl) fX14_109 s1 (by decide) (by decide) rfl hB ?_
    refine w_icmp_ge 105 (zat TX14_count 30 rfl) (by decide) (fun Hc87 => ?_) (fun Hc87 => ?_)
    · exact absurd Hc87 (nI_ge (by omega) (by omega))
    · refine w_iload_n (zat TX14_count 31 rfl) rfl ?_
      refine w_aload_n (zat TX14_count 32 rfl) rfl ?_
      refine w_getR (zat TX14_count 33 rfl) fX14_32 s1 (by decide) (by decide) rfl (wmr hWM 5 rfl) ?_
      refine w_iload_n (zat TX14_count 34 rfl) rfl ?_
      refine y_iaload _ _ (v := zI h 15 0 s) (zat TX14_count 35 rfl) s15 (by decide) (wmn hWM 5 rfl) (by decide) rfl (by omega) rfl ?_
      refine w_iadd (zat TX14_count 36 rfl) ?_
      refine x_istore_n (ls2 := [_, _, _, _]) (zat TX14_count 37 rfl) (by decide) rfl ?_
      refine x_iinc (v := nI (s + 1)) (ls2 := [_, _, _, _]) (zat TX14_count 38 rfl) rfl (nI_inc s) rfl ?_
      refine w_goto 82 (zat TX14_count 39 rfl) (by decide) ?_
      exact ih (s + 1) (by omega)
def mCount (h : zH) (nB : Nat) (w : Int32) : Int32 := if w = 0 then zI h 1 0 4 else if w = 1 then zI h 1 0 5 else if w = 2 then zI h 1 0 14 else if w = 3 then zI h 1 0 6 else if w = 4 then zI h 1 0 40 else if w = 5 then zI h 1 0 19 else if w = 6 then mG (zI h 15 0) nB else -1
theorem qX14_count (l : Launch) (h : zH) (hWM : Wm h) (w : Int32) (nB : Nat) (hB : zI h 1 0 5 = nI nB) (hB2 : nB ≤ 16) : Cx l 1 mX14_count [Vq (some (1, 0)), Vi w] h (Rv (Vi (mCount h nB w))) (zsI h 1 0 0 0) := by
  refine Ct.in 2 kX14_count (plainFor_of_name rfl) (Nat.le_of_ble_eq_true rfl) ?_
  refine w_aload_n (zat TX14_count 0 rfl) rfl ?_
  refine w_iconst (v := 0) (zat TX14_count 1 rfl) (by decide) ?_
  refine w_putI (zat TX14_count 2 rfl) gX14_count_100 s1 (by decide) (by decide) rfl ⟨rfl, rfl⟩ ?_
  refine w_iload_n (zat TX14_count 3 rfl) rfl ?_
  by_cases Hw0 : w = 0
  · subst Hw0
    refine w_tableIn 48 (zat TX14_count 4 rfl) (by decide) (by decide) rfl (by decide) ?_
    refine w_aload_n (zat TX14_count 5 rfl) rfl ?_
    refine y_getI (v := zI h 1 0 4) (zat TX14_count 6 rfl) fX14_106 s1 (by decide) (by decide) rfl rfl ?_
    refine w_ireturn (zat TX14_count 7 rfl) rfl rfl ?_
    exact ⟨by simp only [mCount]; rfl, rfl⟩
  · skip
    by_cases Hw1 : w = 1
    · subst Hw1
      refine w_tableIn 53 (zat TX14_count 4 rfl) (by decide) (by decide) rfl (by decide) ?_
      refine w_aload_n (zat TX14_count 8 rfl) rfl ?_
      refine y_getI (v := zI h 1 0 5) (zat TX14_count 9 rfl) fX14_109 s1 (by decide) (by decide) rfl rfl ?_
      refine w_ireturn (zat TX14_count 10 rfl) rfl rfl ?_
      exact ⟨by simp only [mCount]; rfl, rfl⟩
    · skip
      by_cases Hw2 : w = 2
      · subst Hw2
        refine w_tableIn 58 (zat TX14_count 4 rfl) (by decide) (by decide) rfl (by decide) ?_
        refine w_aload_n (zat TX14_count 11 rfl) rfl ?_
        refine y_getI (v := zI h 1 0 14) (zat TX14_count 12 rfl) fX14_272 s1 (by decide) (by decide) rfl rfl ?_
        refine w_ireturn (zat TX14_count 13 rfl) rfl rfl ?_
        exact ⟨by simp only [mCount]; rfl, rfl⟩
      · skip
        by_cases Hw3 : w = 3
        · subst Hw3
          refine w_tableIn 63 (zat TX14_count 4 rfl) (by decide) (by decide) rfl (by decide) ?_
          refine w_aload_n (zat TX14_count 14 rfl) rfl ?_
          refine y_getI (v := zI h 1 0 6) (zat TX14_count 15 rfl) fX14_324 s1 (by decide) (by decide) rfl rfl ?_
          refine w_ireturn (zat TX14_count 16 rfl) rfl rfl ?_
          exact ⟨by simp only [mCount]; rfl, rfl⟩
        · skip
          by_cases Hw4 : w = 4
          · subst Hw4
            refine w_tableIn 68 (zat TX14_count 4 rfl) (by decide) (by decide) rfl (by decide) ?_
            refine w_aload_n (zat TX14_count 17 rfl) rfl ?_
            refine y_getI (v := zI h 1 0 40) (zat TX14_count 18 rfl) fX14_367 s1 (by decide) (by decide) rfl rfl ?_
            refine w_ireturn (zat TX14_count 19 rfl) rfl rfl ?_
            exact ⟨by simp only [mCount]; rfl, rfl⟩
          · skip
            by_cases Hw5 : w = 5
            · subst Hw5
              refine w_tableIn 73 (zat TX14_count 4 rfl) (by decide) (by decide) rfl (by decide) ?_
              refine w_aload_n (zat TX14_count 20 rfl) rfl ?_
              refine y_getI (v := zI h 1 0 19) (zat TX14_count 21 rfl) fX14_263 s1 (by decide) (by decide) rfl rfl ?_
              refine w_ireturn (zat TX14_count 22 rfl) rfl rfl ?_
              exact ⟨by simp only [mCount]; rfl, rfl⟩
            · skip
              by_cases Hw6 : w = 6
              · subst Hw6
                refine w_tableIn 78 (zat TX14_count 4 rfl) (by decide) (by decide) rfl (by decide) ?_
                refine w_iconst (v := 0) (zat TX14_count 23 rfl) (by decide) ?_
                refine x_istore_n (ls2 := [_, _, _, _]) (zat TX14_count 24 rfl) (by decide) rfl ?_
                refine w_iconst (v := 0) (zat TX14_count 25 rfl) (by decide) ?_
                refine x_istore_n (ls2 := [_, _, _, _]) (zat TX14_count 26 rfl) (by decide) rfl ?_
                exact (lX14_count l h hWM 6 nB hB hB2 nB 0 (by omega)).imp (fun o h2 q => ⟨q.1.trans (by simp only [mCount]; rfl), q.2⟩)
              · skip
                have Hout : w.toInt < 0 ∨ 6 < w.toInt := by
                  rcases Int.lt_or_le w.toInt 0 with q | q
                  · exact Or.inl q
                  · rcases Int.lt_or_le 6 w.toInt with q2 | q2
                    · exact Or.inr q2
                    · exfalso
                      have Hz : w = Int32.ofInt w.toInt := (Int32.ofInt_toInt w).symm
                      rcases (show w.toInt = 0 ∨ w.toInt = 1 ∨ w.toInt = 2 ∨ w.toInt = 3 ∨ w.toInt = 4 ∨ w.toInt = 5 ∨ w.toInt = 6 by omega) with e | e | e | e | e | e | e <;> rw [e] at Hz
                      · exact Hw0 Hz
                      · exact Hw1 Hz
                      · exact Hw2 Hz
                      · exact Hw3 Hz
                      · exact Hw4 Hz
                      · exact Hw5 Hz
                      · exact Hw6 Hz
                refine w_tableOut 107 (zat TX14_count 4 rfl) Hout (by decide) ?_
                refine w_iconst (v := -1) (zat TX14_count 42 rfl) (by decide) ?_
                refine w_ireturn (zat TX14_count 43 rfl) rfl rfl ?_
                exact ⟨by rw [mCount, if_neg Hw0, if_neg Hw1, if_neg Hw2, if_neg Hw3, if_neg Hw4, if_neg Hw5, if_neg Hw6], rfl⟩
end
section
-- pass, feed, force of the model, by program (wip/gen/p22.py)
def mAl (f : Nat → Int32) : Nat → Prop
  | 0 => True
  | s + 1 => mAl f s ∧ ¬ f s = -1
def mAl_dec (f : Nat → Int32) : ∀ s, Decidable (mAl f s)
  | 0 => isTrue trivial
  | s + 1 => match mAl_dec f s with
    | isTrue h => if q : f s = -1 then isFalse (fun z => z.2 q) else isTrue ⟨h, q⟩
    | isFalse h => isFalse (fun z => h z.1)
def mAlb (f : Nat → Int32) (s : Nat) : Int32 := match mAl_dec f s with
  | isTrue _ => 1
  | isFalse _ => 0
theorem mAlb_t {f : Nat → Int32} {s : Nat} (h : mAl f s) : mAlb f s = 1 := by
  unfold mAlb
  cases mAl_dec f s with
  | isTrue _ => rfl
  | isFalse q => exact absurd h q
theorem mAlb_f {f : Nat → Int32} {s : Nat} (h : ¬ mAl f s) : mAlb f s = 0 := by
  unfold mAlb
  cases mAl_dec f s with
  | isTrue q => exact absurd q h
  | isFalse _ => rfl
theorem mAlb_0 {f : Nat → Int32} {s : Nat} : mAlb f s = 0 ↔ ¬ mAl f s := by
  constructor
  · intro h q
    rw [mAlb_t q] at h
    exact absurd h (by decide)
  · exact mAlb_f
/-- the stores behind a year's end, the first s of them -/
def pH (h : zH) : Nat → zH
  | 0 => h
  | s + 1 => zsI (zsI (zsI (zsI (zsL (pH h s) 33 0 s (zL (pH h s) 33 0 s + (zI (pH h s) 28 0 s + zI (pH h s) 29 0 s - zI (pH h s) 30 0 s - zI (pH h s) 31 0 s).toInt64)) 28 0 s (zI (pH h s) 31 0 s)) 29 0 s 0) 30 0 s 0) 31 0 s (-1)
theorem pH_g (h : zH) : ∀ s, (pH h s).2.2 = h.2.2
  | 0 => rfl
  | s + 1 => pH_g h s
theorem pH_1 (h : zH) : ∀ s, zI (pH h s) 1 = zI h 1
  | 0 => rfl
  | s + 1 => by
    funext b c
    have := congrFun (congrFun (pH_1 h s) b) c
    rw [← this]
    rfl
theorem lX14_pass1 (l : Launch) (h : zH) (hWM : Wm h) (Q : zO → zH → Prop) (nS : Nat) (hS : zI h 1 0 40 = nI nS) (hS2 : nS ≤ 8) (HK : Wp l mX14_pass 2 43 [some (Vq (some (1, 0))), some (Vi (mAlb (zI h 31 0) nS)), some (Vi (nI nS))] [] (zsI h 1 0 0 0) Q) : ∀ kk s : Nat, s + kk = nS → Wp l mX14_pass 2 9 [some (Vq (some (1, 0))), some (Vi (mAlb (zI h 31 0) s)), some (Vi (nI s))] [] (zsI h 1 0 0 0) Q := by
  intro kk
  induction kk with
  | zero =>
    intro s hs
    refine w_iload_n (zat TX14_pass_0 7 rfl) rfl ?_
    refine w_aload_n (zat TX14_pass_0 8 rfl) rfl ?_
    refine y_getI (v := nI nS) (zat TX14_pass_0 9 rfl) fX14_367 s1 (by decide) (by decide) rfl hS ?_
    refine w_icmp_ge 43 (zat TX14_pass_0 10 rfl) (by decide) (fun Hc14 => ?_) (fun Hc14 => ?_)
    · have e : s = nS := by omega
      subst e
      exact HK
    · exact absurd (nI_le (by omega) (by omega)) Hc14
  | succ kk ih =>
    intro s hs
    refine w_iload_n (zat TX14_pass_0 7 rfl) rfl ?_
    refine w_aload_n (zat TX14_pass_0 8 rfl) rfl ?_
    refine y_getI (v := nI nS) (zat TX14_pass_0 9 rfl) fX14_367 s1 (by decide) (by decide) rfl hS ?_
    refine w_icmp_ge 43 (zat TX14_pass_0 10 rfl) (by decide) (fun Hc14 => ?_) (fun Hc14 => ?_)
    · exact absurd Hc14 (nI_ge (by omega) (by omega))
    · refine w_iload_n (zat TX14_pass_0 11 rfl) rfl ?_
      refine w_if_eq 35 (zat TX14_pass_0 12 rfl) (by decide) (fun Hc18 => ?_) (fun Hc18 => ?_)
      · have Hm : mAlb (zI h 31 0) (s + 1) = 0 := mAlb_f (fun q => mAlb_0.mp Hc18 q.1)
        refine w_iconst (v := 0) (zat TX14_pass_0 21 rfl) (by decide) ?_
        refine x_istore_n (ls2 := [_, _, _]) (zat TX14_pass_0 22 rfl) (by decide) rfl ?_
        refine x_iinc (v := nI (s + 1)) (ls2 := [_, _, _]) (zat TX14_pass_0 23 rfl) rfl (nI_inc s) rfl ?_
        refine w_goto 9 (zat TX14_pass_0 24 rfl) (by decide) ?_
        have Hi := ih (s + 1) (by omega)
        rw [Hm] at Hi
        exact Hi
      · skip
        refine w_aload_n (zat TX14_pass_0 13 rfl) rfl ?_
        refine w_getR (zat TX14_pass_0 14 rfl) fX14_90 s1 (by decide) (by decide) rfl (wmr hWM 20 rfl) ?_
        refine w_iload_n (zat TX14_pass_0 15 rfl) rfl ?_
        refine y_iaload _ _ (v := zI h 31 0 s) (zat TX14_pass_0 16 rfl) s31 (by decide) (wmn hWM 19 rfl) (by decide) rfl (by omega) rfl ?_
        refine w_iconst (v := -1) (zat TX14_pass_0 17 rfl) (by decide) ?_
        refine w_icmp_eq 35 (zat TX14_pass_0 18 rfl) (by decide) (fun Hc28 => ?_) (fun Hc28 => ?_)
        · have Hm : mAlb (zI h 31 0) (s + 1) = 0 := mAlb_f (fun q => q.2 Hc28)
          refine w_iconst (v := 0) (zat TX14_pass_0 21 rfl) (by decide) ?_
          refine x_istore_n (ls2 := [_, _, _]) (zat TX14_pass_0 22 rfl) (by decide) rfl ?_
          refine x_iinc (v := nI (s + 1)) (ls2 := [_, _, _]) (zat TX14_pass_0 23 rfl) rfl (nI_inc s) rfl ?_
          refine w_goto 9 (zat TX14_pass_0 24 rfl) (by decide) ?_
          have Hi := ih (s + 1) (by omega)
          rw [Hm] at Hi
          exact Hi
        · have Hm : mAlb (zI h 31 0) (s + 1) = 1 := mAlb_t ⟨Classical.byContradiction (fun q => Hc18 (mAlb_0.mpr q)), Hc28⟩
          refine w_iconst (v := 1) (zat TX14_pass_0 19 rfl) (by decide) ?_
          refine w_goto 36 (zat TX14_pass_0 20 rfl) (by decide) ?_
          refine x_istore_n (ls2 := [_, _, _]) (zat TX14_pass_0 22 rfl) (by decide) rfl ?_
          refine x_iinc (v := nI (s + 1)) (ls2 := [_, _, _]) (zat TX14_pass_0 23 rfl) rfl (nI_inc s) rfl ?_
          refine w_goto 9 (zat TX14_pass_0 24 rfl) (by decide) ?_
          have Hi := ih (s + 1) (by omega)
          rw [Hm] at Hi
          exact Hi
theorem lX14_pass2 (l : Launch) (h : zH) (hWM : Wm h) (Q : zO → zH → Prop) (a : Int32) (nS : Nat) (hS : zI h 1 0 40 = nI nS) (hS3 : nS ≤ 8) (HK : Wp l mX14_pass 2 132 [some (Vq (some (1, 0))), some (Vi a), some (Vi (nI nS))] [] (pH h nS) Q) : ∀ kk s : Nat, s + kk = nS → Wp l mX14_pass 2 70 [some (Vq (some (1, 0))), some (Vi a), some (Vi (nI s))] [] (pH h s) Q := by
  intro kk
  induction kk with
  | zero =>
    intro s hs
    have hWM2 : Wm (pH h s) := Wm.same (pH_g h s) hWM
    have hS2 : zI (pH h s) 1 0 40 = nI nS := by rw [pH_1]; exact hS
    refine w_iload_n (zat TX14_pass_0 41 rfl) rfl ?_
    refine w_aload_n (zat TX14_pass_0 42 rfl) rfl ?_
    refine y_getI (v := nI nS) (zat TX14_pass_0 43 rfl) fX14_367 s1 (by decide) (by decide) rfl hS2 ?_
    refine w_icmp_ge 132 (zat TX14_pass_0 44 rfl) (by decide) (fun Hc75 => ?_) (fun Hc75 => ?_)
    · have e : s = nS := by omega
      subst e
      exact HK
    · exact absurd (nI_le (by omega) (by omega)) Hc75
  | succ kk ih =>
    intro s hs
    have hWM2 : Wm (pH h s) := Wm.same (pH_g h s) hWM
    have hS2 : zI (pH h s) 1 0 40 = nI nS := by rw [pH_1]; exact hS
    refine w_iload_n (zat TX14_pass_0 41 rfl) rfl ?_
    refine w_aload_n (zat TX14_pass_0 42 rfl) rfl ?_
    refine y_getI (v := nI nS) (zat TX14_pass_0 43 rfl) fX14_367 s1 (by decide) (by decide) rfl hS2 ?_
    refine w_icmp_ge 132 (zat TX14_pass_0 44 rfl) (by decide) (fun Hc75 => ?_) (fun Hc75 => ?_)
    · exact absurd Hc75 (nI_ge (by omega) (by omega))
    · refine w_aload_n (zat TX14_pass_0 45 rfl) rfl ?_
      refine w_getR (zat TX14_pass_0 46 rfl) fX14_96 s1 (by decide) (by decide) rfl (wmr hWM2 22 rfl) ?_
      refine w_iload_n (zat TX14_pass_0 47 rfl) rfl ?_
      refine w_dup2 (zat TX14_pass_0 48 rfl) rfl rfl ?_
      refine x_laload _ _ (zat TX14_pass_0 49 rfl) s33 (by decide) (wmn hWM2 21 rfl) (by decide) rfl (by omega) ?_
      refine w_aload_n (zat TX14_pass_0 50 rfl) rfl ?_
      refine w_iload_n (zat TX14_pass_0 51 rfl) rfl ?_
      refine x_callv2 (qX14_missingNow l (pH h s) hWM2 _ _ rfl (by omega)) (by decide) kX14_missingNow (rdy_V (zat TX14_pass_0 52 rfl) kX14_missingNow pX14_missingNow zw1439 zw1441 zw61 (zrc (by decide) (by decide) rfl)) (Nat.le_of_ble_eq_true rfl) rfl rfl ?_
      refine w_i2l (zat TX14_pass_0 53 rfl) ?_
      refine w_ladd (zat TX14_pass_0 54 rfl) ?_
      refine x_lastore _ _ (zat TX14_pass_0 55 rfl) s33 (by decide) (wmn hWM2 21 rfl) (by decide) rfl (by omega) ?_
      refine w_aload_n (zat TX14_pass_0 56 rfl) rfl ?_
      refine w_getR (zat TX14_pass_0 57 rfl) fX14_81 s1 (by decide) (by decide) rfl (wmr hWM2 17 rfl) ?_
      refine w_iload_n (zat TX14_pass_0 58 rfl) rfl ?_
      refine w_aload_n (zat TX14_pass_0 59 rfl) rfl ?_
      refine w_getR (zat TX14_pass_1 0 rfl) fX14_90 s1 (by decide) (by decide) rfl (wmr hWM2 20 rfl) ?_
      refine w_iload_n (zat TX14_pass_1 1 rfl) rfl ?_
      refine y_iaload _ _ (v := zI (pH h s) 31 0 s) (zat TX14_pass_1 2 rfl) s31 (by decide) (wmn hWM2 19 rfl) (by decide) rfl (by omega) rfl ?_
      refine x_iastore _ _ (zat TX14_pass_1 3 rfl) s28 (by decide) (wmn hWM2 16 rfl) (by decide) rfl (by omega) ?_
      refine w_aload_n (zat TX14_pass_1 4 rfl) rfl ?_
      refine w_getR (zat TX14_pass_1 5 rfl) fX14_84 s1 (by decide) (by decide) rfl (wmr hWM2 18 rfl) ?_
      refine w_iload_n (zat TX14_pass_1 6 rfl) rfl ?_
      refine w_iconst (v := 0) (zat TX14_pass_1 7 rfl) (by decide) ?_
      refine x_iastore _ _ (zat TX14_pass_1 8 rfl) s29 (by decide) (wmn hWM2 17 rfl) (by decide) rfl (by omega) ?_
      refine w_aload_n (zat TX14_pass_1 9 rfl) rfl ?_
      refine w_getR (zat TX14_pass_1 10 rfl) fX14_87 s1 (by decide) (by decide) rfl (wmr hWM2 19 rfl) ?_
      refine w_iload_n (zat TX14_pass_1 11 rfl) rfl ?_
      refine w_iconst (v := 0) (zat TX14_pass_1 12 rfl) (by decide) ?_
      refine x_iastore _ _ (zat TX14_pass_1 13 rfl) s30 (by decide) (wmn hWM2 18 rfl) (by decide) rfl (by omega) ?_
      refine w_aload_n (zat TX14_pass_1 14 rfl) rfl ?_
      refine w_getR (zat TX14_pass_1 15 rfl) fX14_90 s1 (by decide) (by decide) rfl (wmr hWM2 20 rfl) ?_
      refine w_iload_n (zat TX14_pass_1 16 rfl) rfl ?_
      refine w_iconst (v := -1) (zat TX14_pass_1 17 rfl) (by decide) ?_
      refine x_iastore _ _ (zat TX14_pass_1 18 rfl) s31 (by decide) (wmn hWM2 19 rfl) (by decide) rfl (by omega) ?_
      refine x_iinc (v := nI (s + 1)) (ls2 := [_, _, _]) (zat TX14_pass_1 19 rfl) rfl (nI_inc s) rfl ?_
      refine w_goto 70 (zat TX14_pass_1 20 rfl) (by decide) ?_
      exact ih (s + 1) (by omega)
def mPass (h : zH) (nS : Nat) : Int32 × zH := if mAlb (zI h 31 0) nS = 0 then (-1, mRef (zsI h 1 0 0 0) 5) else if zI h 1 0 6 = 99 then (-1, mRef (zsI h 1 0 0 0) 2) else (zI h 1 0 6 + 1, mRef (zsI (pH (zsI h 1 0 0 0) nS) 1 0 6 (zI h 1 0 6 + 1)) 0)
theorem qX14_pass (l : Launch) (h : zH) (hWM : Wm h) (nS : Nat) (hS : zI h 1 0 40 = nI nS) (hS2 : nS ≤ 8) : Cx l 2 mX14_pass [Vq (some (1, 0))] h (Rv (Vi (mPass h nS).1)) (mPass h nS).2 := by
  refine Ct.in 2 kX14_pass (plainFor_of_name rfl) (Nat.le_of_ble_eq_true rfl) ?_
  refine w_aload_n (zat TX14_pass_0 0 rfl) rfl ?_
  refine w_iconst (v := 0) (zat TX14_pass_0 1 rfl) (by decide) ?_
  refine w_putI (zat TX14_pass_0 2 rfl) gX14_pass_100 s1 (by decide) (by decide) rfl ⟨rfl, rfl⟩ ?_
  refine w_iconst (v := 1) (zat TX14_pass_0 3 rfl) (by decide) ?_
  refine x_istore_n (ls2 := [_, _, _]) (zat TX14_pass_0 4 rfl) (by decide) rfl ?_
  refine w_iconst (v := 0) (zat TX14_pass_0 5 rfl) (by decide) ?_
  refine x_istore_n (ls2 := [_, _, _]) (zat TX14_pass_0 6 rfl) (by decide) rfl ?_
  refine lX14_pass1 l h hWM _ nS hS hS2 ?_ nS 0 (by omega)
  refine w_iload_n (zat TX14_pass_0 25 rfl) rfl ?_
  refine w_if_ne 53 (zat TX14_pass_0 26 rfl) (by decide) (fun Hc44 => ?_) (fun Hc44 => ?_)
  · refine w_aload_n (zat TX14_pass_0 31 rfl) rfl ?_
    refine y_getI (v := zI h 1 0 6) (zat TX14_pass_0 32 rfl) fX14_324 s1 (by decide) (by decide) rfl rfl ?_
    refine w_bipush (v := 99) (zat TX14_pass_0 33 rfl) (by decide) ?_
    refine w_icmp_ne 68 (zat TX14_pass_0 34 rfl) (by decide) (fun Hc59 => ?_) (fun Hc59 => ?_)
    · refine w_iconst (v := 0) (zat TX14_pass_0 39 rfl) (by decide) ?_
      refine x_istore_n (ls2 := [_, _, _]) (zat TX14_pass_0 40 rfl) (by decide) rfl ?_
      refine lX14_pass2 l (zsI h 1 0 0 0) hWM _ _ nS hS hS2 ?_ nS 0 (by omega)
      refine w_aload_n (zat TX14_pass_1 21 rfl) rfl ?_
      refine w_dup (zat TX14_pass_1 22 rfl) rfl ?_
      refine y_getI (v := zI h 1 0 6) (zat TX14_pass_1 23 rfl) fX14_324 s1 (by decide) (by decide) rfl (by rw [pH_1]; rfl) ?_
      refine w_iconst (v := 1) (zat TX14_pass_1 24 rfl) (by decide) ?_
      refine w_iadd (zat TX14_pass_1 25 rfl) ?_
      refine w_putI (zat TX14_pass_1 26 rfl) gX14_pass_324 s1 (by decide) (by decide) rfl ⟨rfl, rfl⟩ ?_
      refine w_aload_n (zat TX14_pass_1 27 rfl) rfl ?_
      refine w_aload_n (zat TX14_pass_1 28 rfl) rfl ?_
      refine y_getI (v := zI h 1 0 6 + 1) (zat TX14_pass_1 29 rfl) fX14_324 s1 (by decide) (by decide) rfl (zI_same _ 1 0 6 _) ?_
      refine x_callv2 (qX14_done l _ _) (by decide) kX14_done (rdy_V (zat TX14_pass_1 30 rfl) kX14_done pX14_done zw1192 zw1194 zw32 (zrc (by decide) (by decide) rfl)) (Nat.le_of_ble_eq_true rfl) rfl rfl ?_
      refine w_ireturn (zat TX14_pass_1 31 rfl) rfl rfl ?_
      exact ⟨by rw [mPass, if_neg Hc44, if_neg Hc59], by rw [mPass, if_neg Hc44, if_neg Hc59]⟩
    · refine w_aload_n (zat TX14_pass_0 35 rfl) rfl ?_
      refine w_iconst (v := 2) (zat TX14_pass_0 36 rfl) (by decide) ?_
      refine x_callv2 (qX14_refused l _ _) (by decide) kX14_refused (rdy_V (zat TX14_pass_0 37 rfl) kX14_refused pX14_refused zw1188 zw1190 zw31 (zrc (by decide) (by decide) rfl)) (Nat.le_of_ble_eq_true rfl) rfl rfl ?_
      refine w_ireturn (zat TX14_pass_0 38 rfl) rfl rfl ?_
      exact ⟨by simp only [mPass, Hc44, Hc59, if_true, if_false], by simp only [mPass, Hc44, Hc59, if_true, if_false]⟩
  · refine w_aload_n (zat TX14_pass_0 27 rfl) rfl ?_
    refine w_iconst (v := 5) (zat TX14_pass_0 28 rfl) (by decide) ?_
    refine x_callv2 (qX14_refused l _ _) (by decide) kX14_refused (rdy_V (zat TX14_pass_0 29 rfl) kX14_refused pX14_refused zw1188 zw1190 zw31 (zrc (by decide) (by decide) rfl)) (Nat.le_of_ble_eq_true rfl) rfl rfl ?_
    refine w_ireturn (zat TX14_pass_0 30 rfl) rfl rfl ?_
    exact ⟨by simp only [mPass, Hc44, if_true, if_false], by simp only [mPass, Hc44, if_true, if_false]⟩
end
section
-- feed, force of the model, by program (wip/gen/p23.py)
/-- the number that the k-th byte comes of -/
def fSel (a b c d e : Int32) (k : Nat) : Int32 := if k < 4 then a else if k < 8 then b else if k < 12 then c else if k < 16 then d else e
def fByt (a b c d e : Int32) (k : Nat) : Int32 := (fSel a b c d e k >>> ((24 - 8 * (nI k - nI k / 4 * 4)) &&& 31)).toInt8.toInt32
/-- the tape with k bytes more -/
def fH (h : zH) (n : Nat) (a b c d e : Int32) : Nat → zH
  | 0 => h
  | k + 1 => zsI (zsI (fH h n a b c d e k) 19 0 (n + k) (vp_nar .byte (fByt a b c d e k))) 1 0 19 (nI (n + (k + 1)))
theorem fH_g (h : zH) (n : Nat) (a b c d e : Int32) : ∀ k, (fH h n a b c d e k).2 = h.2
  | 0 => rfl
  | k + 1 => fH_g h n a b c d e k
theorem fH_t {h : zH} {n : Nat} (hT : zI h 1 0 19 = nI n) (a b c d e : Int32) : ∀ k, zI (fH h n a b c d e k) 1 0 19 = nI (n + k)
  | 0 => hT
  | _ + 1 => zI_same _ 1 0 19 _
theorem lit_le (m k : Nat) (hm : m < 2 ^ 31) (hk : k < 2 ^ 31) : (OfNat.ofNat m : Int32) ≤ nI k ↔ m ≤ k := nI_leI hm hk
theorem lX14_feed (l : Launch) (h : zH) (hWM : Wm h) (a b c d e : Int32) (n : Nat) (hT : zI h 1 0 19 = nI n) (hn : n + 20 ≤ 300) : ∀ kk k : Nat, k + kk = 20 → ∀ x : Option zV, Wp l mX14_feed 1 23 [some (Vq (some (1, 0))), some (Vi a), some (Vi b), some (Vi c), some (Vi d), some (Vi e), some (Vi (nI k)), x] [] (fH h n a b c d e k) (fun o h' => o = Rv (Vi (nI (n + 20))) ∧ h' = fH h n a b c d e 20) := by
  intro kk
  induction kk with
  | zero =>
    intro k hk x
    refine w_iload (zat TX14_feed_0 13 rfl) rfl ?_
    refine w_bipush (v := 20) (zat TX14_feed_0 14 rfl) (by decide) ?_
    refine w_icmp_ge 117 (zat TX14_feed_0 15 rfl) (by decide) (fun Hc27 => ?_) (fun Hc27 => ?_)
    · refine w_aload_n (zat TX14_feed_1 1 rfl) rfl ?_
      refine y_getI (v := nI (n + k)) (zat TX14_feed_1 2 rfl) fX14_263 s1 (by decide) (by decide) rfl (fH_t hT a b c d e k) ?_
      refine w_ireturn (zat TX14_feed_1 3 rfl) rfl rfl ?_
      have e1 : k = 20 := by omega
      subst e1
      exact ⟨rfl, rfl⟩
    · exact absurd (show ((20 : Int32)) ≤ nI k from nI_le (a := 20) (b := k) (by omega) (by omega)) Hc27
  | succ kk ih =>
    intro k hk x
    have hWF : Wm (fH h n a b c d e k) := Wm.same (congrArg Prod.snd (fH_g h n a b c d e k)) hWM
    have HT := fH_t hT a b c d e k
    have HB : ∀ v : Int32, v = fSel a b c d e k → Wp l mX14_feed 1 76 [some (Vq (some (1, 0))), some (Vi a), some (Vi b), some (Vi c), some (Vi d), some (Vi e), some (Vi (nI k)), x] [Vi v] (fH h n a b c d e k) (fun o h' => o = Rv (Vi (nI (n + 20))) ∧ h' = fH h n a b c d e 20) := by
      intro v Hs
      refine x_istore (ls2 := [_, _, _, _, _, _, _, _]) (zat TX14_feed_0 37 rfl) (by decide) rfl ?_
      refine w_aload_n (zat TX14_feed_0 38 rfl) rfl ?_
      refine w_getR (zat TX14_feed_0 39 rfl) fX14_53 s1 (by decide) (by decide) rfl (wmr hWF 8 rfl) ?_
      refine w_aload_n (zat TX14_feed_0 40 rfl) rfl ?_
      refine y_getI (v := nI (n + k)) (zat TX14_feed_0 41 rfl) fX14_263 s1 (by decide) (by decide) rfl HT ?_
      refine w_iload (zat TX14_feed_0 42 rfl) rfl ?_
      refine w_bipush (v := 24) (zat TX14_feed_0 43 rfl) (by decide) ?_
      refine w_bipush (v := 8) (zat TX14_feed_0 44 rfl) (by decide) ?_
      refine w_iload (zat TX14_feed_0 45 rfl) rfl ?_
      refine w_iconst (v := 4) (zat TX14_feed_0 46 rfl) (by decide) ?_
      refine w_irem (zat TX14_feed_0 47 rfl) (by decide) ?_
      refine w_imul (zat TX14_feed_0 48 rfl) ?_
      refine w_isub (zat TX14_feed_0 49 rfl) ?_
      refine w_ishr (zat TX14_feed_0 50 rfl) ?_
      refine w_i2b (zat TX14_feed_0 51 rfl) ?_
      subst Hs
      refine x_bastore (n + k) _ (zat TX14_feed_0 52 rfl) s19 (by decide) (wmn hWF 7 rfl) (by decide) rfl (by omega) ?_
      refine w_aload_n (zat TX14_feed_0 53 rfl) rfl ?_
      refine w_dup (zat TX14_feed_0 54 rfl) rfl ?_
      refine y_getI (v := nI (n + k)) (zat TX14_feed_0 55 rfl) fX14_263 s1 (by decide) (by decide) rfl HT ?_
      refine w_iconst (v := 1) (zat TX14_feed_0 56 rfl) (by decide) ?_
      refine w_iadd (zat TX14_feed_0 57 rfl) ?_
      rw [nI_1, show n + k + 1 = n + (k + 1) by omega]
      refine w_putI (zat TX14_feed_0 58 rfl) gX14_feed_263 s1 (by decide) (by decide) rfl ⟨rfl, rfl⟩ ?_
      refine x_iinc (v := nI (k + 1)) (ls2 := [_, _, _, _, _, _, _, _]) (zat TX14_feed_0 59 rfl) rfl (nI_inc k) rfl ?_
      refine w_goto 23 (zat TX14_feed_1 0 rfl) (by decide) ?_
      exact ih (k + 1) (by omega) _
    refine w_iload (zat TX14_feed_0 13 rfl) rfl ?_
    refine w_bipush (v := 20) (zat TX14_feed_0 14 rfl) (by decide) ?_
    refine w_icmp_ge 117 (zat TX14_feed_0 15 rfl) (by decide) (fun Hc27 => ?_) (fun Hc27 => ?_)
    · exact absurd Hc27 (show ¬ ((20 : Int32)) ≤ nI k from nI_ge (a := k) (b := 20) (by omega) (by decide))
    · refine w_iload (zat TX14_feed_0 16 rfl) rfl ?_
      refine w_iconst (v := 4) (zat TX14_feed_0 17 rfl) (by decide) ?_
      refine w_icmp_ge 40 (zat TX14_feed_0 18 rfl) (by decide) (fun Hc33 => ?_) (fun Hc33 => ?_)
      · rw [show (((4 : Int32)) ≤ nI k) = (nI 4 ≤ nI k) from rfl, nI_leI (by decide) (by omega)] at Hc33
        refine w_iload (zat TX14_feed_0 21 rfl) rfl ?_
        refine w_bipush (v := 8) (zat TX14_feed_0 22 rfl) (by decide) ?_
        refine w_icmp_ge 51 (zat TX14_feed_0 23 rfl) (by decide) (fun Hc44 => ?_) (fun Hc44 => ?_)
        · rw [show (((8 : Int32)) ≤ nI k) = (nI 8 ≤ nI k) from rfl, nI_leI (by decide) (by omega)] at Hc44
          refine w_iload (zat TX14_feed_0 26 rfl) rfl ?_
          refine w_bipush (v := 12) (zat TX14_feed_0 27 rfl) (by decide) ?_
          refine w_icmp_ge 62 (zat TX14_feed_0 28 rfl) (by decide) (fun Hc55 => ?_) (fun Hc55 => ?_)
          · rw [show (((12 : Int32)) ≤ nI k) = (nI 12 ≤ nI k) from rfl, nI_leI (by decide) (by omega)] at Hc55
            refine w_iload (zat TX14_feed_0 31 rfl) rfl ?_
            refine w_bipush (v := 16) (zat TX14_feed_0 32 rfl) (by decide) ?_
            refine w_icmp_ge 74 (zat TX14_feed_0 33 rfl) (by decide) (fun Hc66 => ?_) (fun Hc66 => ?_)
            · rw [show (((16 : Int32)) ≤ nI k) = (nI 16 ≤ nI k) from rfl, nI_leI (by decide) (by omega)] at Hc66
              have Hs : e = fSel a b c d e k := by rw [fSel, if_neg (by omega), if_neg (by omega), if_neg (by omega), if_neg (by omega)]
              refine w_iload (zat TX14_feed_0 36 rfl) rfl ?_
              exact HB _ Hs
            · rw [show (((16 : Int32)) ≤ nI k) = (nI 16 ≤ nI k) from rfl, nI_leI (by decide) (by omega)] at Hc66
              refine w_iload (zat TX14_feed_0 34 rfl) rfl ?_
              have Hs : d = fSel a b c d e k := by rw [fSel, if_neg (by omega), if_neg (by omega), if_neg (by omega), if_pos (by omega)]
              refine w_goto 76 (zat TX14_feed_0 35 rfl) (by decide) ?_
              exact HB _ Hs
          · rw [show (((12 : Int32)) ≤ nI k) = (nI 12 ≤ nI k) from rfl, nI_leI (by decide) (by omega)] at Hc55
            refine w_iload_n (zat TX14_feed_0 29 rfl) rfl ?_
            have Hs : c = fSel a b c d e k := by rw [fSel, if_neg (by omega), if_neg (by omega), if_pos (by omega)]
            refine w_goto 76 (zat TX14_feed_0 30 rfl) (by decide) ?_
            exact HB _ Hs
        · rw [show (((8 : Int32)) ≤ nI k) = (nI 8 ≤ nI k) from rfl, nI_leI (by decide) (by omega)] at Hc44
          refine w_iload_n (zat TX14_feed_0 24 rfl) rfl ?_
          have Hs : b = fSel a b c d e k := by rw [fSel, if_neg (by omega), if_pos (by omega)]
          refine w_goto 76 (zat TX14_feed_0 25 rfl) (by decide) ?_
          exact HB _ Hs
      · rw [show (((4 : Int32)) ≤ nI k) = (nI 4 ≤ nI k) from rfl, nI_leI (by decide) (by omega)] at Hc33
        refine w_iload_n (zat TX14_feed_0 19 rfl) rfl ?_
        have Hs : a = fSel a b c d e k := by rw [fSel, if_pos (by omega)]
        refine w_goto 76 (zat TX14_feed_0 20 rfl) (by decide) ?_
        exact HB _ Hs
def mFeed (h : zH) (n : Nat) (a b c d e : Int32) : Int32 × zH := if n + 20 ≤ 300 then (nI (n + 20), fH (zsI h 1 0 0 0) n a b c d e 20) else (-1, (zsI h 1 0 0 0))
theorem qX14_feed (l : Launch) (h : zH) (hWM : Wm h) (a b c d e : Int32) (n : Nat) (hT : zI h 1 0 19 = nI n) (hn : n ≤ 300) : Cx l 1 mX14_feed [Vq (some (1, 0)), Vi a, Vi b, Vi c, Vi d, Vi e] h (Rv (Vi (mFeed h n a b c d e).1)) (mFeed h n a b c d e).2 := by
  refine Ct.in 2 kX14_feed (plainFor_of_name rfl) (Nat.le_of_ble_eq_true rfl) ?_
  refine w_aload_n (zat TX14_feed_0 0 rfl) rfl ?_
  refine w_iconst (v := 0) (zat TX14_feed_0 1 rfl) (by decide) ?_
  refine w_putI (zat TX14_feed_0 2 rfl) gX14_feed_100 s1 (by decide) (by decide) rfl ⟨rfl, rfl⟩ ?_
  refine w_aload_n (zat TX14_feed_0 3 rfl) rfl ?_
  refine y_getI (v := nI n) (zat TX14_feed_0 4 rfl) fX14_263 s1 (by decide) (by decide) rfl hT ?_
  refine w_bipush (v := 20) (zat TX14_feed_0 5 rfl) (by decide) ?_
  refine w_iadd (zat TX14_feed_0 6 rfl) ?_
  refine w_sipush (v := 300) (zat TX14_feed_0 7 rfl) (by decide) ?_
  rw [show nI n + 20 = nI (n + 20) from nI_add n 20, show ((300 : Int32)) = nI 300 from rfl]
  refine w_icmp_le 20 (zat TX14_feed_0 8 rfl) (by decide) (fun Hc15 => ?_) (fun Hc15 => ?_)
  · rw [nI_leI (by omega) (by decide)] at Hc15
    rw [mFeed, if_pos Hc15]
    refine w_iconst (v := 0) (zat TX14_feed_0 11 rfl) (by decide) ?_
    refine x_istore (ls2 := [_, _, _, _, _, _, _, _]) (zat TX14_feed_0 12 rfl) (by decide) rfl ?_
    exact lX14_feed l (zsI h 1 0 0 0) hWM a b c d e n hT Hc15 20 0 (by omega) _
  · rw [nI_leI (by omega) (by decide)] at Hc15
    rw [mFeed, if_neg Hc15]
    refine w_iconst (v := -1) (zat TX14_feed_0 9 rfl) (by decide) ?_
    refine w_ireturn (zat TX14_feed_0 10 rfl) rfl rfl ?_
    exact ⟨rfl, rfl⟩
/-- the edict in force among the first e -/
def mF (eP eY : Nat → Int32) (p y : Int32) : Nat → Int32
  | 0 => -2
  | e + 1 => if eP e = p ∧ eY e ≤ y ∧ (mF eP eY p y e = -2 ∨ eY (mF eP eY p y e).toNatClampNeg ≤ eY e) then nI e else mF eP eY p y e
theorem mF_ix (eP eY : Nat → Int32) (p y : Int32) : ∀ s, s < 1000 → mF eP eY p y s = -2 ∨ ∃ j, j < s ∧ mF eP eY p y s = nI j
  | 0, _ => Or.inl rfl
  | s + 1, h => by
    unfold mF
    split
    · exact Or.inr ⟨s, Nat.lt_succ_self s, rfl⟩
    · rcases mF_ix eP eY p y s (by omega) with q | ⟨j, h1, h2⟩
      · exact Or.inl q
      · exact Or.inr ⟨j, by omega, h2⟩
def eP (h : zH) (e : Nat) : Int32 := zI h 17 e 0
def eY (h : zH) (e : Nat) : Int32 := zI h 17 e 1
theorem lX14_forceOf (l : Launch) (h : zH) (hWM : Wm h) (p y : Int32) (nE : Nat) (hE : zI h 1 0 14 = nI nE) (hE2 : nE ≤ 30) (hE3 : zC h 17 = nE + 1) : ∀ kk s : Nat, s + kk = nE → Wp l mX14_forceOf 1 6 [some (Vq (some (1, 0))), some (Vi p), some (Vi y), some (Vi (mF (eP h) (eY h) p y s)), some (Vi (nI s))] [] h (fun o h' => o = Rv (Vi (mF (eP h) (eY h) p y nE)) ∧ h' = h) := by
  intro kk
  induction kk with
  | zero =>
    intro s hs
    refine w_iload (zat TX14_forceOf 4 rfl) rfl ?_
    refine w_aload_n (zat TX14_forceOf 5 rfl) rfl ?_
    refine y_getI (v := nI nE) (zat TX14_forceOf 6 rfl) fX14_272 s1 (by decide) (by decide) rfl hE ?_
    refine w_icmp_ge 80 (zat TX14_forceOf 7 rfl) (by decide) (fun Hc12 => ?_) (fun Hc12 => ?_)
    · refine w_iload_n (zat TX14_forceOf 40 rfl) rfl ?_
      refine w_ireturn (zat TX14_forceOf 41 rfl) rfl rfl ?_
      exact ⟨by rw [show s = nE by omega], rfl⟩
    · exact absurd (nI_le (by omega) (by omega)) Hc12
  | succ kk ih =>
    intro s hs
    refine w_iload (zat TX14_forceOf 4 rfl) rfl ?_
    refine w_aload_n (zat TX14_forceOf 5 rfl) rfl ?_
    refine y_getI (v := nI nE) (zat TX14_forceOf 6 rfl) fX14_272 s1 (by decide) (by decide) rfl hE ?_
    refine w_icmp_ge 80 (zat TX14_forceOf 7 rfl) (by decide) (fun Hc12 => ?_) (fun Hc12 => ?_)
    · exact absurd Hc12 (nI_ge (by omega) (by omega))
    · refine w_aload_n (zat TX14_forceOf 8 rfl) rfl ?_
      refine w_getR (zat TX14_forceOf 9 rfl) fX14_37 s1 (by decide) (by decide) rfl (wmr hWM 6 rfl) ?_
      refine w_iload (zat TX14_forceOf 10 rfl) rfl ?_
      refine x_aaload _ _ (zat TX14_forceOf 11 rfl) (by decide) (by decide) ⟨_, rfl⟩ (wmn hWM 6 rfl) (by decide) rfl (by omega) (hWM.2.2.1.2.2 s (by omega)) ?_
      refine y_getI (v := eP h s) (zat TX14_forceOf 12 rfl) fX14_275 s17 (by decide) (by decide) rfl rfl ?_
      refine w_iload_n (zat TX14_forceOf 13 rfl) rfl ?_
      refine w_icmp_ne 74 (zat TX14_forceOf 14 rfl) (by decide) (fun Hc26 => ?_) (fun Hc26 => ?_)
      · have Hm : mF (eP h) (eY h) p y (s + 1) = mF (eP h) (eY h) p y s := by rw [mF, if_neg (fun q => Hc26 q.1)]
        refine x_iinc (v := nI (s + 1)) (ls2 := [_, _, _, _, _]) (zat TX14_forceOf 38 rfl) rfl (nI_inc s) rfl ?_
        refine w_goto 6 (zat TX14_forceOf 39 rfl) (by decide) ?_
        have Hi := ih (s + 1) (by omega)
        rw [Hm] at Hi
        exact Hi
      · refine w_aload_n (zat TX14_forceOf 15 rfl) rfl ?_
        refine w_getR (zat TX14_forceOf 16 rfl) fX14_37 s1 (by decide) (by decide) rfl (wmr hWM 6 rfl) ?_
        refine w_iload (zat TX14_forceOf 17 rfl) rfl ?_
        refine x_aaload _ _ (zat TX14_forceOf 18 rfl) (by decide) (by decide) ⟨_, rfl⟩ (wmn hWM 6 rfl) (by decide) rfl (by omega) (hWM.2.2.1.2.2 s (by omega)) ?_
        refine y_getI (v := eY h s) (zat TX14_forceOf 19 rfl) fX14_278 s17 (by decide) (by decide) rfl rfl ?_
        refine w_iload_n (zat TX14_forceOf 20 rfl) rfl ?_
        refine w_icmp_gt 74 (zat TX14_forceOf 21 rfl) (by decide) (fun Hc40 => ?_) (fun Hc40 => ?_)
        · have Hm : mF (eP h) (eY h) p y (s + 1) = mF (eP h) (eY h) p y s := by rw [mF, if_neg (fun q => Int32.not_lt.mpr q.2.1 Hc40)]
          refine x_iinc (v := nI (s + 1)) (ls2 := [_, _, _, _, _]) (zat TX14_forceOf 38 rfl) rfl (nI_inc s) rfl ?_
          refine w_goto 6 (zat TX14_forceOf 39 rfl) (by decide) ?_
          have Hi := ih (s + 1) (by omega)
          rw [Hm] at Hi
          exact Hi
        · rw [Int32.not_lt] at Hc40
          refine w_iload_n (zat TX14_forceOf 22 rfl) rfl ?_
          refine w_bipush (v := -2) (zat TX14_forceOf 23 rfl) (by decide) ?_
          refine w_icmp_eq 71 (zat TX14_forceOf 24 rfl) (by decide) (fun Hc46 => ?_) (fun Hc46 => ?_)
          · have Hm : mF (eP h) (eY h) p y (s + 1) = nI s := by rw [mF, if_pos ⟨Hc26, Hc40, Or.inl Hc46⟩]
            refine w_iload (zat TX14_forceOf 36 rfl) rfl ?_
            refine x_istore_n (ls2 := [_, _, _, _, _]) (zat TX14_forceOf 37 rfl) (by decide) rfl ?_
            refine x_iinc (v := nI (s + 1)) (ls2 := [_, _, _, _, _]) (zat TX14_forceOf 38 rfl) rfl (nI_inc s) rfl ?_
            refine w_goto 6 (zat TX14_forceOf 39 rfl) (by decide) ?_
            have Hi := ih (s + 1) (by omega)
            rw [Hm] at Hi
            exact Hi
          · obtain ⟨j, Hj1, Hj2⟩ := (mF_ix (eP h) (eY h) p y s (by omega)).resolve_left Hc46
            refine w_aload_n (zat TX14_forceOf 25 rfl) rfl ?_
            refine w_getR (zat TX14_forceOf 26 rfl) fX14_37 s1 (by decide) (by decide) rfl (wmr hWM 6 rfl) ?_
            refine w_iload (zat TX14_forceOf 27 rfl) rfl ?_
            refine x_aaload _ _ (zat TX14_forceOf 28 rfl) (by decide) (by decide) ⟨_, rfl⟩ (wmn hWM 6 rfl) (by decide) rfl (by omega) (hWM.2.2.1.2.2 s (by omega)) ?_
            refine y_getI (v := eY h s) (zat TX14_forceOf 29 rfl) fX14_278 s17 (by decide) (by decide) rfl rfl ?_
            refine w_aload_n (zat TX14_forceOf 30 rfl) rfl ?_
            refine w_getR (zat TX14_forceOf 31 rfl) fX14_37 s1 (by decide) (by decide) rfl (wmr hWM 6 rfl) ?_
            refine w_iload_n (zat TX14_forceOf 32 rfl) rfl ?_
            refine x_aaload j _ (zat TX14_forceOf 33 rfl) (by decide) (by decide) ⟨_, rfl⟩ (wmn hWM 6 rfl) (by decide) Hj2 (by omega) (hWM.2.2.1.2.2 j (by omega)) ?_
            refine y_getI (v := eY h j) (zat TX14_forceOf 34 rfl) fX14_278 s17 (by decide) (by decide) rfl rfl ?_
            refine w_icmp_lt 74 (zat TX14_forceOf 35 rfl) (by decide) (fun Hc68 => ?_) (fun Hc68 => ?_)
            · have Hm : mF (eP h) (eY h) p y (s + 1) = mF (eP h) (eY h) p y s := by rw [mF, if_neg (fun q => q.2.2.elim Hc46 (fun z => by rw [Hj2, nI_clamp (by omega)] at z; exact Int32.not_lt.mpr z Hc68))]
              refine x_iinc (v := nI (s + 1)) (ls2 := [_, _, _, _, _]) (zat TX14_forceOf 38 rfl) rfl (nI_inc s) rfl ?_
              refine w_goto 6 (zat TX14_forceOf 39 rfl) (by decide) ?_
              have Hi := ih (s + 1) (by omega)
              rw [Hm] at Hi
              exact Hi
            · rw [Int32.not_lt] at Hc68
              have Hm : mF (eP h) (eY h) p y (s + 1) = nI s := by rw [mF, if_pos ⟨Hc26, Hc40, Or.inr (by rw [Hj2, nI_clamp (by omega)]; exact Hc68)⟩]
              refine w_iload (zat TX14_forceOf 36 rfl) rfl ?_
              refine x_istore_n (ls2 := [_, _, _, _, _]) (zat TX14_forceOf 37 rfl) (by decide) rfl ?_
              refine x_iinc (v := nI (s + 1)) (ls2 := [_, _, _, _, _]) (zat TX14_forceOf 38 rfl) rfl (nI_inc s) rfl ?_
              refine w_goto 6 (zat TX14_forceOf 39 rfl) (by decide) ?_
              have Hi := ih (s + 1) (by omega)
              rw [Hm] at Hi
              exact Hi
theorem qX14_forceOf (l : Launch) (h : zH) (hWM : Wm h) (p y : Int32) (nE : Nat) (hE : zI h 1 0 14 = nI nE) (hE2 : nE ≤ 30) (hE3 : zC h 17 = nE + 1) : Cx l 1 mX14_forceOf [Vq (some (1, 0)), Vi p, Vi y] h (Rv (Vi (mF (eP h) (eY h) p y nE))) h := by
  refine Ct.in 2 kX14_forceOf (plainFor_of_name rfl) (Nat.le_of_ble_eq_true rfl) ?_
  refine w_bipush (v := -2) (zat TX14_forceOf 0 rfl) (by decide) ?_
  refine x_istore_n (ls2 := [_, _, _, _, _]) (zat TX14_forceOf 1 rfl) (by decide) rfl ?_
  refine w_iconst (v := 0) (zat TX14_forceOf 2 rfl) (by decide) ?_
  refine x_istore (ls2 := [_, _, _, _, _]) (zat TX14_forceOf 3 rfl) (by decide) rfl ?_
  exact lX14_forceOf l h hWM p y nE hE hE2 hE3 nE 0 (by omega)
def mForce (h : zH) (nP nE : Nat) (p y : Int32) : Int32 := if (0 ≤ p ∧ p < nI nP) ∧ (0 ≤ y ∧ y ≤ 99) then mF (eP h) (eY h) p y nE else -1
theorem qX14_force (l : Launch) (h : zH) (hWM : Wm h) (p y : Int32) (nP : Nat) (hP : zI h 1 0 4 = nI nP) (hP2 : nP ≤ 10) (nE : Nat) (hE : zI h 1 0 14 = nI nE) (hE2 : nE ≤ 30) (hE3 : zC h 17 = nE + 1) : Cx l 2 mX14_force [Vq (some (1, 0)), Vi p, Vi y] h (Rv (Vi (mForce h nP nE p y))) (zsI h 1 0 0 0) := by
  refine Ct.in 0 kX14_force (plainFor_of_name rfl) (Nat.le_of_ble_eq_true rfl) ?_
  refine w_aload_n (zat TX14_force 0 rfl) rfl ?_
  refine w_iconst (v := 0) (zat TX14_force 1 rfl) (by decide) ?_
  refine w_putI (zat TX14_force 2 rfl) gX14_force_100 s1 (by decide) (by decide) rfl ⟨rfl, rfl⟩ ?_
  refine w_aload_n (zat TX14_force 3 rfl) rfl ?_
  refine w_iload_n (zat TX14_force 4 rfl) rfl ?_
  refine x_callv2 (qX14_isProvince l _ _ nP hP) (by decide) kX14_isProvince (rdy_V (zat TX14_force 5 rfl) kX14_isProvince pX14_isProvince zw1200 zw1202 zw33 (zrc (by decide) (by decide) rfl)) (Nat.le_of_ble_eq_true rfl) rfl rfl ?_
  refine w_if_eq 32 (zat TX14_force 6 rfl) (by decide) (fun Hc10 => ?_) (fun Hc10 => ?_)
  · refine w_iconst (v := -1) (zat TX14_force 17 rfl) (by decide) ?_
    refine w_ireturn (zat TX14_force 18 rfl) rfl rfl ?_
    try simp only [zb_0, Decidable.not_not] at Hc10
    exact ⟨by simp only [mForce, Hc10, if_true, if_false, and_self, not_true_eq_false, not_false_eq_true, and_false, false_and, true_and, and_true], rfl⟩
  · refine w_iload_n (zat TX14_force 7 rfl) rfl ?_
    refine w_iconst (v := 0) (zat TX14_force 8 rfl) (by decide) ?_
    refine w_bipush (v := 99) (zat TX14_force 9 rfl) (by decide) ?_
    refine x_callv3 (qX14_in l _ _ _ _) (by decide) kX14_in (rdy_S (zat TX14_force 10 rfl) kX14_in pX14_in zw1185 zw1186) (Nat.le_of_ble_eq_true rfl) rfl rfl ?_
    refine w_if_eq 32 (zat TX14_force 11 rfl) (by decide) (fun Hc20 => ?_) (fun Hc20 => ?_)
    · refine w_iconst (v := -1) (zat TX14_force 17 rfl) (by decide) ?_
      refine w_ireturn (zat TX14_force 18 rfl) rfl rfl ?_
      try simp only [zb_0, Decidable.not_not] at Hc10 Hc20
      exact ⟨by simp only [mForce, Hc10, Hc20, if_true, if_false, and_self, not_true_eq_false, not_false_eq_true, and_false, false_and, true_and, and_true], rfl⟩
    · refine w_aload_n (zat TX14_force 12 rfl) rfl ?_
      refine w_iload_n (zat TX14_force 13 rfl) rfl ?_
      refine w_iload_n (zat TX14_force 14 rfl) rfl ?_
      refine x_callv3 (qX14_forceOf l (zsI h 1 0 0 0) hWM p y nE hE hE2 hE3) (by decide) kX14_forceOf (rdy_V (zat TX14_force 15 rfl) kX14_forceOf pX14_forceOf zw1321 zw1323 zw49 (zrc (by decide) (by decide) rfl)) (Nat.le_of_ble_eq_true rfl) rfl rfl ?_
      rw [show mF (eP (zsI h 1 0 0 0)) (eY (zsI h 1 0 0 0)) p y nE = mF (eP h) (eY h) p y nE from rfl]
      refine w_goto 33 (zat TX14_force 16 rfl) (by decide) ?_
      refine w_ireturn (zat TX14_force 18 rfl) rfl rfl ?_
      try simp only [zb_0, Decidable.not_not] at Hc10 Hc20
      exact ⟨by simp only [mForce, Hc10, Hc20, if_true, if_false, and_self, not_true_eq_false, not_false_eq_true, and_false, false_and, true_and, and_true], rfl⟩
end
section
-- THE CLASS'S LEAVES, by program (wip/gen/p24.py)
theorem wi_iff {p : Int32} {n : Nat} (hn : n < 1000) : (0 ≤ p ∧ p ≤ nI n - 1) ↔ (0 ≤ p ∧ p < nI n) := by
  have h1 : (nI n - 1).toInt = (n : Int) - 1 := pk_sub_toInt (a := n) (b := 1) (by omega) (by decide)
  simp only [Int32.le_iff_toInt_le, Int32.lt_iff_toInt_lt, h1, nI_toInt (show n < 2 ^ 31 by omega)]
  constructor <;> rintro ⟨a, b⟩ <;> exact ⟨a, by omega⟩
theorem ixI {j n : Nat} (hj : j < n) (hn : n < 1000) : 0 ≤ nI j ∧ nI j < nI n := ⟨nI_pos' (by omega), nI_lt hj (by omega)⟩
theorem qX11_provinceAt_s (l : Launch) (h : zH) (hW : Wc h) (nP : Nat) (hv : zI h 0 0 8 = nI nP) (h2 : nP ≤ 10) (h3 : zC h 58 = nP) (p : Int32) (j : Nat) (hx : p = nI j) (hj : j < nP) : Cx l 2 mX11_provinceAt [Vq (some (0, 0)), Vi p] h (Rv (Vq (some (58, j)))) h := by
  refine Ct.in 0 kX11_provinceAt (plainFor_of_name rfl) (Nat.le_of_ble_eq_true rfl) ?_
  refine w_iload_n (zat TX11_provinceAt 0 rfl) rfl ?_
  refine w_iconst (v := 0) (zat TX11_provinceAt 1 rfl) (by decide) ?_
  refine w_aload_n (zat TX11_provinceAt 2 rfl) rfl ?_
  refine y_getI (v := nI nP) (zat TX11_provinceAt 3 rfl) fX11_62 s0 (by decide) (by decide) rfl hv ?_
  refine w_iconst (v := 1) (zat TX11_provinceAt 4 rfl) (by decide) ?_
  refine w_isub (zat TX11_provinceAt 5 rfl) ?_
  refine x_callv3 (qX11_within l _ _ _ _) (by decide) kX11_within (rdy_S (zat TX11_provinceAt 6 rfl) kX11_within pX11_within zw341 zw342) (Nat.le_of_ble_eq_true rfl) rfl rfl ?_
  refine w_if_eq 23 (zat TX11_provinceAt 7 rfl) (by decide) (fun Hc11 => ?_) (fun Hc11 => ?_)
  · rw [zb_0, wi_iff (by omega), hx] at Hc11
    exact absurd (ixI hj (by omega)) Hc11
  · refine w_aload_n (zat TX11_provinceAt 8 rfl) rfl ?_
    refine w_getR (zat TX11_provinceAt 9 rfl) fX11_11 s0 (by decide) (by decide) rfl (wcr hW 0 rfl) ?_
    refine w_iload_n (zat TX11_provinceAt 10 rfl) rfl ?_
    refine x_aaload _ _ (zat TX11_provinceAt 11 rfl) (by decide) (by decide) ⟨_, rfl⟩ (wcn hW 0 rfl) (by decide) hx (by omega) ((hW.2.2.1.2.2 j (by omega)).1) ?_
    refine w_goto 24 (zat TX11_provinceAt 12 rfl) (by decide) ?_
    refine w_areturn (zat TX11_provinceAt 14 rfl) rfl (Or.inl ⟨_, rfl⟩) ?_
    exact ⟨rfl, rfl⟩
theorem qX11_provinceAt_n (l : Launch) (h : zH) (hW : Wc h) (nP : Nat) (hv : zI h 0 0 8 = nI nP) (h2 : nP ≤ 10) (h3 : zC h 58 = nP) (p : Int32) (hx : ¬ (0 ≤ p ∧ p < nI nP)) : Cx l 2 mX11_provinceAt [Vq (some (0, 0)), Vi p] h (Rv (Vq none)) h := by
  refine Ct.in 0 kX11_provinceAt (plainFor_of_name rfl) (Nat.le_of_ble_eq_true rfl) ?_
  refine w_iload_n (zat TX11_provinceAt 0 rfl) rfl ?_
  refine w_iconst (v := 0) (zat TX11_provinceAt 1 rfl) (by decide) ?_
  refine w_aload_n (zat TX11_provinceAt 2 rfl) rfl ?_
  refine y_getI (v := nI nP) (zat TX11_provinceAt 3 rfl) fX11_62 s0 (by decide) (by decide) rfl hv ?_
  refine w_iconst (v := 1) (zat TX11_provinceAt 4 rfl) (by decide) ?_
  refine w_isub (zat TX11_provinceAt 5 rfl) ?_
  refine x_callv3 (qX11_within l _ _ _ _) (by decide) kX11_within (rdy_S (zat TX11_provinceAt 6 rfl) kX11_within pX11_within zw341 zw342) (Nat.le_of_ble_eq_true rfl) rfl rfl ?_
  refine w_if_eq 23 (zat TX11_provinceAt 7 rfl) (by decide) (fun Hc11 => ?_) (fun Hc11 => ?_)
  · refine w_null (zat TX11_provinceAt 13 rfl) ?_
    refine w_areturn (zat TX11_provinceAt 14 rfl) rfl (Or.inl ⟨_, rfl⟩) ?_
    exact ⟨rfl, rfl⟩
  · rw [zb_0, Decidable.not_not, wi_iff (by omega)] at Hc11
    exact absurd Hc11 hx
theorem qX11_borderAt_s (l : Launch) (h : zH) (hW : Wc h) (nB : Nat) (hv : zI h 0 0 9 = nI nB) (h2 : nB ≤ 16) (h3 : zC h 59 = nB) (p : Int32) (j : Nat) (hx : p = nI j) (hj : j < nB) : Cx l 2 mX11_borderAt [Vq (some (0, 0)), Vi p] h (Rv (Vq (some (59, j)))) h := by
  refine Ct.in 0 kX11_borderAt (plainFor_of_name rfl) (Nat.le_of_ble_eq_true rfl) ?_
  refine w_iload_n (zat TX11_borderAt 0 rfl) rfl ?_
  refine w_iconst (v := 0) (zat TX11_borderAt 1 rfl) (by decide) ?_
  refine w_aload_n (zat TX11_borderAt 2 rfl) rfl ?_
  refine y_getI (v := nI nB) (zat TX11_borderAt 3 rfl) fX11_66 s0 (by decide) (by decide) rfl hv ?_
  refine w_iconst (v := 1) (zat TX11_borderAt 4 rfl) (by decide) ?_
  refine w_isub (zat TX11_borderAt 5 rfl) ?_
  refine x_callv3 (qX11_within l _ _ _ _) (by decide) kX11_within (rdy_S (zat TX11_borderAt 6 rfl) kX11_within pX11_within zw341 zw342) (Nat.le_of_ble_eq_true rfl) rfl rfl ?_
  refine w_if_eq 23 (zat TX11_borderAt 7 rfl) (by decide) (fun Hc11 => ?_) (fun Hc11 => ?_)
  · rw [zb_0, wi_iff (by omega), hx] at Hc11
    exact absurd (ixI hj (by omega)) Hc11
  · refine w_aload_n (zat TX11_borderAt 8 rfl) rfl ?_
    refine w_getR (zat TX11_borderAt 9 rfl) fX11_17 s0 (by decide) (by decide) rfl (wcr hW 1 rfl) ?_
    refine w_iload_n (zat TX11_borderAt 10 rfl) rfl ?_
    refine x_aaload _ _ (zat TX11_borderAt 11 rfl) (by decide) (by decide) ⟨_, rfl⟩ (wcn hW 1 rfl) (by decide) hx (by omega) (hW.2.2.2.1 j (by omega)) ?_
    refine w_goto 24 (zat TX11_borderAt 12 rfl) (by decide) ?_
    refine w_areturn (zat TX11_borderAt 14 rfl) rfl (Or.inl ⟨_, rfl⟩) ?_
    exact ⟨rfl, rfl⟩
theorem qX11_borderAt_n (l : Launch) (h : zH) (hW : Wc h) (nB : Nat) (hv : zI h 0 0 9 = nI nB) (h2 : nB ≤ 16) (h3 : zC h 59 = nB) (p : Int32) (hx : ¬ (0 ≤ p ∧ p < nI nB)) : Cx l 2 mX11_borderAt [Vq (some (0, 0)), Vi p] h (Rv (Vq none)) h := by
  refine Ct.in 0 kX11_borderAt (plainFor_of_name rfl) (Nat.le_of_ble_eq_true rfl) ?_
  refine w_iload_n (zat TX11_borderAt 0 rfl) rfl ?_
  refine w_iconst (v := 0) (zat TX11_borderAt 1 rfl) (by decide) ?_
  refine w_aload_n (zat TX11_borderAt 2 rfl) rfl ?_
  refine y_getI (v := nI nB) (zat TX11_borderAt 3 rfl) fX11_66 s0 (by decide) (by decide) rfl hv ?_
  refine w_iconst (v := 1) (zat TX11_borderAt 4 rfl) (by decide) ?_
  refine w_isub (zat TX11_borderAt 5 rfl) ?_
  refine x_callv3 (qX11_within l _ _ _ _) (by decide) kX11_within (rdy_S (zat TX11_borderAt 6 rfl) kX11_within pX11_within zw341 zw342) (Nat.le_of_ble_eq_true rfl) rfl rfl ?_
  refine w_if_eq 23 (zat TX11_borderAt 7 rfl) (by decide) (fun Hc11 => ?_) (fun Hc11 => ?_)
  · refine w_null (zat TX11_borderAt 13 rfl) ?_
    refine w_areturn (zat TX11_borderAt 14 rfl) rfl (Or.inl ⟨_, rfl⟩) ?_
    exact ⟨rfl, rfl⟩
  · rw [zb_0, Decidable.not_not, wi_iff (by omega)] at Hc11
    exact absurd Hc11 hx
theorem qX11_storeAt_s (l : Launch) (h : zH) (hW : Wc h) (nS : Nat) (hv : zI h 0 0 10 = nI nS) (h2 : nS ≤ 8) (h3 : zC h 61 = nS) (p : Int32) (j : Nat) (hx : p = nI j) (hj : j < nS) : Cx l 2 mX11_storeAt [Vq (some (0, 0)), Vi p] h (Rv (Vq (some (61, j)))) h := by
  refine Ct.in 0 kX11_storeAt (plainFor_of_name rfl) (Nat.le_of_ble_eq_true rfl) ?_
  refine w_iload_n (zat TX11_storeAt 0 rfl) rfl ?_
  refine w_iconst (v := 0) (zat TX11_storeAt 1 rfl) (by decide) ?_
  refine w_aload_n (zat TX11_storeAt 2 rfl) rfl ?_
  refine y_getI (v := nI nS) (zat TX11_storeAt 3 rfl) fX11_69 s0 (by decide) (by decide) rfl hv ?_
  refine w_iconst (v := 1) (zat TX11_storeAt 4 rfl) (by decide) ?_
  refine w_isub (zat TX11_storeAt 5 rfl) ?_
  refine x_callv3 (qX11_within l _ _ _ _) (by decide) kX11_within (rdy_S (zat TX11_storeAt 6 rfl) kX11_within pX11_within zw341 zw342) (Nat.le_of_ble_eq_true rfl) rfl rfl ?_
  refine w_if_eq 23 (zat TX11_storeAt 7 rfl) (by decide) (fun Hc11 => ?_) (fun Hc11 => ?_)
  · rw [zb_0, wi_iff (by omega), hx] at Hc11
    exact absurd (ixI hj (by omega)) Hc11
  · refine w_aload_n (zat TX11_storeAt 8 rfl) rfl ?_
    refine w_getR (zat TX11_storeAt 9 rfl) fX11_23 s0 (by decide) (by decide) rfl (wcr hW 2 rfl) ?_
    refine w_iload_n (zat TX11_storeAt 10 rfl) rfl ?_
    refine x_aaload _ _ (zat TX11_storeAt 11 rfl) (by decide) (by decide) ⟨_, rfl⟩ (wcn hW 2 rfl) (by decide) hx (by omega) (hW.2.2.2.2.1 j (by omega)) ?_
    refine w_goto 24 (zat TX11_storeAt 12 rfl) (by decide) ?_
    refine w_areturn (zat TX11_storeAt 14 rfl) rfl (Or.inl ⟨_, rfl⟩) ?_
    exact ⟨rfl, rfl⟩
theorem qX11_storeAt_n (l : Launch) (h : zH) (hW : Wc h) (nS : Nat) (hv : zI h 0 0 10 = nI nS) (h2 : nS ≤ 8) (h3 : zC h 61 = nS) (p : Int32) (hx : ¬ (0 ≤ p ∧ p < nI nS)) : Cx l 2 mX11_storeAt [Vq (some (0, 0)), Vi p] h (Rv (Vq none)) h := by
  refine Ct.in 0 kX11_storeAt (plainFor_of_name rfl) (Nat.le_of_ble_eq_true rfl) ?_
  refine w_iload_n (zat TX11_storeAt 0 rfl) rfl ?_
  refine w_iconst (v := 0) (zat TX11_storeAt 1 rfl) (by decide) ?_
  refine w_aload_n (zat TX11_storeAt 2 rfl) rfl ?_
  refine y_getI (v := nI nS) (zat TX11_storeAt 3 rfl) fX11_69 s0 (by decide) (by decide) rfl hv ?_
  refine w_iconst (v := 1) (zat TX11_storeAt 4 rfl) (by decide) ?_
  refine w_isub (zat TX11_storeAt 5 rfl) ?_
  refine x_callv3 (qX11_within l _ _ _ _) (by decide) kX11_within (rdy_S (zat TX11_storeAt 6 rfl) kX11_within pX11_within zw341 zw342) (Nat.le_of_ble_eq_true rfl) rfl rfl ?_
  refine w_if_eq 23 (zat TX11_storeAt 7 rfl) (by decide) (fun Hc11 => ?_) (fun Hc11 => ?_)
  · refine w_null (zat TX11_storeAt 13 rfl) ?_
    refine w_areturn (zat TX11_storeAt 14 rfl) rfl (Or.inl ⟨_, rfl⟩) ?_
    exact ⟨rfl, rfl⟩
  · rw [zb_0, Decidable.not_not, wi_iff (by omega)] at Hc11
    exact absurd Hc11 hx
def pNew (h : zH) (i : Nat) (a b : Int32) : zH := zsI (zsI (zsI (zsR (znew (zsR (znew h 76 100 100) 58 i 2 (some (76, zC h 76))) 77 100 100) 58 i 3 (some (77, zC h 77))) 58 i 4 0) 58 i 0 a) 58 i 1 b
def bNew (h : zH) (i : Nat) (a b r : Int32) : zH := zsI (zsI (zsI (zsI h 59 i 3 0) 59 i 0 a) 59 i 1 b) 59 i 2 r
def sNew (h : zH) (i : Nat) (a : Int32) : zH := zsI (zsL (zsI (zsI (zsI (zsI h 61 i 1 0) 61 i 2 0) 61 i 3 0) 61 i 4 0) 61 i 5 0) 61 i 0 a
def eNew (h : zH) (i : Nat) (p y : Int32) (r : zRf) : zH := zsR (zsI (zsI h 60 i 0 p) 60 i 1 y) 60 i 2 (some r)
theorem qX5_init (l : Launch) (h : zH) (i : Nat) (a b : Int32) : Cx l 1 mX5_init [Vq (some (58, i)), Vi a, Vi b] h R0 (pNew h i a b) := by
  refine Ct.in 0 kX5_init (plainFor_of_name rfl) (Nat.le_of_ble_eq_true rfl) ?_
  refine w_aload_n (zat TX5_init 0 rfl) rfl ?_
  refine w_objInit (zat TX5_init 1 rfl) zw352 zw94 zw95 (Nat.le_of_ble_eq_true rfl) (by decide) ?_
  refine w_aload_n (zat TX5_init 2 rfl) rfl ?_
  refine w_bipush (v := 100) (zat TX5_init 3 rfl) (by decide) ?_
  refine w_newarr 76 100 (zat TX5_init 4 rfl) s76 (Or.inl rfl) (by decide) rfl zw143 (by decide) (by decide) ?_
  refine w_putR (zat TX5_init 5 rfl) gX5_init_9 s58 (by decide) (by decide) rfl (fun x => by cases x <;> exact ⟨rfl, rfl⟩) ?_
  refine w_aload_n (zat TX5_init 6 rfl) rfl ?_
  refine w_bipush (v := 100) (zat TX5_init 7 rfl) (by decide) ?_
  refine w_newarr 77 100 (zat TX5_init 8 rfl) s77 (Or.inl rfl) (by decide) rfl zw143 (by decide) (by decide) ?_
  refine w_putR (zat TX5_init 9 rfl) gX5_init_15 s58 (by decide) (by decide) rfl (fun x => by cases x <;> exact ⟨rfl, rfl⟩) ?_
  refine w_aload_n (zat TX5_init 10 rfl) rfl ?_
  refine w_iconst (v := 0) (zat TX5_init 11 rfl) (by decide) ?_
  refine w_putI (zat TX5_init 12 rfl) gX5_init_18 s58 (by decide) (by decide) rfl ⟨rfl, rfl⟩ ?_
  refine w_aload_n (zat TX5_init 13 rfl) rfl ?_
  refine w_iload_n (zat TX5_init 14 rfl) rfl ?_
  refine w_putI (zat TX5_init 15 rfl) gX5_init_22 s58 (by decide) (by decide) rfl ⟨rfl, rfl⟩ ?_
  refine w_aload_n (zat TX5_init 16 rfl) rfl ?_
  refine w_iload_n (zat TX5_init 17 rfl) rfl ?_
  refine w_putI (zat TX5_init 18 rfl) gX5_init_25 s58 (by decide) (by decide) rfl ⟨rfl, rfl⟩ ?_
  refine w_return (zat TX5_init 19 rfl) rfl ?_
  exact ⟨rfl, rfl⟩
theorem qX0_init (l : Launch) (h : zH) (i : Nat) (a b r : Int32) : Cx l 1 mX0_init [Vq (some (59, i)), Vi a, Vi b, Vi r] h R0 (bNew h i a b r) := by
  refine Ct.in 0 kX0_init (plainFor_of_name rfl) (Nat.le_of_ble_eq_true rfl) ?_
  refine w_aload_n (zat TX0_init 0 rfl) rfl ?_
  refine w_objInit (zat TX0_init 1 rfl) zw417 zw94 zw95 (Nat.le_of_ble_eq_true rfl) (by decide) ?_
  refine w_aload_n (zat TX0_init 2 rfl) rfl ?_
  refine w_iconst (v := 0) (zat TX0_init 3 rfl) (by decide) ?_
  refine w_putI (zat TX0_init 4 rfl) gX0_init_7 s59 (by decide) (by decide) rfl ⟨rfl, rfl⟩ ?_
  refine w_aload_n (zat TX0_init 5 rfl) rfl ?_
  refine w_iload_n (zat TX0_init 6 rfl) rfl ?_
  refine w_putI (zat TX0_init 7 rfl) gX0_init_13 s59 (by decide) (by decide) rfl ⟨rfl, rfl⟩ ?_
  refine w_aload_n (zat TX0_init 8 rfl) rfl ?_
  refine w_iload_n (zat TX0_init 9 rfl) rfl ?_
  refine w_putI (zat TX0_init 10 rfl) gX0_init_16 s59 (by decide) (by decide) rfl ⟨rfl, rfl⟩ ?_
  refine w_aload_n (zat TX0_init 11 rfl) rfl ?_
  refine w_iload_n (zat TX0_init 12 rfl) rfl ?_
  refine w_putI (zat TX0_init 13 rfl) gX0_init_19 s59 (by decide) (by decide) rfl ⟨rfl, rfl⟩ ?_
  refine w_return (zat TX0_init 14 rfl) rfl ?_
  exact ⟨rfl, rfl⟩
theorem qX7_init (l : Launch) (h : zH) (i : Nat) (a : Int32) : Cx l 1 mX7_init [Vq (some (61, i)), Vi a] h R0 (sNew h i a) := by
  refine Ct.in 0 kX7_init (plainFor_of_name rfl) (Nat.le_of_ble_eq_true rfl) ?_
  refine w_aload_n (zat TX7_init 0 rfl) rfl ?_
  refine w_objInit (zat TX7_init 1 rfl) zw857 zw94 zw95 (Nat.le_of_ble_eq_true rfl) (by decide) ?_
  refine w_aload_n (zat TX7_init 2 rfl) rfl ?_
  refine w_iconst (v := 0) (zat TX7_init 3 rfl) (by decide) ?_
  refine w_putI (zat TX7_init 4 rfl) gX7_init_7 s61 (by decide) (by decide) rfl ⟨rfl, rfl⟩ ?_
  refine w_aload_n (zat TX7_init 5 rfl) rfl ?_
  refine w_iconst (v := 0) (zat TX7_init 6 rfl) (by decide) ?_
  refine w_putI (zat TX7_init 7 rfl) gX7_init_13 s61 (by decide) (by decide) rfl ⟨rfl, rfl⟩ ?_
  refine w_aload_n (zat TX7_init 8 rfl) rfl ?_
  refine w_iconst (v := 0) (zat TX7_init 9 rfl) (by decide) ?_
  refine w_putI (zat TX7_init 10 rfl) gX7_init_16 s61 (by decide) (by decide) rfl ⟨rfl, rfl⟩ ?_
  refine w_aload_n (zat TX7_init 11 rfl) rfl ?_
  refine w_iconst (v := 0) (zat TX7_init 12 rfl) (by decide) ?_
  refine w_putI (zat TX7_init 13 rfl) gX7_init_19 s61 (by decide) (by decide) rfl ⟨rfl, rfl⟩ ?_
  refine w_aload_n (zat TX7_init 14 rfl) rfl ?_
  refine w_lconst (v := 0) (zat TX7_init 15 rfl) (by decide) ?_
  refine w_putL (zat TX7_init 16 rfl) gX7_init_23 s61 (by decide) (by decide) rfl ⟨rfl, rfl⟩ ?_
  refine w_aload_n (zat TX7_init 17 rfl) rfl ?_
  refine w_iload_n (zat TX7_init 18 rfl) rfl ?_
  refine w_putI (zat TX7_init 19 rfl) gX7_init_27 s61 (by decide) (by decide) rfl ⟨rfl, rfl⟩ ?_
  refine w_return (zat TX7_init 20 rfl) rfl ?_
  exact ⟨rfl, rfl⟩
theorem qX1_init (l : Launch) (h : zH) (i : Nat) (p y : Int32) (r : zRf) : Cx l 1 mX1_init [Vq (some (60, i)), Vi p, Vi y, Vq (some r)] h R0 (eNew h i p y r) := by
  refine Ct.in 0 kX1_init (plainFor_of_name rfl) (Nat.le_of_ble_eq_true rfl) ?_
  refine w_aload_n (zat TX1_init 0 rfl) rfl ?_
  refine w_objInit (zat TX1_init 1 rfl) zw614 zw94 zw95 (Nat.le_of_ble_eq_true rfl) (by decide) ?_
  refine w_aload_n (zat TX1_init 2 rfl) rfl ?_
  refine w_iload_n (zat TX1_init 3 rfl) rfl ?_
  refine w_putI (zat TX1_init 4 rfl) gX1_init_7 s60 (by decide) (by decide) rfl ⟨rfl, rfl⟩ ?_
  refine w_aload_n (zat TX1_init 5 rfl) rfl ?_
  refine w_iload_n (zat TX1_init 6 rfl) rfl ?_
  refine w_putI (zat TX1_init 7 rfl) gX1_init_13 s60 (by decide) (by decide) rfl ⟨rfl, rfl⟩ ?_
  refine w_aload_n (zat TX1_init 8 rfl) rfl ?_
  refine w_aload_n (zat TX1_init 9 rfl) rfl ?_
  refine w_putR (zat TX1_init 10 rfl) gX1_init_16 s60 (by decide) (by decide) rfl (fun x => by cases x <;> exact ⟨rfl, rfl⟩) ?_
  refine w_return (zat TX1_init 11 rfl) rfl ?_
  exact ⟨rfl, rfl⟩
theorem qX5_forgetFrom (l : Launch) (h : zH) (i : Nat) (y : Int32) : Cx l 2 mX5_forgetFrom [Vq (some (58, i)), Vi y] h R0 (zsI h 58 i 4 (if y < zI h 58 i 4 then y else zI h 58 i 4)) := by
  refine Ct.in 0 kX5_forgetFrom (plainFor_of_name rfl) (Nat.le_of_ble_eq_true rfl) ?_
  refine w_aload_n (zat TX5_forgetFrom 0 rfl) rfl ?_
  refine w_aload_n (zat TX5_forgetFrom 1 rfl) rfl ?_
  refine w_getI (zat TX5_forgetFrom 2 rfl) fX5_18 s58 (by decide) (by decide) rfl ?_
  refine w_iload_n (zat TX5_forgetFrom 3 rfl) rfl ?_
  refine x_callv2 (qJ9_min_7cf53 l _ _ _) (by decide) kJ9_min_7cf53 (rdy_S (zat TX5_forgetFrom 4 rfl) kJ9_min_7cf53 pJ9_min_7cf53 zw402 zw403) (Nat.le_of_ble_eq_true rfl) rfl rfl ?_
  refine w_putI (zat TX5_forgetFrom 5 rfl) gX5_forgetFrom_18 s58 (by decide) (by decide) rfl ⟨rfl, rfl⟩ ?_
  refine w_return (zat TX5_forgetFrom 6 rfl) rfl ?_
  exact ⟨rfl, rfl⟩
def sMis (h : zH) (i : Nat) : Int32 := zI h 61 i 0 + zI h 61 i 1 - zI h 61 i 2 - zI h 61 i 3
theorem qX7_missingThisYear (l : Launch) (h : zH) (i : Nat) : Cx l 1 mX7_missingThisYear [Vq (some (61, i))] h (Rv (Vi (sMis h i))) h := by
  refine Ct.in 0 kX7_missingThisYear (plainFor_of_name rfl) (Nat.le_of_ble_eq_true rfl) ?_
  refine w_aload_n (zat TX7_missingThisYear 0 rfl) rfl ?_
  refine w_getI (zat TX7_missingThisYear 1 rfl) fX7_27 s61 (by decide) (by decide) rfl ?_
  refine w_aload_n (zat TX7_missingThisYear 2 rfl) rfl ?_
  refine w_getI (zat TX7_missingThisYear 3 rfl) fX7_7 s61 (by decide) (by decide) rfl ?_
  refine w_iadd (zat TX7_missingThisYear 4 rfl) ?_
  refine w_aload_n (zat TX7_missingThisYear 5 rfl) rfl ?_
  refine w_getI (zat TX7_missingThisYear 6 rfl) fX7_13 s61 (by decide) (by decide) rfl ?_
  refine w_isub (zat TX7_missingThisYear 7 rfl) ?_
  refine w_aload_n (zat TX7_missingThisYear 8 rfl) rfl ?_
  refine w_getI (zat TX7_missingThisYear 9 rfl) fX7_16 s61 (by decide) (by decide) rfl ?_
  refine w_isub (zat TX7_missingThisYear 10 rfl) ?_
  refine w_ireturn (zat TX7_missingThisYear 11 rfl) rfl rfl ?_
  exact ⟨rfl, rfl⟩
def sClose (h : zH) (i : Nat) : zH := zsI (zsI (zsI (zsI (zsL h 61 i 5 (zL h 61 i 5 + (sMis h i).toInt64)) 61 i 0 (zI h 61 i 3)) 61 i 1 0) 61 i 2 0) 61 i 4 0
theorem qX7_closeYear (l : Launch) (h : zH) (i : Nat) : Cx l 2 mX7_closeYear [Vq (some (61, i))] h R0 (sClose h i) := by
  refine Ct.in 0 kX7_closeYear (plainFor_of_name rfl) (Nat.le_of_ble_eq_true rfl) ?_
  refine w_aload_n (zat TX7_closeYear 0 rfl) rfl ?_
  refine w_dup (zat TX7_closeYear 1 rfl) rfl ?_
  refine w_getL (zat TX7_closeYear 2 rfl) fX7_23 s61 (by decide) (by decide) rfl ?_
  refine w_aload_n (zat TX7_closeYear 3 rfl) rfl ?_
  refine x_callv1 (qX7_missingThisYear l _ _) (by decide) kX7_missingThisYear (rdy_V (zat TX7_closeYear 4 rfl) kX7_missingThisYear pX7_missingThisYear zw844 zw845 zw846 (zrc (by decide) (by decide) rfl)) (Nat.le_of_ble_eq_true rfl) rfl rfl ?_
  refine w_i2l (zat TX7_closeYear 5 rfl) ?_
  refine w_ladd (zat TX7_closeYear 6 rfl) ?_
  refine w_putL (zat TX7_closeYear 7 rfl) gX7_closeYear_23 s61 (by decide) (by decide) rfl ⟨rfl, rfl⟩ ?_
  refine w_aload_n (zat TX7_closeYear 8 rfl) rfl ?_
  refine w_aload_n (zat TX7_closeYear 9 rfl) rfl ?_
  refine y_getI (v := zI h 61 i 3) (zat TX7_closeYear 10 rfl) fX7_16 s61 (by decide) (by decide) rfl rfl ?_
  refine w_putI (zat TX7_closeYear 11 rfl) gX7_closeYear_27 s61 (by decide) (by decide) rfl ⟨rfl, rfl⟩ ?_
  refine w_aload_n (zat TX7_closeYear 12 rfl) rfl ?_
  refine w_iconst (v := 0) (zat TX7_closeYear 13 rfl) (by decide) ?_
  refine w_putI (zat TX7_closeYear 14 rfl) gX7_closeYear_7 s61 (by decide) (by decide) rfl ⟨rfl, rfl⟩ ?_
  refine w_aload_n (zat TX7_closeYear 15 rfl) rfl ?_
  refine w_iconst (v := 0) (zat TX7_closeYear 16 rfl) (by decide) ?_
  refine w_putI (zat TX7_closeYear 17 rfl) gX7_closeYear_13 s61 (by decide) (by decide) rfl ⟨rfl, rfl⟩ ?_
  refine w_aload_n (zat TX7_closeYear 18 rfl) rfl ?_
  refine w_iconst (v := 0) (zat TX7_closeYear 19 rfl) (by decide) ?_
  refine w_putI (zat TX7_closeYear 20 rfl) gX7_closeYear_19 s61 (by decide) (by decide) rfl ⟨rfl, rfl⟩ ?_
  refine w_return (zat TX7_closeYear 21 rfl) rfl ?_
  exact ⟨rfl, rfl⟩
theorem qX8_hasRoom (l : Launch) (h : zH) (n : Nat) (hT : zI h 53 0 1 = nI n) (hn : n ≤ 300) : Cx l 1 mX8_hasRoom [Vq (some (53, 0))] h (Rv (Vi (zb (n + 20 ≤ 300)))) h := by
  refine Ct.in 0 kX8_hasRoom (plainFor_of_name rfl) (Nat.le_of_ble_eq_true rfl) ?_
  refine w_aload_n (zat TX8_hasRoom 0 rfl) rfl ?_
  refine y_getI (v := nI n) (zat TX8_hasRoom 1 rfl) fX8_15 s53 (by decide) (by decide) rfl hT ?_
  refine w_bipush (v := 20) (zat TX8_hasRoom 2 rfl) (by decide) ?_
  refine w_iadd (zat TX8_hasRoom 3 rfl) ?_
  refine w_sipush (v := 300) (zat TX8_hasRoom 4 rfl) (by decide) ?_
  rw [show nI n + 20 = nI (n + 20) from nI_add n 20, show ((300 : Int32)) = nI 300 from rfl]
  refine w_icmp_gt 17 (zat TX8_hasRoom 5 rfl) (by decide) (fun Hc10 => ?_) (fun Hc10 => ?_)
  · rw [nI_ltI (by decide) (by omega)] at Hc10
    refine w_iconst (v := 0) (zat TX8_hasRoom 8 rfl) (by decide) ?_
    refine w_ireturn (zat TX8_hasRoom 9 rfl) rfl rfl ?_
    exact ⟨by rw [zb_f (by omega)], rfl⟩
  · rw [nI_ltI (by decide) (by omega)] at Hc10
    refine w_iconst (v := 1) (zat TX8_hasRoom 6 rfl) (by decide) ?_
    refine w_goto 18 (zat TX8_hasRoom 7 rfl) (by decide) ?_
    refine w_ireturn (zat TX8_hasRoom 9 rfl) rfl rfl ?_
    exact ⟨by rw [zb_t (by omega)], rfl⟩
def aStep (h : zH) (n : Nat) (v s : Int32) : zH := zsI (zsI h 79 0 n (vp_nar .byte (v >>> (s &&& 31)).toInt8.toInt32)) 53 0 1 (nI (n + 1))
def aH (h : zH) (n : Nat) (v : Int32) : zH := aStep (aStep (aStep (aStep h n v 24) (n + 1) v 16) (n + 2) v 8) (n + 3) v 0
theorem sX8_append (l : Launch) (h : zH) (hW : Wc h) (Q : zO → zH → Prop) (v s s2 : Int32) (n : Nat) (hT : zI h 53 0 1 = nI n) (hn : n < 300) (hs : ¬ s < 0) (he : s + Int32.ofInt (-8) = s2) (K : Wp l mX8_append 1 3 [some (Vq (some (53, 0))), some (Vi v), some (Vi s2)] [] (aStep h n v s) Q) : Wp l mX8_append 1 3 [some (Vq (some (53, 0))), some (Vi v), some (Vi s)] [] h Q := by
  refine w_iload_n (zat TX8_append 2 rfl) rfl ?_
  refine w_if_lt 46 (zat TX8_append 3 rfl) (by decide) (fun Hc4 => ?_) (fun Hc4 => ?_)
  · exact absurd Hc4 hs
  · refine w_aload_n (zat TX8_append 4 rfl) rfl ?_
    refine y_getI (v := nI n) (zat TX8_append 5 rfl) fX8_15 s53 (by decide) (by decide) rfl hT ?_
    refine w_sipush (v := 300) (zat TX8_append 6 rfl) (by decide) ?_
    rw [show ((300 : Int32)) = nI 300 from rfl]
    refine w_icmp_ge 46 (zat TX8_append 7 rfl) (by decide) (fun Hc14 => ?_) (fun Hc14 => ?_)
    · exact absurd Hc14 (nI_ge hn (by decide))
    · refine w_aload_n (zat TX8_append 8 rfl) rfl ?_
      refine w_getR (zat TX8_append 9 rfl) fX8_9 s53 (by decide) (by decide) rfl (wcr hW 8 rfl) ?_
      refine w_aload_n (zat TX8_append 10 rfl) rfl ?_
      refine y_getI (v := nI n) (zat TX8_append 11 rfl) fX8_15 s53 (by decide) (by decide) rfl hT ?_
      refine w_iload_n (zat TX8_append 12 rfl) rfl ?_
      refine w_iload_n (zat TX8_append 13 rfl) rfl ?_
      refine w_ishr (zat TX8_append 14 rfl) ?_
      refine w_i2b (zat TX8_append 15 rfl) ?_
      refine x_bastore _ _ (zat TX8_append 16 rfl) s79 (by decide) (wcn hW 15 rfl) (by decide) rfl hn ?_
      refine w_aload_n (zat TX8_append 17 rfl) rfl ?_
      refine w_dup (zat TX8_append 18 rfl) rfl ?_
      refine y_getI (v := nI n) (zat TX8_append 19 rfl) fX8_15 s53 (by decide) (by decide) rfl hT ?_
      refine w_iconst (v := 1) (zat TX8_append 20 rfl) (by decide) ?_
      refine w_iadd (zat TX8_append 21 rfl) ?_
      rw [nI_1]
      refine w_putI (zat TX8_append 22 rfl) gX8_append_15 s53 (by decide) (by decide) rfl ⟨rfl, rfl⟩ ?_
      refine x_iinc (v := s2) (ls2 := [_, _, _]) (zat TX8_append 23 rfl) rfl he rfl ?_
      refine w_goto 3 (zat TX8_append 24 rfl) (by decide) ?_
      exact K
theorem qX8_append (l : Launch) (h : zH) (hW : Wc h) (v : Int32) (n : Nat) (hT : zI h 53 0 1 = nI n) (hn : n + 4 ≤ 300) : Cx l 1 mX8_append [Vq (some (53, 0)), Vi v] h R0 (aH h n v) := by
  refine Ct.in 1 kX8_append (plainFor_of_name rfl) (Nat.le_of_ble_eq_true rfl) ?_
  refine w_bipush (v := 24) (zat TX8_append 0 rfl) (by decide) ?_
  refine x_istore_n (ls2 := [_, _, _]) (zat TX8_append 1 rfl) (by decide) rfl ?_
  refine sX8_append l h hW _ v 24 16 n hT (by omega) (by decide) (by decide) ?_
  refine sX8_append l (aStep h n v 24) hW _ v 16 8 (n + 1) (zI_same _ 53 0 1 _) (by omega) (by decide) (by decide) ?_
  refine sX8_append l (aStep (aStep h n v 24) (n + 1) v 16) hW _ v 8 0 (n + 2) (zI_same _ 53 0 1 _) (by omega) (by decide) (by decide) ?_
  refine sX8_append l (aStep (aStep (aStep h n v 24) (n + 1) v 16) (n + 2) v 8) hW _ v 0 (-8) (n + 3) (zI_same _ 53 0 1 _) (by omega) (by decide) (by decide) ?_
  refine w_iload_n (zat TX8_append 2 rfl) rfl ?_
  refine w_if_lt 46 (zat TX8_append 3 rfl) (by decide) (fun Hc4 => ?_) (fun Hc4 => ?_)
  · refine w_return (zat TX8_append 25 rfl) rfl ?_
    exact ⟨rfl, rfl⟩
  · exact absurd (by decide) Hc4
theorem qX2_isFull (l : Launch) (h : zH) (n : Nat) (hn : zI h 55 0 2 = nI n) (h2 : n ≤ 30) : Cx l 1 mX2_isFull [Vq (some (55, 0))] h (Rv (Vi (zb (n = 30)))) h := by
  refine Ct.in 0 kX2_isFull (plainFor_of_name rfl) (Nat.le_of_ble_eq_true rfl) ?_
  refine w_aload_n (zat TX2_isFull 0 rfl) rfl ?_
  refine y_getI (v := nI n) (zat TX2_isFull 1 rfl) fX2_24 s55 (by decide) (by decide) rfl hn ?_
  refine w_bipush (v := 30) (zat TX2_isFull 2 rfl) (by decide) ?_
  rw [show ((30 : Int32)) = nI 30 from rfl]
  refine w_icmp_lt 13 (zat TX2_isFull 3 rfl) (by decide) (fun Hc6 => ?_) (fun Hc6 => ?_)
  · rw [nI_ltI (by omega) (by decide)] at Hc6
    refine w_iconst (v := 0) (zat TX2_isFull 6 rfl) (by decide) ?_
    refine w_ireturn (zat TX2_isFull 7 rfl) rfl rfl ?_
    exact ⟨by rw [zb_f (by omega)], rfl⟩
  · rw [nI_ltI (by omega) (by decide)] at Hc6
    refine w_iconst (v := 1) (zat TX2_isFull 4 rfl) (by decide) ?_
    refine w_goto 14 (zat TX2_isFull 5 rfl) (by decide) ?_
    refine w_ireturn (zat TX2_isFull 7 rfl) rfl rfl ?_
    exact ⟨by rw [zb_t (by omega)], rfl⟩
theorem qX2_add (l : Launch) (h : zH) (hW : Wc h) (n i : Nat) (hn : zI h 55 0 2 = nI n) (h2 : n < 30) : Cx l 2 mX2_add [Vq (some (55, 0)), Vq (some (60, i))] h (Rv (Vi (nI n))) (zsI (zsR h 62 0 n (some (60, i))) 55 0 2 (nI (n + 1))) := by
  refine Ct.in 0 kX2_add (plainFor_of_name rfl) (Nat.le_of_ble_eq_true rfl) ?_
  refine w_aload_n (zat TX2_add 0 rfl) rfl ?_
  refine x_callv1 (qX2_isFull l _ n hn (by omega)) (by decide) kX2_isFull (rdy_V (zat TX2_add 1 rfl) kX2_isFull pX2_isFull zw632 zw599 zw600 (zrc (by decide) (by decide) rfl)) (Nat.le_of_ble_eq_true rfl) rfl rfl ?_
  refine w_if_eq 9 (zat TX2_add 2 rfl) (by decide) (fun Hc4 => ?_) (fun Hc4 => ?_)
  · refine w_aload_n (zat TX2_add 5 rfl) rfl ?_
    refine w_getR (zat TX2_add 6 rfl) fX2_11 s55 (by decide) (by decide) rfl (wcr hW 11 rfl) ?_
    refine w_aload_n (zat TX2_add 7 rfl) rfl ?_
    refine y_getI (v := nI n) (zat TX2_add 8 rfl) fX2_24 s55 (by decide) (by decide) rfl hn ?_
    refine w_aload_n (zat TX2_add 9 rfl) rfl ?_
    refine x_aastore _ _ (zat TX2_add 10 rfl) s62 (by decide) s60 (by decide) (by show 60 < 900; decide) (wcn hW 3 rfl) (by decide) rfl (by omega) ?_
    refine w_aload_n (zat TX2_add 11 rfl) rfl ?_
    refine w_dup (zat TX2_add 12 rfl) rfl ?_
    refine y_getI (v := nI n) (zat TX2_add 13 rfl) fX2_24 s55 (by decide) (by decide) rfl hn ?_
    refine w_iconst (v := 1) (zat TX2_add 14 rfl) (by decide) ?_
    refine w_iadd (zat TX2_add 15 rfl) ?_
    rw [nI_1]
    refine w_putI (zat TX2_add 16 rfl) gX2_add_24 s55 (by decide) (by decide) rfl ⟨rfl, rfl⟩ ?_
    refine w_aload_n (zat TX2_add 17 rfl) rfl ?_
    refine y_getI (v := nI (n + 1)) (zat TX2_add 18 rfl) fX2_24 s55 (by decide) (by decide) rfl (zI_same _ 55 0 2 _) ?_
    refine w_iconst (v := 1) (zat TX2_add 19 rfl) (by decide) ?_
    refine w_isub (zat TX2_add 20 rfl) ?_
    rw [show nI (n + 1) - 1 = nI n from nI_pred n]
    refine w_ireturn (zat TX2_add 21 rfl) rfl rfl ?_
    exact ⟨rfl, rfl⟩
  · exact absurd (zb_n.mp Hc4) (by omega)
def cP (h : zH) (e : Nat) : Int32 := zI h 60 e 0
def cY (h : zH) (e : Nat) : Int32 := zI h 60 e 1
def mSi (eP eY : Nat → Int32) (p y : Int32) (s : Nat) : Int32 := if mF eP eY p y s = -2 then 0 else eY (mF eP eY p y s).toNatClampNeg
theorem lX2_numberInForce (l : Launch) (h : zH) (hW : Wc h) (p y : Int32) (nE : Nat) (hE : zI h 55 0 2 = nI nE) (hE2 : nE ≤ 30) (hE3 : zC h 60 = nE) (hY : ∀ e, e < nE → 0 ≤ cY h e) : ∀ kk s : Nat, s + kk = nE → ∀ x : Option zV, Wp l mX2_numberInForce 1 9 [some (Vq (some (55, 0))), some (Vi p), some (Vi y), some (Vi (mF (cP h) (cY h) p y s)), some (Vi (mSi (cP h) (cY h) p y s)), some (Vi (nI s)), x] [] h (fun o h' => o = Rv (Vi (mF (cP h) (cY h) p y nE)) ∧ h' = h) := by
  intro kk
  induction kk with
  | zero =>
    intro s hs x
    refine w_iload (zat TX2_numberInForce 6 rfl) rfl ?_
    refine w_aload_n (zat TX2_numberInForce 7 rfl) rfl ?_
    refine y_getI (v := nI nE) (zat TX2_numberInForce 8 rfl) fX2_24 s55 (by decide) (by decide) rfl hE ?_
    refine w_icmp_ge 71 (zat TX2_numberInForce 9 rfl) (by decide) (fun Hc15 => ?_) (fun Hc15 => ?_)
    · refine w_iload_n (zat TX2_numberInForce 34 rfl) rfl ?_
      refine w_ireturn (zat TX2_numberInForce 35 rfl) rfl rfl ?_
      exact ⟨by rw [show s = nE by omega], rfl⟩
    · exact absurd (nI_le (by omega) (by omega)) Hc15
  | succ kk ih =>
    intro s hs x
    refine w_iload (zat TX2_numberInForce 6 rfl) rfl ?_
    refine w_aload_n (zat TX2_numberInForce 7 rfl) rfl ?_
    refine y_getI (v := nI nE) (zat TX2_numberInForce 8 rfl) fX2_24 s55 (by decide) (by decide) rfl hE ?_
    refine w_icmp_ge 71 (zat TX2_numberInForce 9 rfl) (by decide) (fun Hc15 => ?_) (fun Hc15 => ?_)
    · exact absurd Hc15 (nI_ge (by omega) (by omega))
    · refine w_aload_n (zat TX2_numberInForce 10 rfl) rfl ?_
      refine w_getR (zat TX2_numberInForce 11 rfl) fX2_11 s55 (by decide) (by decide) rfl (wcr hW 11 rfl) ?_
      refine w_iload (zat TX2_numberInForce 12 rfl) rfl ?_
      refine x_aaload _ _ (zat TX2_numberInForce 13 rfl) (by decide) (by decide) ⟨_, rfl⟩ (wcn hW 3 rfl) (by decide) rfl (by omega) ((hW.2.2.2.2.2.2 s (by omega)).1) ?_
      refine x_astore (ls2 := [_, _, _, _, _, _, _]) (zat TX2_numberInForce 14 rfl) (by decide) rfl ?_
      refine w_aload (zat TX2_numberInForce 15 rfl) rfl ?_
      refine y_getI (v := cP h s) (zat TX2_numberInForce 16 rfl) fX2_32 s60 (by decide) (by decide) rfl rfl ?_
      refine w_iload_n (zat TX2_numberInForce 17 rfl) rfl ?_
      refine w_icmp_ne 65 (zat TX2_numberInForce 18 rfl) (by decide) (fun Hc33 => ?_) (fun Hc33 => ?_)
      · have Hm : mF (cP h) (cY h) p y (s + 1) = mF (cP h) (cY h) p y s := by rw [mF, if_neg (fun q => Hc33 q.1)]
        have Hn : mSi (cP h) (cY h) p y (s + 1) = mSi (cP h) (cY h) p y s := by rw [mSi, mSi, Hm]
        refine x_iinc (v := nI (s + 1)) (ls2 := [_, _, _, _, _, _, _]) (zat TX2_numberInForce 32 rfl) rfl (nI_inc s) rfl ?_
        refine w_goto 9 (zat TX2_numberInForce 33 rfl) (by decide) ?_
        have Hi := ih (s + 1) (by omega) (some (Vq (some (60, s))))
        rw [Hm, Hn] at Hi
        exact Hi
      · refine w_aload (zat TX2_numberInForce 19 rfl) rfl ?_
        refine y_getI (v := cY h s) (zat TX2_numberInForce 20 rfl) fX2_35 s60 (by decide) (by decide) rfl rfl ?_
        refine w_iload_n (zat TX2_numberInForce 21 rfl) rfl ?_
        refine w_icmp_gt 65 (zat TX2_numberInForce 22 rfl) (by decide) (fun Hc42 => ?_) (fun Hc42 => ?_)
        · have Hm : mF (cP h) (cY h) p y (s + 1) = mF (cP h) (cY h) p y s := by rw [mF, if_neg (fun q => Int32.not_lt.mpr q.2.1 Hc42)]
          have Hn : mSi (cP h) (cY h) p y (s + 1) = mSi (cP h) (cY h) p y s := by rw [mSi, mSi, Hm]
          refine x_iinc (v := nI (s + 1)) (ls2 := [_, _, _, _, _, _, _]) (zat TX2_numberInForce 32 rfl) rfl (nI_inc s) rfl ?_
          refine w_goto 9 (zat TX2_numberInForce 33 rfl) (by decide) ?_
          have Hi := ih (s + 1) (by omega) (some (Vq (some (60, s))))
          rw [Hm, Hn] at Hi
          exact Hi
        · rw [Int32.not_lt] at Hc42
          refine w_aload (zat TX2_numberInForce 23 rfl) rfl ?_
          refine y_getI (v := cY h s) (zat TX2_numberInForce 24 rfl) fX2_35 s60 (by decide) (by decide) rfl rfl ?_
          refine w_iload (zat TX2_numberInForce 25 rfl) rfl ?_
          refine w_icmp_lt 65 (zat TX2_numberInForce 26 rfl) (by decide) (fun Hc52 => ?_) (fun Hc52 => ?_)
          · have Hm : mF (cP h) (cY h) p y (s + 1) = mF (cP h) (cY h) p y s := by rw [mF, if_neg (fun q => by
              have Hz := Hc52
              rw [mSi] at Hz
              rcases q.2.2 with z | z
              · rw [if_pos z] at Hz
                exact Int32.not_lt.mpr (hY s (by omega)) Hz
              · by_cases z2 : mF (cP h) (cY h) p y s = -2
                · rw [if_pos z2] at Hz
                  exact Int32.not_lt.mpr (hY s (by omega)) Hz
                · rw [if_neg z2] at Hz
                  exact Int32.not_lt.mpr z Hz)]
            have Hn : mSi (cP h) (cY h) p y (s + 1) = mSi (cP h) (cY h) p y s := by rw [mSi, mSi, Hm]
            refine x_iinc (v := nI (s + 1)) (ls2 := [_, _, _, _, _, _, _]) (zat TX2_numberInForce 32 rfl) rfl (nI_inc s) rfl ?_
            refine w_goto 9 (zat TX2_numberInForce 33 rfl) (by decide) ?_
            have Hi := ih (s + 1) (by omega) (some (Vq (some (60, s))))
            rw [Hm, Hn] at Hi
            exact Hi
          · rw [Int32.not_lt] at Hc52
            have Hz : mF (cP h) (cY h) p y s = -2 ∨ cY h (mF (cP h) (cY h) p y s).toNatClampNeg ≤ cY h s := by
              rw [mSi] at Hc52
              by_cases z2 : mF (cP h) (cY h) p y s = -2
              · exact Or.inl z2
              · rw [if_neg z2] at Hc52
                exact Or.inr Hc52
            have Hm : mF (cP h) (cY h) p y (s + 1) = nI s := by rw [mF, if_pos ⟨Hc33, Hc42, Hz⟩]
            have Hn : mSi (cP h) (cY h) p y (s + 1) = cY h s := by rw [mSi, Hm, if_neg (nI_ne2 s (by omega)), nI_clamp (by omega)]
            refine w_iload (zat TX2_numberInForce 27 rfl) rfl ?_
            refine x_istore_n (ls2 := [_, _, _, _, _, _, _]) (zat TX2_numberInForce 28 rfl) (by decide) rfl ?_
            refine w_aload (zat TX2_numberInForce 29 rfl) rfl ?_
            refine y_getI (v := cY h s) (zat TX2_numberInForce 30 rfl) fX2_35 s60 (by decide) (by decide) rfl rfl ?_
            refine x_istore (ls2 := [_, _, _, _, _, _, _]) (zat TX2_numberInForce 31 rfl) (by decide) rfl ?_
            refine x_iinc (v := nI (s + 1)) (ls2 := [_, _, _, _, _, _, _]) (zat TX2_numberInForce 32 rfl) rfl (nI_inc s) rfl ?_
            refine w_goto 9 (zat TX2_numberInForce 33 rfl) (by decide) ?_
            have Hi := ih (s + 1) (by omega) (some (Vq (some (60, s))))
            rw [Hm, Hn] at Hi
            exact Hi
theorem qX2_numberInForce (l : Launch) (h : zH) (hW : Wc h) (p y : Int32) (nE : Nat) (hE : zI h 55 0 2 = nI nE) (hE2 : nE ≤ 30) (hE3 : zC h 60 = nE) (hY : ∀ e, e < nE → 0 ≤ cY h e) : Cx l 1 mX2_numberInForce [Vq (some (55, 0)), Vi p, Vi y] h (Rv (Vi (mF (cP h) (cY h) p y nE))) h := by
  refine Ct.in 4 kX2_numberInForce (plainFor_of_name rfl) (Nat.le_of_ble_eq_true rfl) ?_
  refine w_bipush (v := -2) (zat TX2_numberInForce 0 rfl) (by decide) ?_
  refine x_istore_n (ls2 := [_, _, _, _, _, _, _]) (zat TX2_numberInForce 1 rfl) (by decide) rfl ?_
  refine w_iconst (v := 0) (zat TX2_numberInForce 2 rfl) (by decide) ?_
  refine x_istore (ls2 := [_, _, _, _, _, _, _]) (zat TX2_numberInForce 3 rfl) (by decide) rfl ?_
  refine w_iconst (v := 0) (zat TX2_numberInForce 4 rfl) (by decide) ?_
  refine x_istore (ls2 := [_, _, _, _, _, _, _]) (zat TX2_numberInForce 5 rfl) (by decide) rfl ?_
  exact lX2_numberInForce l h hW p y nE hE hE2 hE3 hY nE 0 (by omega) _
theorem lX11_guardsInAll (l : Launch) (h : zH) (hW : Wc h) (nB : Nat) (hB : zI h 0 0 9 = nI nB) (hB2 : nB ≤ 16) (hB3 : zC h 59 = nB) : ∀ kk s : Nat, s + kk = nB → Wp l mX11_guardsInAll 1 4 [some (Vq (some (0, 0))), some (Vi (mG (fun b => zI h 59 b 3) s)), some (Vi (nI s))] [] h (fun o h' => o = Rv (Vi (mG (fun b => zI h 59 b 3) nB)) ∧ h' = h) := by
  intro kk
  induction kk with
  | zero =>
    intro s hs
    refine w_iload_n (zat TX11_guardsInAll 4 rfl) rfl ?_
    refine w_aload_n (zat TX11_guardsInAll 5 rfl) rfl ?_
    refine y_getI (v := nI nB) (zat TX11_guardsInAll 6 rfl) fX11_66 s0 (by decide) (by decide) rfl hB ?_
    refine w_icmp_ge 30 (zat TX11_guardsInAll 7 rfl) (by decide) (fun Hc9 => ?_) (fun Hc9 => ?_)
    · refine w_iload_n (zat TX11_guardsInAll 18 rfl) rfl ?_
      refine w_ireturn (zat TX11_guardsInAll 19 rfl) rfl rfl ?_
      exact ⟨by rw [show s = nB by omega], rfl⟩
    · exact absurd (nI_le (by omega) (by omega)) Hc9
  | succ kk ih =>
    intro s hs
    refine w_iload_n (zat TX11_guardsInAll 4 rfl) rfl ?_
    refine w_aload_n (zat TX11_guardsInAll 5 rfl) rfl ?_
    refine y_getI (v := nI nB) (zat TX11_guardsInAll 6 rfl) fX11_66 s0 (by decide) (by decide) rfl hB ?_
    refine w_icmp_ge 30 (zat TX11_guardsInAll 7 rfl) (by decide) (fun Hc9 => ?_) (fun Hc9 => ?_)
    · exact absurd Hc9 (nI_ge (by omega) (by omega))
    · refine w_iload_n (zat TX11_guardsInAll 8 rfl) rfl ?_
      refine w_aload_n (zat TX11_guardsInAll 9 rfl) rfl ?_
      refine w_getR (zat TX11_guardsInAll 10 rfl) fX11_17 s0 (by decide) (by decide) rfl (wcr hW 1 rfl) ?_
      refine w_iload_n (zat TX11_guardsInAll 11 rfl) rfl ?_
      refine x_aaload _ _ (zat TX11_guardsInAll 12 rfl) (by decide) (by decide) ⟨_, rfl⟩ (wcn hW 1 rfl) (by decide) rfl (by omega) (hW.2.2.2.1 s (by omega)) ?_
      refine w_getI (zat TX11_guardsInAll 13 rfl) fX11_134 s59 (by decide) (by decide) rfl ?_
      refine w_iadd (zat TX11_guardsInAll 14 rfl) ?_
      refine x_istore_n (ls2 := [_, _, _]) (zat TX11_guardsInAll 15 rfl) (by decide) rfl ?_
      refine x_iinc (v := nI (s + 1)) (ls2 := [_, _, _]) (zat TX11_guardsInAll 16 rfl) rfl (nI_inc s) rfl ?_
      refine w_goto 4 (zat TX11_guardsInAll 17 rfl) (by decide) ?_
      exact ih (s + 1) (by omega)
theorem qX11_guardsInAll (l : Launch) (h : zH) (hW : Wc h) (nB : Nat) (hB : zI h 0 0 9 = nI nB) (hB2 : nB ≤ 16) (hB3 : zC h 59 = nB) : Cx l 1 mX11_guardsInAll [Vq (some (0, 0))] h (Rv (Vi (mG (fun b => zI h 59 b 3) nB))) h := by
  refine Ct.in 2 kX11_guardsInAll (plainFor_of_name rfl) (Nat.le_of_ble_eq_true rfl) ?_
  refine w_iconst (v := 0) (zat TX11_guardsInAll 0 rfl) (by decide) ?_
  refine x_istore_n (ls2 := [_, _, _]) (zat TX11_guardsInAll 1 rfl) (by decide) rfl ?_
  refine w_iconst (v := 0) (zat TX11_guardsInAll 2 rfl) (by decide) ?_
  refine x_istore_n (ls2 := [_, _, _]) (zat TX11_guardsInAll 3 rfl) (by decide) rfl ?_
  exact lX11_guardsInAll l h hW nB hB hB2 hB3 nB 0 (by omega)
end
