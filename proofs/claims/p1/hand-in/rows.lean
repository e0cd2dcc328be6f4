section
-- ===== PART A: goes FIRST, ahead of the names: the tables' words, and 'selects' of the private methods out of them =====
/-- a private method of a class that the tables say can be made, by its rows of tables_1 -/
def lw_okq (q : MethodName × Nat) : Prop := (q.1.cls ≠ "java/lang/invoke/MethodHandle" ∧ q.1.cls ≠ "java/lang/invoke/VarHandle") ∧ Cond.instantiable q.1.cls q.2 ∈ tables_1 ∧ Cond.privateMethod q.1 ∈ tables_1 ∧ Cond.instanceMethod q.1 ∈ tables_1
theorem lw_p0 : lw_okq (⟨"SkateSheet$Score", "countMarksOf", "(ILSkateSheet$Sheets;)V"⟩, 11) := ⟨⟨by decide +kernel, by decide +kernel⟩, List.mem_of_getElem? (i := 214) (by decide +kernel), List.mem_of_getElem? (i := 358) (by decide +kernel), List.mem_of_getElem? (i := 359) (by decide +kernel)⟩
theorem lw_p1 : lw_okq (⟨"SkateSheet$Score", "placeInDance", "(ILSkateSheet$Sheets;)V"⟩, 11) := ⟨⟨by decide +kernel, by decide +kernel⟩, List.mem_of_getElem? (i := 214) (by decide +kernel), List.mem_of_getElem? (i := 387) (by decide +kernel), List.mem_of_getElem? (i := 388) (by decide +kernel)⟩
theorem lw_p2 : lw_okq (⟨"SkateSheet$Score", "turnOf", "(IIZ)I"⟩, 11) := ⟨⟨by decide +kernel, by decide +kernel⟩, List.mem_of_getElem? (i := 214) (by decide +kernel), List.mem_of_getElem? (i := 406) (by decide +kernel), List.mem_of_getElem? (i := 407) (by decide +kernel)⟩
theorem lw_p3 : lw_okq (⟨"SkateSheet$Score", "compareInDance", "(III)I"⟩, 11) := ⟨⟨by decide +kernel, by decide +kernel⟩, List.mem_of_getElem? (i := 214) (by decide +kernel), List.mem_of_getElem? (i := 418) (by decide +kernel), List.mem_of_getElem? (i := 419) (by decide +kernel)⟩
theorem lw_p4 : lw_okq (⟨"SkateSheet$Score", "reasonAmongCandidates", "(II)I"⟩, 11) := ⟨⟨by decide +kernel, by decide +kernel⟩, List.mem_of_getElem? (i := 214) (by decide +kernel), List.mem_of_getElem? (i := 430) (by decide +kernel), List.mem_of_getElem? (i := 431) (by decide +kernel)⟩
theorem lw_p5 : lw_okq (⟨"SkateSheet$Score", "addPlaces", "()V"⟩, 11) := ⟨⟨by decide +kernel, by decide +kernel⟩, List.mem_of_getElem? (i := 214) (by decide +kernel), List.mem_of_getElem? (i := 441) (by decide +kernel), List.mem_of_getElem? (i := 442) (by decide +kernel)⟩
theorem lw_p6 : lw_okq (⟨"SkateSheet$Score", "placeOverAll", "()V"⟩, 11) := ⟨⟨by decide +kernel, by decide +kernel⟩, List.mem_of_getElem? (i := 214) (by decide +kernel), List.mem_of_getElem? (i := 446) (by decide +kernel), List.mem_of_getElem? (i := 447) (by decide +kernel)⟩
theorem lw_p7 : lw_okq (⟨"SkateSheet$Score", "bestByTotal", "(I)I"⟩, 11) := ⟨⟨by decide +kernel, by decide +kernel⟩, List.mem_of_getElem? (i := 214) (by decide +kernel), List.mem_of_getElem? (i := 450) (by decide +kernel), List.mem_of_getElem? (i := 451) (by decide +kernel)⟩
theorem lw_p8 : lw_okq (⟨"SkateSheet$Score", "heaviest", "(I)I"⟩, 11) := ⟨⟨by decide +kernel, by decide +kernel⟩, List.mem_of_getElem? (i := 214) (by decide +kernel), List.mem_of_getElem? (i := 454) (by decide +kernel), List.mem_of_getElem? (i := 455) (by decide +kernel)⟩
theorem lw_p9 : lw_okq (⟨"SkateSheet$Score", "bestByPlaces", "(II)I"⟩, 11) := ⟨⟨by decide +kernel, by decide +kernel⟩, List.mem_of_getElem? (i := 214) (by decide +kernel), List.mem_of_getElem? (i := 459) (by decide +kernel), List.mem_of_getElem? (i := 460) (by decide +kernel)⟩
theorem lw_p10 : lw_okq (⟨"SkateSheet$Score", "bestByMarks", "(II)I"⟩, 11) := ⟨⟨by decide +kernel, by decide +kernel⟩, List.mem_of_getElem? (i := 214) (by decide +kernel), List.mem_of_getElem? (i := 463) (by decide +kernel), List.mem_of_getElem? (i := 464) (by decide +kernel)⟩
theorem lw_p11 : lw_okq (⟨"SkateSheet$Score", "takePlaces", "(III)V"⟩, 11) := ⟨⟨by decide +kernel, by decide +kernel⟩, List.mem_of_getElem? (i := 214) (by decide +kernel), List.mem_of_getElem? (i := 467) (by decide +kernel), List.mem_of_getElem? (i := 468) (by decide +kernel)⟩
theorem lw_p12 : lw_okq (⟨"java/lang/Throwable", "fillInStackTrace", "(I)Ljava/lang/Throwable;"⟩, 6) := ⟨⟨by decide +kernel, by decide +kernel⟩, List.mem_of_getElem? (i := 528) (by decide +kernel), List.mem_of_getElem? (i := 526) (by decide +kernel), List.mem_of_getElem? (i := 527) (by decide +kernel)⟩
theorem lw_p13 : lw_okq (⟨"SkateSheet", "digestCouple", "(JI)J"⟩, 9) := ⟨⟨by decide +kernel, by decide +kernel⟩, List.mem_of_getElem? (i := 30) (by decide +kernel), List.mem_of_getElem? (i := 558) (by decide +kernel), List.mem_of_getElem? (i := 559) (by decide +kernel)⟩
theorem lw_p14 : lw_okq (⟨"SkateSheet", "needCouple", "(I)V"⟩, 9) := ⟨⟨by decide +kernel, by decide +kernel⟩, List.mem_of_getElem? (i := 30) (by decide +kernel), List.mem_of_getElem? (i := 566) (by decide +kernel), List.mem_of_getElem? (i := 567) (by decide +kernel)⟩
theorem lw_p15 : lw_okq (⟨"SkateSheet", "digestFinalist", "(JI)J"⟩, 9) := ⟨⟨by decide +kernel, by decide +kernel⟩, List.mem_of_getElem? (i := 30) (by decide +kernel), List.mem_of_getElem? (i := 604) (by decide +kernel), List.mem_of_getElem? (i := 605) (by decide +kernel)⟩
def lw_privs_1 : List (MethodName × Nat) := [(⟨"SkateSheet$Score", "countMarksOf", "(ILSkateSheet$Sheets;)V"⟩, 11), (⟨"SkateSheet$Score", "placeInDance", "(ILSkateSheet$Sheets;)V"⟩, 11), (⟨"SkateSheet$Score", "turnOf", "(IIZ)I"⟩, 11), (⟨"SkateSheet$Score", "compareInDance", "(III)I"⟩, 11), (⟨"SkateSheet$Score", "reasonAmongCandidates", "(II)I"⟩, 11), (⟨"SkateSheet$Score", "addPlaces", "()V"⟩, 11), (⟨"SkateSheet$Score", "placeOverAll", "()V"⟩, 11), (⟨"SkateSheet$Score", "bestByTotal", "(I)I"⟩, 11), (⟨"SkateSheet$Score", "heaviest", "(I)I"⟩, 11), (⟨"SkateSheet$Score", "bestByPlaces", "(II)I"⟩, 11), (⟨"SkateSheet$Score", "bestByMarks", "(II)I"⟩, 11), (⟨"SkateSheet$Score", "takePlaces", "(III)V"⟩, 11), (⟨"java/lang/Throwable", "fillInStackTrace", "(I)Ljava/lang/Throwable;"⟩, 6), (⟨"SkateSheet", "digestCouple", "(JI)J"⟩, 9), (⟨"SkateSheet", "needCouple", "(I)V"⟩, 9), (⟨"SkateSheet", "digestFinalist", "(JI)J"⟩, 9)]
theorem lw_r1 : ∀ q ∈ lw_privs_1, lw_okq q := List.forall_mem_cons.mpr ⟨lw_p0, List.forall_mem_cons.mpr ⟨lw_p1, List.forall_mem_cons.mpr ⟨lw_p2, List.forall_mem_cons.mpr ⟨lw_p3, List.forall_mem_cons.mpr ⟨lw_p4, List.forall_mem_cons.mpr ⟨lw_p5, List.forall_mem_cons.mpr ⟨lw_p6, List.forall_mem_cons.mpr ⟨lw_p7, List.forall_mem_cons.mpr ⟨lw_p8, List.forall_mem_cons.mpr ⟨lw_p9, List.forall_mem_cons.mpr ⟨lw_p10, List.forall_mem_cons.mpr ⟨lw_p11, List.forall_mem_cons.mpr ⟨lw_p12, List.forall_mem_cons.mpr ⟨lw_p13, List.forall_mem_cons.mpr ⟨lw_p14, List.forall_mem_cons.mpr ⟨lw_p15, fun _ h => absurd h List.not_mem_nil⟩⟩⟩⟩⟩⟩⟩⟩⟩⟩⟩⟩⟩⟩⟩⟩
theorem lw_p16 : lw_okq (⟨"SkateSheet", "needInFinal", "(I)V"⟩, 9) := ⟨⟨by decide +kernel, by decide +kernel⟩, List.mem_of_getElem? (i := 30) (by decide +kernel), List.mem_of_getElem? (i := 612) (by decide +kernel), List.mem_of_getElem? (i := 613) (by decide +kernel)⟩
theorem lw_p17 : lw_okq (⟨"SkateSheet", "needDance", "(I)V"⟩, 9) := ⟨⟨by decide +kernel, by decide +kernel⟩, List.mem_of_getElem? (i := 30) (by decide +kernel), List.mem_of_getElem? (i := 627) (by decide +kernel), List.mem_of_getElem? (i := 628) (by decide +kernel)⟩
theorem lw_p18 : lw_okq (⟨"SkateSheet$Round", "heatFor", "(IILSkateSheet$Couples;)I"⟩, 7) := ⟨⟨by decide +kernel, by decide +kernel⟩, List.mem_of_getElem? (i := 147) (by decide +kernel), List.mem_of_getElem? (i := 763) (by decide +kernel), List.mem_of_getElem? (i := 764) (by decide +kernel)⟩
theorem lw_p19 : lw_okq (⟨"SkateSheet$Round", "withMoreCrosses", "(II)I"⟩, 7) := ⟨⟨by decide +kernel, by decide +kernel⟩, List.mem_of_getElem? (i := 147) (by decide +kernel), List.mem_of_getElem? (i := 803) (by decide +kernel), List.mem_of_getElem? (i := 804) (by decide +kernel)⟩
theorem lw_p20 : lw_okq (⟨"SkateSheet", "needSheet", "(II)V"⟩, 9) := ⟨⟨by decide +kernel, by decide +kernel⟩, List.mem_of_getElem? (i := 30) (by decide +kernel), List.mem_of_getElem? (i := 858) (by decide +kernel), List.mem_of_getElem? (i := 859) (by decide +kernel)⟩
theorem lw_p21 : lw_okq (⟨"SkateSheet", "addDrifts", "()V"⟩, 9) := ⟨⟨by decide +kernel, by decide +kernel⟩, List.mem_of_getElem? (i := 30) (by decide +kernel), List.mem_of_getElem? (i := 890) (by decide +kernel), List.mem_of_getElem? (i := 891) (by decide +kernel)⟩
theorem lw_p22 : lw_okq (⟨"SkateSheet", "givePoints", "()V"⟩, 9) := ⟨⟨by decide +kernel, by decide +kernel⟩, List.mem_of_getElem? (i := 30) (by decide +kernel), List.mem_of_getElem? (i := 902) (by decide +kernel), List.mem_of_getElem? (i := 903) (by decide +kernel)⟩
theorem lw_p23 : lw_okq (⟨"SkateSheet", "tryExchange", "(IIII)V"⟩, 9) := ⟨⟨by decide +kernel, by decide +kernel⟩, List.mem_of_getElem? (i := 30) (by decide +kernel), List.mem_of_getElem? (i := 958) (by decide +kernel), List.mem_of_getElem? (i := 959) (by decide +kernel)⟩
theorem lw_p24 : lw_okq (⟨"SkateSheetModel", "no", "(I)I"⟩, 26) := ⟨⟨by decide +kernel, by decide +kernel⟩, List.mem_of_getElem? (i := 986) (by decide +kernel), List.mem_of_getElem? (i := 1120) (by decide +kernel), List.mem_of_getElem? (i := 1121) (by decide +kernel)⟩
theorem lw_p25 : lw_okq (⟨"SkateSheetModel", "panelFor", "(I)I"⟩, 26) := ⟨⟨by decide +kernel, by decide +kernel⟩, List.mem_of_getElem? (i := 986) (by decide +kernel), List.mem_of_getElem? (i := 1135) (by decide +kernel), List.mem_of_getElem? (i := 1136) (by decide +kernel)⟩
theorem lw_p26 : lw_okq (⟨"SkateSheetModel", "noHeats", "()V"⟩, 26) := ⟨⟨by decide +kernel, by decide +kernel⟩, List.mem_of_getElem? (i := 986) (by decide +kernel), List.mem_of_getElem? (i := 1142) (by decide +kernel), List.mem_of_getElem? (i := 1143) (by decide +kernel)⟩
theorem lw_p27 : lw_okq (⟨"SkateSheetModel", "isJudge", "(I)Z"⟩, 26) := ⟨⟨by decide +kernel, by decide +kernel⟩, List.mem_of_getElem? (i := 986) (by decide +kernel), List.mem_of_getElem? (i := 1158) (by decide +kernel), List.mem_of_getElem? (i := 1159) (by decide +kernel)⟩
theorem lw_p28 : lw_okq (⟨"SkateSheetModel", "crossesOf", "(I)I"⟩, 26) := ⟨⟨by decide +kernel, by decide +kernel⟩, List.mem_of_getElem? (i := 986) (by decide +kernel), List.mem_of_getElem? (i := 1166) (by decide +kernel), List.mem_of_getElem? (i := 1167) (by decide +kernel)⟩
theorem lw_p29 : lw_okq (⟨"SkateSheetModel", "isDance", "(I)Z"⟩, 26) := ⟨⟨by decide +kernel, by decide +kernel⟩, List.mem_of_getElem? (i := 986) (by decide +kernel), List.mem_of_getElem? (i := 1178) (by decide +kernel), List.mem_of_getElem? (i := 1179) (by decide +kernel)⟩
theorem lw_p30 : lw_okq (⟨"SkateSheetModel", "sheetsOf", "(I)I"⟩, 26) := ⟨⟨by decide +kernel, by decide +kernel⟩, List.mem_of_getElem? (i := 986) (by decide +kernel), List.mem_of_getElem? (i := 1182) (by decide +kernel), List.mem_of_getElem? (i := 1183) (by decide +kernel)⟩
theorem lw_p31 : lw_okq (⟨"SkateSheetModel", "isSheet", "(II)Z"⟩, 26) := ⟨⟨by decide +kernel, by decide +kernel⟩, List.mem_of_getElem? (i := 986) (by decide +kernel), List.mem_of_getElem? (i := 1190) (by decide +kernel), List.mem_of_getElem? (i := 1191) (by decide +kernel)⟩
def lw_privs_2 : List (MethodName × Nat) := [(⟨"SkateSheet", "needInFinal", "(I)V"⟩, 9), (⟨"SkateSheet", "needDance", "(I)V"⟩, 9), (⟨"SkateSheet$Round", "heatFor", "(IILSkateSheet$Couples;)I"⟩, 7), (⟨"SkateSheet$Round", "withMoreCrosses", "(II)I"⟩, 7), (⟨"SkateSheet", "needSheet", "(II)V"⟩, 9), (⟨"SkateSheet", "addDrifts", "()V"⟩, 9), (⟨"SkateSheet", "givePoints", "()V"⟩, 9), (⟨"SkateSheet", "tryExchange", "(IIII)V"⟩, 9), (⟨"SkateSheetModel", "no", "(I)I"⟩, 26), (⟨"SkateSheetModel", "panelFor", "(I)I"⟩, 26), (⟨"SkateSheetModel", "noHeats", "()V"⟩, 26), (⟨"SkateSheetModel", "isJudge", "(I)Z"⟩, 26), (⟨"SkateSheetModel", "crossesOf", "(I)I"⟩, 26), (⟨"SkateSheetModel", "isDance", "(I)Z"⟩, 26), (⟨"SkateSheetModel", "sheetsOf", "(I)I"⟩, 26), (⟨"SkateSheetModel", "isSheet", "(II)Z"⟩, 26)]
theorem lw_r2 : ∀ q ∈ lw_privs_2, lw_okq q := List.forall_mem_cons.mpr ⟨lw_p16, List.forall_mem_cons.mpr ⟨lw_p17, List.forall_mem_cons.mpr ⟨lw_p18, List.forall_mem_cons.mpr ⟨lw_p19, List.forall_mem_cons.mpr ⟨lw_p20, List.forall_mem_cons.mpr ⟨lw_p21, List.forall_mem_cons.mpr ⟨lw_p22, List.forall_mem_cons.mpr ⟨lw_p23, List.forall_mem_cons.mpr ⟨lw_p24, List.forall_mem_cons.mpr ⟨lw_p25, List.forall_mem_cons.mpr ⟨lw_p26, List.forall_mem_cons.mpr ⟨lw_p27, List.forall_mem_cons.mpr ⟨lw_p28, List.forall_mem_cons.mpr ⟨lw_p29, List.forall_mem_cons.mpr ⟨lw_p30, List.forall_mem_cons.mpr ⟨lw_p31, fun _ h => absurd h List.not_mem_nil⟩⟩⟩⟩⟩⟩⟩⟩⟩⟩⟩⟩⟩⟩⟩⟩
theorem lw_p32 : lw_okq (⟨"SkateSheetModel", "place", "(I)I"⟩, 26) := ⟨⟨by decide +kernel, by decide +kernel⟩, List.mem_of_getElem? (i := 986) (by decide +kernel), List.mem_of_getElem? (i := 1198) (by decide +kernel), List.mem_of_getElem? (i := 1199) (by decide +kernel)⟩
theorem lw_p33 : lw_okq (⟨"SkateSheetModel$Result", "place", "(I)V"⟩, 8) := ⟨⟨by decide +kernel, by decide +kernel⟩, List.mem_of_getElem? (i := 1206) (by decide +kernel), List.mem_of_getElem? (i := 1213) (by decide +kernel), List.mem_of_getElem? (i := 1214) (by decide +kernel)⟩
theorem lw_p34 : lw_okq (⟨"SkateSheetModel$Result", "count", "(IIIZ)I"⟩, 8) := ⟨⟨by decide +kernel, by decide +kernel⟩, List.mem_of_getElem? (i := 1206) (by decide +kernel), List.mem_of_getElem? (i := 1218) (by decide +kernel), List.mem_of_getElem? (i := 1219) (by decide +kernel)⟩
theorem lw_p35 : lw_okq (⟨"SkateSheetModel$Result", "ahead", "(IIII)I"⟩, 8) := ⟨⟨by decide +kernel, by decide +kernel⟩, List.mem_of_getElem? (i := 1206) (by decide +kernel), List.mem_of_getElem? (i := 1222) (by decide +kernel), List.mem_of_getElem? (i := 1223) (by decide +kernel)⟩
theorem lw_p36 : lw_okq (⟨"SkateSheetModel$Result", "over", "(I)I"⟩, 8) := ⟨⟨by decide +kernel, by decide +kernel⟩, List.mem_of_getElem? (i := 1206) (by decide +kernel), List.mem_of_getElem? (i := 1227) (by decide +kernel), List.mem_of_getElem? (i := 1228) (by decide +kernel)⟩
theorem lw_p37 : lw_okq (⟨"SkateSheetModel$Result", "give", "(III)V"⟩, 8) := ⟨⟨by decide +kernel, by decide +kernel⟩, List.mem_of_getElem? (i := 1206) (by decide +kernel), List.mem_of_getElem? (i := 1231) (by decide +kernel), List.mem_of_getElem? (i := 1232) (by decide +kernel)⟩
theorem lw_p38 : lw_okq (⟨"SkateSheetModel$Result", "ten", "(II)I"⟩, 8) := ⟨⟨by decide +kernel, by decide +kernel⟩, List.mem_of_getElem? (i := 1206) (by decide +kernel), List.mem_of_getElem? (i := 1235) (by decide +kernel), List.mem_of_getElem? (i := 1236) (by decide +kernel)⟩
theorem lw_p39 : lw_okq (⟨"SkateSheetModel$Result", "eleven", "(II)I"⟩, 8) := ⟨⟨by decide +kernel, by decide +kernel⟩, List.mem_of_getElem? (i := 1206) (by decide +kernel), List.mem_of_getElem? (i := 1239) (by decide +kernel), List.mem_of_getElem? (i := 1240) (by decide +kernel)⟩
theorem lw_p40 : lw_okq (⟨"java/util/ArrayList", "add", "(Ljava/lang/Object;[Ljava/lang/Object;I)V"⟩, 3) := ⟨⟨by decide +kernel, by decide +kernel⟩, List.mem_of_getElem? (i := 994) (by decide +kernel), List.mem_of_getElem? (i := 1284) (by decide +kernel), List.mem_of_getElem? (i := 1285) (by decide +kernel)⟩
theorem lw_p41 : lw_okq (⟨"java/util/ArrayList", "grow", "()[Ljava/lang/Object;"⟩, 3) := ⟨⟨by decide +kernel, by decide +kernel⟩, List.mem_of_getElem? (i := 994) (by decide +kernel), List.mem_of_getElem? (i := 1288) (by decide +kernel), List.mem_of_getElem? (i := 1289) (by decide +kernel)⟩
theorem lw_p42 : lw_okq (⟨"java/util/ArrayList", "grow", "(I)[Ljava/lang/Object;"⟩, 3) := ⟨⟨by decide +kernel, by decide +kernel⟩, List.mem_of_getElem? (i := 994) (by decide +kernel), List.mem_of_getElem? (i := 1292) (by decide +kernel), List.mem_of_getElem? (i := 1293) (by decide +kernel)⟩
theorem lw_p43 : lw_okq (⟨"SkateSheetModel", "standing", "(I)I"⟩, 26) := ⟨⟨by decide +kernel, by decide +kernel⟩, List.mem_of_getElem? (i := 986) (by decide +kernel), List.mem_of_getElem? (i := 1339) (by decide +kernel), List.mem_of_getElem? (i := 1340) (by decide +kernel)⟩
theorem lw_p44 : lw_okq (⟨"SkateSheetModel", "isCouple", "(I)Z"⟩, 26) := ⟨⟨by decide +kernel, by decide +kernel⟩, List.mem_of_getElem? (i := 986) (by decide +kernel), List.mem_of_getElem? (i := 1378) (by decide +kernel), List.mem_of_getElem? (i := 1379) (by decide +kernel)⟩
theorem lw_p45 : lw_okq (⟨"SkateSheetModel", "coupleNow", "(II)I"⟩, 26) := ⟨⟨by decide +kernel, by decide +kernel⟩, List.mem_of_getElem? (i := 986) (by decide +kernel), List.mem_of_getElem? (i := 1382) (by decide +kernel), List.mem_of_getElem? (i := 1383) (by decide +kernel)⟩
theorem lw_p46 : lw_okq (⟨"SkateSheetModel", "judgeNow", "(II)I"⟩, 26) := ⟨⟨by decide +kernel, by decide +kernel⟩, List.mem_of_getElem? (i := 986) (by decide +kernel), List.mem_of_getElem? (i := 1394) (by decide +kernel), List.mem_of_getElem? (i := 1395) (by decide +kernel)⟩
theorem lw_p47 : lw_okq (⟨"SkateSheetModel", "manyNow", "(I)I"⟩, 26) := ⟨⟨by decide +kernel, by decide +kernel⟩, List.mem_of_getElem? (i := 986) (by decide +kernel), List.mem_of_getElem? (i := 1414) (by decide +kernel), List.mem_of_getElem? (i := 1415) (by decide +kernel)⟩
def lw_privs_3 : List (MethodName × Nat) := [(⟨"SkateSheetModel", "place", "(I)I"⟩, 26), (⟨"SkateSheetModel$Result", "place", "(I)V"⟩, 8), (⟨"SkateSheetModel$Result", "count", "(IIIZ)I"⟩, 8), (⟨"SkateSheetModel$Result", "ahead", "(IIII)I"⟩, 8), (⟨"SkateSheetModel$Result", "over", "(I)I"⟩, 8), (⟨"SkateSheetModel$Result", "give", "(III)V"⟩, 8), (⟨"SkateSheetModel$Result", "ten", "(II)I"⟩, 8), (⟨"SkateSheetModel$Result", "eleven", "(II)I"⟩, 8), (⟨"java/util/ArrayList", "add", "(Ljava/lang/Object;[Ljava/lang/Object;I)V"⟩, 3), (⟨"java/util/ArrayList", "grow", "()[Ljava/lang/Object;"⟩, 3), (⟨"java/util/ArrayList", "grow", "(I)[Ljava/lang/Object;"⟩, 3), (⟨"SkateSheetModel", "standing", "(I)I"⟩, 26), (⟨"SkateSheetModel", "isCouple", "(I)Z"⟩, 26), (⟨"SkateSheetModel", "coupleNow", "(II)I"⟩, 26), (⟨"SkateSheetModel", "judgeNow", "(II)I"⟩, 26), (⟨"SkateSheetModel", "manyNow", "(I)I"⟩, 26)]
theorem lw_r3 : ∀ q ∈ lw_privs_3, lw_okq q := List.forall_mem_cons.mpr ⟨lw_p32, List.forall_mem_cons.mpr ⟨lw_p33, List.forall_mem_cons.mpr ⟨lw_p34, List.forall_mem_cons.mpr ⟨lw_p35, List.forall_mem_cons.mpr ⟨lw_p36, List.forall_mem_cons.mpr ⟨lw_p37, List.forall_mem_cons.mpr ⟨lw_p38, List.forall_mem_cons.mpr ⟨lw_p39, List.forall_mem_cons.mpr ⟨lw_p40, List.forall_mem_cons.mpr ⟨lw_p41, List.forall_mem_cons.mpr ⟨lw_p42, List.forall_mem_cons.mpr ⟨lw_p43, List.forall_mem_cons.mpr ⟨lw_p44, List.forall_mem_cons.mpr ⟨lw_p45, List.forall_mem_cons.mpr ⟨lw_p46, List.forall_mem_cons.mpr ⟨lw_p47, fun _ h => absurd h List.not_mem_nil⟩⟩⟩⟩⟩⟩⟩⟩⟩⟩⟩⟩⟩⟩⟩⟩
theorem lw_p48 : lw_okq (⟨"SkateSheetModel", "exchangedNow", "([IIII)I"⟩, 26) := ⟨⟨by decide +kernel, by decide +kernel⟩, List.mem_of_getElem? (i := 986) (by decide +kernel), List.mem_of_getElem? (i := 1426) (by decide +kernel), List.mem_of_getElem? (i := 1427) (by decide +kernel)⟩
theorem lw_p49 : lw_okq (⟨"SkateSheetModel", "exchange", "([III)V"⟩, 26) := ⟨⟨by decide +kernel, by decide +kernel⟩, List.mem_of_getElem? (i := 986) (by decide +kernel), List.mem_of_getElem? (i := 1430) (by decide +kernel), List.mem_of_getElem? (i := 1431) (by decide +kernel)⟩
theorem lw_p50 : lw_okq (⟨"SkateSheetModel", "fragileNow", "()I"⟩, 26) := ⟨⟨by decide +kernel, by decide +kernel⟩, List.mem_of_getElem? (i := 986) (by decide +kernel), List.mem_of_getElem? (i := 1446) (by decide +kernel), List.mem_of_getElem? (i := 1447) (by decide +kernel)⟩
theorem lw_p51 : lw_okq (⟨"SkateSheetModel", "votesNow", "(II)I"⟩, 26) := ⟨⟨by decide +kernel, by decide +kernel⟩, List.mem_of_getElem? (i := 986) (by decide +kernel), List.mem_of_getElem? (i := 1461) (by decide +kernel), List.mem_of_getElem? (i := 1462) (by decide +kernel)⟩
def lw_privs_4 : List (MethodName × Nat) := [(⟨"SkateSheetModel", "exchangedNow", "([IIII)I"⟩, 26), (⟨"SkateSheetModel", "exchange", "([III)V"⟩, 26), (⟨"SkateSheetModel", "fragileNow", "()I"⟩, 26), (⟨"SkateSheetModel", "votesNow", "(II)I"⟩, 26)]
theorem lw_r4 : ∀ q ∈ lw_privs_4, lw_okq q := List.forall_mem_cons.mpr ⟨lw_p48, List.forall_mem_cons.mpr ⟨lw_p49, List.forall_mem_cons.mpr ⟨lw_p50, List.forall_mem_cons.mpr ⟨lw_p51, fun _ h => absurd h List.not_mem_nil⟩⟩⟩⟩
def lw_privs : List (MethodName × Nat) := lw_privs_1 ++ (lw_privs_2 ++ (lw_privs_3 ++ (lw_privs_4)))
def lw_tbl : List Cond := k2_sels lw_privs ++ tables_1
theorem lw_privs_ok : ∀ q ∈ lw_privs, lw_okq q := by
  show ∀ q ∈ lw_privs_1 ++ (lw_privs_2 ++ (lw_privs_3 ++ (lw_privs_4))), lw_okq q
  exact List.forall_mem_append.mpr ⟨lw_r1, List.forall_mem_append.mpr ⟨lw_r2, List.forall_mem_append.mpr ⟨lw_r3, lw_r4⟩⟩⟩
/-- the streams that the claim lets the run draw from -/
abbrev lw_cs : List Choice := [Jvm.Choice.named "NaN.bits"]
theorem lw_bits : nanBits ∈ lw_cs := by first | decide | exact List.mem_cons_self | simp [lw_cs, nanBits]
end
section
/-! ===== BEGIN words of one list among another's, by their places ===== -/
theorem goodIn_r {big : List Cond} (ws : List Cond) (ps : List Nat) (hp : ws = ps.filterMap (fun i => big[i]?)) (h : ws.all goodWord = true) : GoodIn big ws := by
  intro w hw
  have h1 := List.all_eq_true.mp h w hw
  rw [hp] at hw
  obtain ⟨i, -, hi⟩ := List.mem_filterMap.mp hw
  have hm : w ∈ big := by first | exact List.mem_of_getElem? hi | exact List.getElem?_mem hi
  exact ⟨hm, good_of_word h1⟩
theorem goodIn_app {big a b : List Cond} (ha : GoodIn big a) (hb : GoodIn big b) : GoodIn big (a ++ b) := fun w h => (List.mem_append.mp h).elim (ha w) (hb w)
theorem goodIn_ca {big a b : List Cond} {c : Cond} (ha : GoodIn big (c :: a)) (hb : GoodIn big b) : GoodIn big (c :: (a ++ b)) := fun w h => (List.mem_cons.mp h).elim (fun e => ha w (List.mem_cons.mpr (Or.inl e))) (fun h => (List.mem_append.mp h).elim (fun h => ha w (List.mem_cons.mpr (Or.inr h))) (hb w))
theorem goodIn_sub {big ws : List Cond} (hm : ∀ w ∈ ws, w ∈ big) (h : ws.all goodWord = true) : GoodIn big ws := fun w hw => ⟨hm w hw, good_of_word (List.all_eq_true.mp h w hw)⟩
/-! ===== END ===== -/

/-! ===== BEGIN new T[n][m]: the outer array a place, the inner ones among the pooled ===== -/
/-- f, but v at every address of l -/
def vr_up {α : Type} (f : Nat → α) (l : List Nat) (v : α) : Nat → α := fun a => if a ∈ l then v else f a
theorem vr_up_in {α : Type} {f : Nat → α} {l : List Nat} {v : α} {a : Nat} (h : a ∈ l) : vr_up f l v a = v := if_pos h
theorem vr_up_ne {α : Type} {f : Nat → α} {l : List Nat} {v : α} {a : Nat} (h : a ∉ l) : vr_up f l v a = f a := if_neg h
theorem vr_rows {L l : List Nat} {f : Nat → va_E} {e : va_E} (h : ∀ a, a ∈ l → a ∉ L) : va_pl L f ++ l.map (fun a => (a, e)) = va_pl (L ++ l) (vr_up f l e) := by
  unfold va_pl
  rw [List.map_append]
  congr 1
  · apply List.map_congr_left
    intro a ha
    rw [vr_up_ne (fun q => h a q ha)]
  · apply List.map_congr_left
    intro a ha
    rw [vr_up_in ha]
theorem vr_lay {X rows : va_W} {x : Nat × va_E} {pl : va_W} {D : va_G} {cl : List vw_C} {H : Heap} (hP : va_P D cl (((X ++ pl) ++ [x]) ++ rows) H) : va_P D cl ((X ++ [x]) ++ (pl ++ rows)) H := by
  rw [List.append_assoc (X ++ pl)] at hP
  have h := va_P.swap hP
  rw [← List.append_assoc X] at h
  have h2 := va_P.swap h
  rw [List.append_assoc (X ++ [x])] at h2
  exact h2
theorem vr_layD {X rows : va_W} {x : Nat × va_E} {pl : va_W} {A : Nat → Prop} (hD : va_D A (((X ++ pl) ++ [x]) ++ rows)) : va_D A ((X ++ [x]) ++ (pl ++ rows)) := by
  rw [List.append_assoc (X ++ pl)] at hD
  have h := va_D.swap hD
  rw [← List.append_assoc X] at h
  have h2 := va_D.swap h
  rw [List.append_assoc (X ++ [x])] at h2
  exact h2
theorem vr_outer (c : ClassId) (N h0 : Nat) : ∀ i : Nat, Jvm.Free.Multi.outerC c N h0 i = arrV c N (fun j => va_rf (if j < i then some (h0 + 1 + j) else none))
  | 0 => by
    show ({ cls := c, slots := Array.replicate N .null, vm := .none } : Cell) = _
    rw [arrV_new]
    refine congrArg (arrV c N) (funext fun j => ?_)
    simp [va_rf]
  | i + 1 => by
    show (Jvm.Free.Multi.outerC c N h0 i).setSlot i (.ref (h0 + 1 + i)) = _
    rw [vr_outer c N h0 i, arrV_store]
    refine congrArg (arrV c N) (funext fun j => ?_)
    by_cases e : j = i
    · subst e
      simp [updV, va_rf]
    · by_cases h : j < i
      · simp [updV, e, h, Nat.lt_succ_of_lt h]
      · simp [updV, e, h, show ¬ j < i + 1 by omega]
section VGM
variable {p : Program} {l : Launch} {e : Env} {R : Room} {s : State} {m : MethodId} {args : Array Value} {below : List Frame} {meth : Method} {c : Code} {H : Heap} {locs : List Loc} {cells slots : Nat} {Q : State → Prop}
variable {cc : ByteArray} {pc : Nat} {ls : Array Slot} {rest : List Value} {D : va_G} {cl : List vw_C} {A : Nat → Prop} {a : Nat} {tys : List (ClassId × FieldType)} {ws : va_W} {H0 : Heap}
end VGM
/-! ===== END ===== -/

/-! ===== BEGIN exceptions that leave a method, and their catching by the caller (launches without stack traces) ===== -/
section VXA
/-! The laws vx_back, vx_callV, vx_callS, vx_callSW, vx_throw0, vx_throwS follow proofs of the library, with one case more: JvmDerived/Free/Laws.lean (Back.of_free), Shelf42/LK1.lean (callV, callS), Shelf/KitTraced.lean (throwNew0V, throwNewS). -/
/-- where a method has thrown q: the class by its name, the cell, what was written, the world -/
def vx_T (XC : String → State → State → Prop) (st : State) (q : Addr) (t : State) (mc ms : Nat) (free : Addr → Prop) : Prop :=
  ∃ (E : String) (ce : Cell) (L : List Loc), XC E st t ∧ t.heap[q]? = some ce ∧ ce.vm = .none ∧ st.vm.findClass E = some ce.cls ∧ st.WarmedH t.vm ∧ st.sameButNew ({ t with vm := st.vm } : State) L mc ms ∧ ∀ z ∈ L, free z.base
def vx_Q (Qc : Array Value → State → Outcome → State → Prop) (XC : String → State → State → Prop) (mc ms : Nat) (free : Addr → Prop) : Array Value → State → Outcome → State → Prop := fun a st o t =>
  (Qc a st o t ∧ ∃ L, FrameEnd st o t L mc ms ∧ ∀ q ∈ L, free q.base) ∨ ∃ q, o = .threw q ∧ vx_T XC st q t mc ms free
/-- a callee that returns or throws -/
def vx_Met (l : Launch) (y : MethodName) (ws : List Cond) (rm : Room) (Pc : Array Value → State → Prop) (Qc : Array Value → State → Outcome → State → Prop) (XC : String → State → State → Prop) (mc ms : Nat) (free : Addr → Prop) : Prop :=
  MetFree l y (headSpec ws rm) Pc (fun _ _ _ _ _ => True) (vx_Q Qc XC mc ms free)
def vx_Post (XC : String → State → State → Prop) (mc ms : Nat) (free : Addr → Prop) : Pt → Array Value → Addr → Pt → Prop := fun A a q B =>
  ∃ (g : JFrame) (mk : MethodId) (t : State) (L : List Loc) (E : String) (ce : Cell), B.U.heap = t.heap ∧ B.U.vm = t.vm ∧ XC E (A.U.calling g mk a) t ∧ t.heap[q]? = some ce ∧ ce.vm = .none ∧ A.U.vm.findClass E = some ce.cls ∧ B.locs = A.locs ++ L ∧ (∀ z ∈ L, free z.base) ∧ B.cells = A.cells + mc ∧ B.slots = A.slots + ms
def vx_Back (l : Launch) (R : Room) (p : Program) (e : Env) (below : List Frame) (s : State) (sargs : Array Value) (y : MethodName) (len W9 : Nat)
    (Pre : Pt → Array Value → Prop) (Post : Pt → Array Value → Option Value → Pt → Prop) (PostX : Pt → Array Value → Addr → Pt → Prop) : Prop :=
  ∀ (m : MethodId) (meth : Method) (c : Code) (A : Pt) (g : JFrame) (ig : Instr) (mk : MethodId) (a : Array Value),
    Stand p l e R s m sargs below meth c A.U A.locs A.cells A.slots → g.method = m → g.locals.size = c.maxLocals → decode c.code g.pc = .ok (ig, len) →
    2 * g.monitorRoom + (g.stack.map fun v => v.category).sum ≤ W9 → A.U.methodNamed? y = some mk → Pre A a →
    (∃ (v : Option Value) (B : Pt), Stand p l e R s m sargs below meth c B.U B.locs B.cells B.slots ∧ Post A a v B ∧
      Steps p.tables e below (doInvoke e (A.U.setTop g) [] mk a).1 (B.U.setTop { g with pc := g.pc + len, stack := v.toList ++ g.stack })) ∨
    (∃ (q : Addr) (B : Pt), Stand p l e R s m sargs below meth c B.U B.locs B.cells B.slots ∧ PostX A a q B ∧
      Steps p.tables e below (doInvoke e (A.U.setTop g) [] mk a).1 ((B.U.setTop g).pushFrame (.throwing q)))
section Payer
variable {l : Launch} {R : Room} {p : Program} {e : Env} {below : List Frame} {s : State} {sargs : Array Value} {y : MethodName} {len W9 : Nat}
theorem vx_back {ws : List Cond} {rm : Room} {Pc : Array Value → State → Prop} {Qc : Array Value → State → Outcome → State → Prop} {XC : String → State → State → Prop} {mc ms : Nat} {free : Addr → Prop} {bytes : ByteArray} {maxL : Nat} {ret : Option FieldType}
    (hM : vx_Met l y ws rm Pc Qc XC mc ms free) (hblind : FrameBlind Pc) (hrc : rm.cells = mc) (hrs : rm.slots = ms)
    (hframes : rm.frames + 1 ≤ R.frames) (hlocals : W9 + (maxL + 11) + rm.locals ≤ R.locals)
    (hws : ∀ w ∈ ws, ∀ a' U, s.WarmedH U.vm → w.before a' U = true) (hcode : Cond.code y bytes maxL ret ∈ ws) (hinit : ∀ a' U, s.WarmedH U.vm → (Cond.initialized y.cls).before a' U = true) :
    vx_Back l R p e below s sargs y len W9 (PreOf R mc ms Pc) (PostOf Qc mc ms free) (vx_Post XC mc ms free) := by
  intro m meth c A g ig mk a X hg hsize hdg hW hn hp
  have h1 : (headSpec ws rm).pre.before a A.U = true := atoms_intro fun w hw => hws w hw _ _ X.warmed
  have h2 : (Cond.code y bytes maxL ret).before a A.U = true := hws _ hcode _ _ X.warmed
  have h3 : (Cond.initialized y.cls).before a A.U = true := hinit _ _ X.warmed
  have h4 : A.cells + (headSpec ws rm).room.cells ≤ R.cells := by rw [show (headSpec ws rm).room.cells = mc from hrc]; exact hp.1
  have h5 : A.slots + (headSpec ws rm).room.slots ≤ R.slots := by rw [show (headSpec ws rm).room.slots = ms from hrs]; exact hp.2.1
  have hPc : Pc a (A.U.calling g mk a) := hblind _ _ _ _ hp.2.2
  obtain ⟨U, Ls, c0, s0⟩ := A
  dsimp only [Pt.U, Pt.locs, Pt.cells, Pt.slots] at h1 h2 h3 h4 h5 X hn hPc ⊢
  obtain ⟨methY, cY, hmY, hcY, -, hlY, -, -, -, -⟩ := Cond.code_spec hn h2
  obtain ⟨kY, hkY, -⟩ := className_of_methodNamed hn
  have hinitY : kY.init = .initialized := Cond.initialized_spec (findClass_of_methodNamed hn) hkY h3
  have h : At U g.method c below := by rw [hg]; exact X.here
  have hlocals9 : W9 + (maxL + 11) + (headSpec ws rm).room.locals ≤ R.locals := hlocals
  have happ : (headSpec ws rm).appliesLoose y e.platform (U.calling g mk a) = true :=
    Spec.appliesLoose_calling (g := g) h hdg hn hkY hinitY
      (X.room_calling (g := g) (R' := (headSpec ws rm).room) hsize hmY hcY hframes (by rw [hlY]; omega) h4 h5) h1
  obtain ⟨mid, hmid⟩ := h.above
  have hfr : (U.setTop g).frames = (.java g :: mid) ++ below := by rw [State.frames_setTop' g h.top, hmid]; rfl
  obtain ⟨o, s₂, hsteps, -, hend, hq⟩ := Steps.callFree hM p X.admits X.cas X.clock (acts := []) hfr happ hPc trivial
  have hq' : vx_Q Qc XC mc ms free a (U.calling g mk a) o s₂ := hq
  rw [State.frames_setTop' g h.top] at hend
  obtain ⟨g₀, hg0⟩ := Option.isSome_iff_exists.mp h.top
  obtain ⟨r, hr⟩ := State.topJava?_eq_some.mp hg0
  have hr' : (({ U with heap := s₂.heap, slotsUsed := s₂.slotsUsed } : State).setVm s₂.vm).frames = .java g₀ :: r := hr
  rcases hq' with ⟨hqc, L, hfe, hL⟩ | ⟨q, rfl, E, ce, L, hx, hce, hcv, hcl, hW₂, hsm, hL⟩
  · obtain ⟨⟨v, rfl⟩, hW₂, e2, q2, q3, q4, q5, q6⟩ := id hfe
    have e3 : s₂ = ({ (U.calling g mk a).setFrames s₂.frames with heap := s₂.heap, slotsUsed := s₂.slotsUsed } : State).setVm s₂.vm := by
      have : s₂ = ({ s₂ with vm := (U.calling g mk a).vm } : State).setVm s₂.vm := rfl
      rw [e2] at this
      exact this
    obtain ⟨c₂, i₂, len₂, hc₂, hd₂, hf₂⟩ := hend
    have hW' : U.WarmedH s₂.vm := hW₂
    have hcc : c₂ = c := by
      have h1 : s₂.code? g.method = U.code? g.method := by
        rw [State.code?_eq, State.code?_eq, hW'.alike.method?]
      exact Option.some.inj (hc₂.symm.trans (h1.trans h.code))
    subst hcc
    have hlen : len₂ = len := by rw [hdg] at hd₂; cases hd₂; rfl
    subst hlen
    have hs₂ : s₂ = (({ U with heap := s₂.heap, slotsUsed := s₂.slotsUsed } : State).setVm s₂.vm).setTop { g with pc := g.pc + len₂, stack := v.toList ++ g.stack } := by
      refine e3.trans ?_
      rw [hf₂, State.calling_eq h.top, State.setFrames_setFrames, State.setTop_of_frames _ hr', hr]
      rfl
    have hsame : U.sameButNew ({ U with heap := s₂.heap, slotsUsed := s₂.slotsUsed } : State) L mc ms := by
      refine ⟨?_, q2, q3, q4, q5, q6⟩
      obtain ⟨t, ht, -⟩ := State.frames_cons hr
      show ({ U with heap := s₂.heap, slotsUsed := s₂.slotsUsed } : State) = { U.setFrames U.frames with heap := s₂.heap, slotsUsed := s₂.slotsUsed }
      rw [State.setFrames_self ht]
    subst hg
    refine Or.inl ⟨v, ⟨(({ U with heap := s₂.heap, slotsUsed := s₂.slotsUsed } : State).setVm s₂.vm), Ls ++ L, c0 + mc, s0 + ms⟩,
      ⟨X.admits, X.cas, X.clock, X.frames, X.room, X.hears, X.method, X.code, (X.here.setHeapUsed s₂.heap s₂.slotsUsed).setVm hW'.alike, X.tail, State.WarmedH.trans X.warmed hW', X.limits, X.bytes, X.same.trans (hsame.setVm s.vm)⟩,
      ⟨g, mk, s₂, L, rfl, rfl, hqc, rfl, hL, rfl, rfl⟩, ?_⟩
    show Steps p.tables e below _ ((({ U with heap := s₂.heap, slotsUsed := s₂.slotsUsed } : State).setVm s₂.vm).setTop { g with pc := g.pc + len₂, stack := v.toList ++ g.stack })
    rw [← hs₂]
    exact hsteps
  · obtain ⟨e2, q2, q3, q4, q5, q6⟩ := id hsm
    have e3 : s₂ = ({ (U.calling g mk a).setFrames s₂.frames with heap := s₂.heap, slotsUsed := s₂.slotsUsed } : State).setVm s₂.vm := by
      have : s₂ = ({ s₂ with vm := (U.calling g mk a).vm } : State).setVm s₂.vm := rfl
      rw [e2] at this
      exact this
    have hf₂ : s₂.frames = .throwing q :: .java g :: U.frames.tail := hend
    have hW' : U.WarmedH s₂.vm := hW₂
    have hs₂ : s₂ = ((({ U with heap := s₂.heap, slotsUsed := s₂.slotsUsed } : State).setVm s₂.vm).setTop g).pushFrame (.throwing q) := by
      refine e3.trans ?_
      rw [hf₂, State.calling_eq h.top, State.setFrames_setFrames, State.pushFrame, State.frames_setTop _ hr', State.setTop_of_frames _ hr', State.setFrames_setFrames, hr]
      rfl
    have hsame : U.sameButNew ({ U with heap := s₂.heap, slotsUsed := s₂.slotsUsed } : State) L mc ms := by
      refine ⟨?_, q2, q3, q4, q5, q6⟩
      obtain ⟨t, ht, -⟩ := State.frames_cons hr
      show ({ U with heap := s₂.heap, slotsUsed := s₂.slotsUsed } : State) = { U.setFrames U.frames with heap := s₂.heap, slotsUsed := s₂.slotsUsed }
      rw [State.setFrames_self ht]
    subst hg
    refine Or.inr ⟨q, ⟨(({ U with heap := s₂.heap, slotsUsed := s₂.slotsUsed } : State).setVm s₂.vm), Ls ++ L, c0 + mc, s0 + ms⟩,
      ⟨X.admits, X.cas, X.clock, X.frames, X.room, X.hears, X.method, X.code, (X.here.setHeapUsed s₂.heap s₂.slotsUsed).setVm hW'.alike, X.tail, State.WarmedH.trans X.warmed hW', X.limits, X.bytes, X.same.trans (hsame.setVm s.vm)⟩,
      ⟨g, mk, s₂, L, E, ce, rfl, rfl, hx, hce, hcv, hcl, rfl, hL, rfl, rfl⟩, ?_⟩
    show Steps p.tables e below _ (((({ U with heap := s₂.heap, slotsUsed := s₂.slotsUsed } : State).setVm s₂.vm).setTop g).pushFrame (.throwing q))
    rw [← hs₂]
    exact hsteps
end Payer
section Calls
variable {p : Program} {l : Launch} {e : Env} {R : Room} {s : State} {m : MethodId} {args : Array Value} {below : List Frame} {meth : Method} {c : Code} {T : State} {locs : List Loc} {cells slots : Nat}
theorem vx_callV (X : Stand p l e R s m args below meth c T locs cells slots) (hexec : p.tables.exec = Jvm.exec) {own C : String} {index : Nat} {y : MethodName} {bytes : ByteArray} {maxL : Nat} {ret : Option FieldType}
    (hown : s.vm.findClass own = some m.cls) (hlink : (Cond.methodLink own index y).before args s = true) (hinst : (Cond.instanceMethod y).before args s = true) (hsel : (Cond.selects C y y).before args s = true)
    (hcode : (Cond.code y bytes maxL ret).before args s = true) (hy : y.cls ≠ "java/lang/invoke/MethodHandle" ∧ y.cls ≠ "java/lang/invoke/VarHandle")
    {W9 : Nat} {Pre : Pt → Array Value → Prop} {Post : Pt → Array Value → Option Value → Pt → Prop} {PostX : Pt → Array Value → Addr → Pt → Prop} (hK : vx_Back l R p e below s args y 3 W9 Pre Post PostX)
    {b : Addr} {cellB : Cell} (hcell : T.heap[b]? = some cellB) (hobj : cellB.vm.isStatics = false) (hcls : s.vm.findClass C = some cellB.cls)
    {g : JFrame} (hg : g.method = m) (hsize : g.locals.size = c.maxLocals) {argsL rest : List Value} (hlen : ∀ sig, parseMethodDescriptor y.desc = some sig → argsL.length = sig.parameters.length)
    (hstack : g.stack = argsL.reverse ++ .ref b :: rest) (hW : 2 * g.monitorRoom + (rest.map fun v => v.category).sum ≤ W9) (hdg : decode c.code g.pc = .ok (.invokevirtual index, 3))
    (hpre : ∀ vm₁, s.WarmedH vm₁ → Pre ⟨T.setVm vm₁, locs, cells, slots⟩ (Value.ref b :: argsL).toArray) :
    (∃ (v : Option Value) (vm₁ : Vm) (B : Pt), s.WarmedH vm₁ ∧ Stand p l e R s m args below meth c B.U B.locs B.cells B.slots ∧ Post ⟨T.setVm vm₁, locs, cells, slots⟩ (Value.ref b :: argsL).toArray v B ∧
      ∀ target, Steps p.tables e below (B.U.setTop { g with pc := g.pc + 3, stack := v.toList ++ rest }) target → Steps p.tables e below (T.setTop g) target) ∨
    (∃ (q : Addr) (vm₁ : Vm) (B : Pt), s.WarmedH vm₁ ∧ Stand p l e R s m args below meth c B.U B.locs B.cells B.slots ∧ PostX ⟨T.setVm vm₁, locs, cells, slots⟩ (Value.ref b :: argsL).toArray q B ∧
      Steps p.tables e below (T.setTop g) ((B.U.setTop { g with stack := rest }).pushFrame (.throwing q))) := by
  obtain ⟨mk, methM, hnamed, hmethM, hstM, habM⟩ := Cond.instanceMethod_spec hinst
  obtain ⟨methM', cM, hmethM', -, -, -, -, -, -, hsigM⟩ := Cond.code_spec hnamed hcode
  cases hmethM.symm.trans hmethM'
  obtain ⟨c2, r2, m2, q1, q2, q3, q4, kP, hkP, hkPi⟩ := Cond.selects_spec hsel
  cases hcls.symm.trans q1
  cases (State.methodFound?_of_named hnamed hy).symm.trans q2
  cases hnamed.symm.trans q3
  have hselP : selectMethod e.platform s.vm cellB.cls mk = .method mk := by rw [Launch.admits_selectMethod X.admits]; exact q4
  obtain ⟨vm₁, X₁, hstep₁⟩ := X.invokevirtual hexec hown hlink hnamed hmethM hstM hkP hkPi hy (a := b) (cell := cellB) hcell
    (fun z h => by rw [h] at hobj; cases hobj) hselP hmethM habM hkP hkPi (g := g) hg (argsL := argsL) (rest := rest) (hlen _ hsigM) hstack hdg
  rcases hK m meth c ⟨T.setVm vm₁, locs, cells, slots⟩ { g with stack := rest } (.invokevirtual index) mk (Value.ref b :: argsL).toArray X₁ hg hsize hdg hW (X₁.named hnamed) (hpre vm₁ X₁.warmed) with ⟨v, B, X', hpost, hsteps⟩ | ⟨q, B, X', hpost, hsteps⟩
  · exact Or.inl ⟨v, vm₁, B, X₁.warmed, X', hpost, fun target h => hstep₁ _ fun acts => by rw [doInvoke_state]; exact hsteps.trans h⟩
  · exact Or.inr ⟨q, vm₁, B, X₁.warmed, X', hpost, hstep₁ _ fun acts => by rw [doInvoke_state]; exact hsteps⟩
theorem vx_callS (X : Stand p l e R s m args below meth c T locs cells slots) (hexec : p.tables.exec = Jvm.exec) {own : String} {index : Nat} {y : MethodName} {bytes : ByteArray} {maxL : Nat} {ret : Option FieldType}
    (hown : s.vm.findClass own = some m.cls) (hlink : (Cond.methodLink own index y).before args s = true) (hstat : (Cond.static y).before args s = true) (hinit : (Cond.initialized y.cls).before args s = true)
    (hcode : (Cond.code y bytes maxL ret).before args s = true) (hy : y.cls ≠ "java/lang/invoke/MethodHandle" ∧ y.cls ≠ "java/lang/invoke/VarHandle")
    {W9 : Nat} {Pre : Pt → Array Value → Prop} {Post : Pt → Array Value → Option Value → Pt → Prop} {PostX : Pt → Array Value → Addr → Pt → Prop} (hK : vx_Back l R p e below s args y 3 W9 Pre Post PostX)
    {g : JFrame} (hg : g.method = m) (hsize : g.locals.size = c.maxLocals) {argsL rest : List Value} (hlen : ∀ sig, parseMethodDescriptor y.desc = some sig → argsL.length = sig.parameters.length)
    (hstack : g.stack = argsL.reverse ++ rest) (hW : 2 * g.monitorRoom + (rest.map fun v => v.category).sum ≤ W9) (hdg : decode c.code g.pc = .ok (.invokestatic index, 3))
    (hpre : ∀ vm₁, s.WarmedH vm₁ → Pre ⟨T.setVm vm₁, locs, cells, slots⟩ argsL.toArray) :
    (∃ (v : Option Value) (vm₁ : Vm) (B : Pt), s.WarmedH vm₁ ∧ Stand p l e R s m args below meth c B.U B.locs B.cells B.slots ∧ Post ⟨T.setVm vm₁, locs, cells, slots⟩ argsL.toArray v B ∧
      ∀ target, Steps p.tables e below (B.U.setTop { g with pc := g.pc + 3, stack := v.toList ++ rest }) target → Steps p.tables e below (T.setTop g) target) ∨
    (∃ (q : Addr) (vm₁ : Vm) (B : Pt), s.WarmedH vm₁ ∧ Stand p l e R s m args below meth c B.U B.locs B.cells B.slots ∧ PostX ⟨T.setVm vm₁, locs, cells, slots⟩ argsL.toArray q B ∧
      Steps p.tables e below (T.setTop g) ((B.U.setTop { g with stack := rest }).pushFrame (.throwing q))) := by
  obtain ⟨mk, hnamed⟩ := Cond.code_named hcode
  obtain ⟨methM, cM, hmethM, -, -, -, -, -, -, hsigM⟩ := Cond.code_spec hnamed hcode
  have hstatic : methM.isStatic = true := Cond.static_spec hnamed hmethM hstat
  obtain ⟨kP, hkP, -⟩ := className_of_methodNamed hnamed
  have hinitP : kP.init = .initialized := Cond.initialized_spec (findClass_of_methodNamed hnamed) hkP hinit
  obtain ⟨vm₁, X₁, hstep₁⟩ := X.invokestatic hexec hown hlink hnamed hmethM hstatic hkP hinitP hy (g := g) hg (argsL := argsL) (rest := rest) (hlen _ hsigM) hstack hdg
  rcases hK m meth c ⟨T.setVm vm₁, locs, cells, slots⟩ { g with stack := rest } (.invokestatic index) mk argsL.toArray X₁ hg hsize hdg hW (X₁.named hnamed) (hpre vm₁ X₁.warmed) with ⟨v, B, X', hpost, hsteps⟩ | ⟨q, B, X', hpost, hsteps⟩
  · exact Or.inl ⟨v, vm₁, B, X₁.warmed, X', hpost, fun target h => hstep₁ _ fun acts => by rw [doInvoke_state]; exact hsteps.trans h⟩
  · exact Or.inr ⟨q, vm₁, B, X₁.warmed, X', hpost, hstep₁ _ fun acts => by rw [doInvoke_state]; exact hsteps⟩
end Calls
theorem vx_cls {s : State} {T : State} {vm₁ : Vm} {E : String} {k : ClassId} (hW : s.WarmedH vm₁) (h : (T.setVm vm₁).vm.findClass E = some k) : s.vm.findClass E = some k := by
  have h1 : vm₁.findClass E = some k := h
  rw [hW.alike.findClass] at h1
  exact h1
/-- the method's frame g, with q thrown over it -/
def vx_W (p : Program) (l : Launch) (e : Env) (R : Room) (s : State) (m : MethodId) (args : Array Value) (below : List Frame) (meth : Method) (c : Code) (H : Heap) (locs : List Loc) (cells slots : Nat) (Q : State → Prop) (g : JFrame) (q : Addr) : Prop :=
  ∀ T : State, T.heap = H → Stand p l e R s m args below meth c T locs cells slots → ∃ t, Steps p.tables e below ((T.setTop g).pushFrame (.throwing q)) t ∧ Q t
def vx_Run (p : Program) (l : Launch) (e : Env) (R : Room) (s : State) (m : MethodId) (args : Array Value) (below : List Frame) (meth : Method) (c : Code) (H : Heap) (locs : List Loc) (cells slots mc ms : Nat) (g : JFrame) (rest : List Value) (Qa : State → Outcome → State → Prop) (XC : String → State → State → Prop) (free : Addr → Prop) : Prop :=
  ∀ T : State, T.heap = H → Stand p l e R s m args below meth c T locs cells slots →
    (∃ (v : Option Value) (st₀ t T' : State) (L : List Loc), st₀.heap = H ∧ Stand p l e R s m args below meth c T' (locs ++ L) (cells + mc) (slots + ms) ∧ (∀ q ∈ L, free q.base) ∧ T'.heap = t.heap ∧ T'.vm = t.vm ∧ Qa st₀ (.returned v) t ∧
      Goes p e below T g T' { g with pc := g.pc + 3, stack := v.toList ++ rest }) ∨
    (∃ (q : Addr) (st₀ t T' : State) (L : List Loc) (E : String) (ce : Cell), st₀.heap = H ∧ Stand p l e R s m args below meth c T' (locs ++ L) (cells + mc) (slots + ms) ∧ (∀ z ∈ L, free z.base) ∧ T'.heap = t.heap ∧ T'.vm = t.vm ∧ XC E st₀ t ∧ t.heap[q]? = some ce ∧ ce.vm = .none ∧ s.vm.findClass E = some ce.cls ∧
      Steps p.tables e below (T.setTop g) ((T'.setTop { g with stack := rest }).pushFrame (.throwing q)))
def vx_X {S : Type} (px : S → Prop) (B : String → S → State → Prop) (A : Nat → Prop) : String → State → State → Prop := fun E st t => ∃ u : S, px u ∧ B E u t ∧ va_F A st t
section Runs
variable {p : Program} {l : Launch} {e : Env} {R : Room} {s : State} {m : MethodId} {args : Array Value} {below : List Frame} {meth : Method} {c : Code} {H : Heap} {locs : List Loc} {cells slots : Nat}
variable {y : MethodName} {bytes cc : ByteArray} {maxL nL mc ms n index : Nat} {ret : Option FieldType} {ws : List Cond} {rm : Room} {Pc : Array Value → State → Prop} {Qc : Array Value → State → Outcome → State → Prop} {XC : String → State → State → Prop} {free : Addr → Prop} {Ts : List Cond} {own C : String} {b : Addr} {As rest : List Value} {g : JFrame}
theorem vx_callBack (cb : CallB R s args own index y bytes maxL ret ws rm mc ms n) (hM : vx_Met l y ws rm Pc Qc XC mc ms free) (hbl : FrameBlind Pc) : vx_Back l R p e below s args y 3 8 (PreOf R mc ms Pc) (PostOf Qc mc ms free) (vx_Post XC mc ms free) := by
  obtain ⟨hrc, hrs, hfr, hlo, hws, hcw, -, hini, -⟩ := cb
  exact vx_back (bytes := bytes) (maxL := maxL) (ret := ret) hM hbl hrc hrs hfr hlo hws hcw (fun a' U hW => word_at hW (Or.inl (by first | rfl | simp [Cond.onTables, Cond.keeps, Cond.steady])) hini)
theorem vx_runV (S : CallFix p m c cc nL s args Ts own) (hM : vx_Met l y ws rm Pc Qc XC mc ms free) (cw : CallW R s args own C index y bytes maxL ret ws rm mc ms n) (hp : PreV s H C b Pc As)
    (hg : g.method = m) (hn : As.length = n) (hsize : g.locals.size = nL) (hstack : g.stack = As.reverse ++ .ref b :: rest) (hW : 2 * g.monitorRoom + (rest.map fun v => v.category).sum ≤ 8) (hdg : decode cc g.pc = .ok (.invokevirtual index, 3)) (hf : cells + mc ≤ R.cells ∧ slots + ms ≤ R.slots) :
    vx_Run p l e R s m args below meth c H locs cells slots mc ms g rest (Qc (Value.ref b :: As).toArray) XC free := by
  have hK : vx_Back l R p e below s args y 3 8 (PreOf R mc ms Pc) (PostOf Qc mc ms free) (vx_Post XC mc ms free) := vx_callBack cw.1 hM hp.1
  obtain ⟨⟨-, -, -, -, -, -, hcode, -, hy, hlen, hl⟩, hin, hse⟩ := cw
  obtain ⟨hx, hb, hml, ho, -⟩ := S
  obtain ⟨-, ⟨cellB, hcB, hoB, hclB⟩, hPc⟩ := hp
  intro T hT X
  rcases vx_callV X hx (C := C) (bytes := bytes) (maxL := maxL) (ret := ret) ho hl hin hse hcode hy hK (by rw [hT]; exact hcB) hoB hclB hg (hsize.trans hml.symm) (argsL := As) (rest := rest) (fun sig h => hn.trans (hlen sig h)) hstack hW (by rw [hb]; exact hdg)
    (fun vm₁ hW₁ => ⟨hf.1, hf.2, hPc (T.setVm vm₁) hT hW₁⟩) with ⟨v, vm₁, ⟨U', l2, c2, s2⟩, hW₁, X', ⟨g', mk, t, L, e1, e2, hq, h1, hL, h2, h3⟩, st⟩ | ⟨q, vm₁, ⟨U', l2, c2, s2⟩, hW₁, X', ⟨g', mk, t, L, E, ce, e1, e2, hq, hce, hcv, hcl, h1, hL, h2, h3⟩, st⟩
  · dsimp only [Pt.U, Pt.locs, Pt.cells, Pt.slots] at X' e1 e2 h1 h2 h3 st
    subst h1; subst h2; subst h3
    exact Or.inl ⟨v, (T.setVm vm₁).calling g' mk (Value.ref b :: As).toArray, t, U', L, hT, X', hL, e1, e2, hq, st⟩
  · dsimp only [Pt.U, Pt.locs, Pt.cells, Pt.slots] at X' e1 e2 h1 h2 h3 st hcl
    subst h1; subst h2; subst h3
    exact Or.inr ⟨q, (T.setVm vm₁).calling g' mk (Value.ref b :: As).toArray, t, U', L, E, ce, hT, X', hL, e1, e2, hq, hce, hcv, vx_cls hW₁ hcl, st⟩
theorem vx_runS (S : CallFix p m c cc nL s args Ts own) (hM : vx_Met l y ws rm Pc Qc XC mc ms free) (cw : CallB R s args own index y bytes maxL ret ws rm mc ms n ∧ (Cond.static y).before args s = true) (hp : PreS s H Pc As)
    (hg : g.method = m) (hn : As.length = n) (hsize : g.locals.size = nL) (hstack : g.stack = As.reverse ++ rest) (hW : 2 * g.monitorRoom + (rest.map fun v => v.category).sum ≤ 8) (hdg : decode cc g.pc = .ok (.invokestatic index, 3)) (hf : cells + mc ≤ R.cells ∧ slots + ms ≤ R.slots) :
    vx_Run p l e R s m args below meth c H locs cells slots mc ms g rest (Qc As.toArray) XC free := by
  have hK : vx_Back l R p e below s args y 3 8 (PreOf R mc ms Pc) (PostOf Qc mc ms free) (vx_Post XC mc ms free) := vx_callBack cw.1 hM hp.1
  obtain ⟨⟨-, -, -, -, -, -, hcode, hini, hy, hlen, hl⟩, hstt⟩ := cw
  obtain ⟨hx, hb, hml, ho, -⟩ := S
  intro T hT X
  rcases vx_callS X hx (bytes := bytes) (maxL := maxL) (ret := ret) ho hl hstt hini hcode hy hK hg (hsize.trans hml.symm) (argsL := As) (rest := rest) (fun sig h => hn.trans (hlen sig h)) hstack hW (by rw [hb]; exact hdg)
    (fun vm₁ hW₁ => ⟨hf.1, hf.2, hp.2 (T.setVm vm₁) hT hW₁⟩) with ⟨v, vm₁, ⟨U', l2, c2, s2⟩, hW₁, X', ⟨g', mk, t, L, e1, e2, hq, h1, hL, h2, h3⟩, st⟩ | ⟨q, vm₁, ⟨U', l2, c2, s2⟩, hW₁, X', ⟨g', mk, t, L, E, ce, e1, e2, hq, hce, hcv, hcl, h1, hL, h2, h3⟩, st⟩
  · dsimp only [Pt.U, Pt.locs, Pt.cells, Pt.slots] at X' e1 e2 h1 h2 h3 st
    subst h1; subst h2; subst h3
    exact Or.inl ⟨v, (T.setVm vm₁).calling g' mk As.toArray, t, U', L, hT, X', hL, e1, e2, hq, st⟩
  · dsimp only [Pt.U, Pt.locs, Pt.cells, Pt.slots] at X' e1 e2 h1 h2 h3 st hcl
    subst h1; subst h2; subst h3
    exact Or.inr ⟨q, (T.setVm vm₁).calling g' mk As.toArray, t, U', L, E, ce, hT, X', hL, e1, e2, hq, hce, hcv, vx_cls hW₁ hcl, st⟩
end Runs
section Rows
variable {p : Program} {l : Launch} {e : Env} {R : Room} {s : State} {m : MethodId} {args : Array Value} {below : List Frame} {meth : Method} {c : Code} {H : Heap} {locs : List Loc} {cells slots : Nat} {Q : State → Prop}
variable {mc ms : Nat} {free : Addr → Prop} {A0 A1 : Nat → Prop} {H0 : Heap} {a : Array Value} {pc : Nat} {ls : Array Slot} {st0 rest : List Value}
theorem vx_keep {st₀ t T' : State} {L : List Loc} (h0 : st₀.heap = H) (e1 : T'.heap = t.heap) (hS : va_S A0 H0 H locs) (hA : ∀ q, q < H.size → A1 q → A0 q) (hf : ∀ q, free q → A0 q) (hL : ∀ q ∈ L, free q.base) (hF : va_F A1 st₀ t) :
    H.size ≤ T'.heap.size ∧ (∀ q : Nat, q < H.size → ¬ A1 q → T'.heap[q]? = H[q]?) ∧ va_S A0 H0 T'.heap (locs ++ L) := by
  obtain ⟨hz, hk⟩ := hF
  rw [h0] at hz hk
  exact ⟨by rw [e1]; exact hz, fun q h1 h2 => by rw [e1]; exact hk q h1 h2,
    ⟨Nat.le_trans hS.1 (by rw [e1]; exact hz), fun q h1 h2 => by rw [e1, hk q (Nat.lt_of_lt_of_le h1 hS.1) (fun z => h2 (hA q (Nat.lt_of_lt_of_le h1 hS.1) z))]; exact hS.2.1 q h1 h2, fun q hq => by
      rcases List.mem_append.mp hq with h | h
      · exact hS.2.2 q h
      · exact hf _ (hL q h)⟩⟩
theorem vx_calli {S SX : Type} {post : Int32 → S → Prop} {px : SX → Prop} {B : S → State → Prop} {BX : String → SX → State → Prop} {AX : Nat → Prop} (hr : vx_Run p l e R s m args below meth c H locs cells slots mc ms (F0 m pc ls st0) rest (va_Qi post B A1 a) (vx_X px BX AX) free) (hS : va_S A0 H0 H locs) (hA : ∀ q, q < H.size → A1 q → A0 q) (hf : ∀ q, free q → A0 q) (hAX : ∀ q, q < H.size → AX q → A0 q)
    (kx : ∀ (E : String) (ce : Cell) (q9 : Addr) (u : SX) (t : State) (H1 : Heap) (locs1 : List Loc), t.heap = H1 → s.vm.Alike t.vm → px u → BX E u t → H.size ≤ H1.size → (∀ q : Nat, q < H.size → ¬ AX q → H1[q]? = H[q]?) → va_S A0 H0 H1 locs1 → H1[q9]? = some ce → ce.vm = .none → s.vm.findClass E = some ce.cls → vx_W p l e R s m args below meth c H1 locs1 (cells + mc) (slots + ms) Q (F0 m pc ls rest) q9)
    (kk : ∀ (r : Int32) (u : S) (t : State) (H1 : Heap) (locs1 : List Loc), t.heap = H1 → s.vm.Alike t.vm → post r u → B u t → H.size ≤ H1.size → (∀ q : Nat, q < H.size → ¬ A1 q → H1[q]? = H[q]?) → va_S A0 H0 H1 locs1 → W p l e R s m args below meth c H1 locs1 (cells + mc) (slots + ms) Q (F0 m (pc + 3) ls (.int r :: rest))) : W p l e R s m args below meth c H locs cells slots Q (F0 m pc ls st0) := by
  intro T hT X
  rcases hr T hT X with ⟨v, st₀, t, T', L, h0, X', hL, e1, e2, ⟨⟨r, u, hv, hp, hb⟩, hF⟩, st⟩ | ⟨q, st₀, t, T', L, E, ce, h0, X', hL, e1, e2, ⟨u, hp, hb, hF⟩, hce, hcv, hcl, st⟩
  · cases hv
    obtain ⟨k1, k2, k3⟩ := vx_keep h0 e1 hS hA hf hL hF
    obtain ⟨t2, a1, b1⟩ := kk r u t T'.heap (locs ++ L) e1.symm (by rw [← e2]; exact X'.warmed.alike) hp hb k1 k2 k3 T' rfl X'
    exact ⟨t2, st t2 a1, b1⟩
  · obtain ⟨k1, k2, k3⟩ := vx_keep h0 e1 hS hAX hf hL hF
    obtain ⟨t2, a1, b1⟩ := kx E ce q u t T'.heap (locs ++ L) e1.symm (by rw [← e2]; exact X'.warmed.alike) hp hb k1 k2 k3 (by rw [e1]; exact hce) hcv hcl T' rfl X'
    exact ⟨t2, st.trans a1, b1⟩
theorem vx_calll {S SX : Type} {post : Int64 → S → Prop} {px : SX → Prop} {B : S → State → Prop} {BX : String → SX → State → Prop} {AX : Nat → Prop} (hr : vx_Run p l e R s m args below meth c H locs cells slots mc ms (F0 m pc ls st0) rest (va_Ql post B A1 a) (vx_X px BX AX) free) (hS : va_S A0 H0 H locs) (hA : ∀ q, q < H.size → A1 q → A0 q) (hf : ∀ q, free q → A0 q) (hAX : ∀ q, q < H.size → AX q → A0 q)
    (kx : ∀ (E : String) (ce : Cell) (q9 : Addr) (u : SX) (t : State) (H1 : Heap) (locs1 : List Loc), t.heap = H1 → s.vm.Alike t.vm → px u → BX E u t → H.size ≤ H1.size → (∀ q : Nat, q < H.size → ¬ AX q → H1[q]? = H[q]?) → va_S A0 H0 H1 locs1 → H1[q9]? = some ce → ce.vm = .none → s.vm.findClass E = some ce.cls → vx_W p l e R s m args below meth c H1 locs1 (cells + mc) (slots + ms) Q (F0 m pc ls rest) q9)
    (kk : ∀ (r : Int64) (u : S) (t : State) (H1 : Heap) (locs1 : List Loc), t.heap = H1 → s.vm.Alike t.vm → post r u → B u t → H.size ≤ H1.size → (∀ q : Nat, q < H.size → ¬ A1 q → H1[q]? = H[q]?) → va_S A0 H0 H1 locs1 → W p l e R s m args below meth c H1 locs1 (cells + mc) (slots + ms) Q (F0 m (pc + 3) ls (.long r :: rest))) : W p l e R s m args below meth c H locs cells slots Q (F0 m pc ls st0) := by
  intro T hT X
  rcases hr T hT X with ⟨v, st₀, t, T', L, h0, X', hL, e1, e2, ⟨⟨r, u, hv, hp, hb⟩, hF⟩, st⟩ | ⟨q, st₀, t, T', L, E, ce, h0, X', hL, e1, e2, ⟨u, hp, hb, hF⟩, hce, hcv, hcl, st⟩
  · cases hv
    obtain ⟨k1, k2, k3⟩ := vx_keep h0 e1 hS hA hf hL hF
    obtain ⟨t2, a1, b1⟩ := kk r u t T'.heap (locs ++ L) e1.symm (by rw [← e2]; exact X'.warmed.alike) hp hb k1 k2 k3 T' rfl X'
    exact ⟨t2, st t2 a1, b1⟩
  · obtain ⟨k1, k2, k3⟩ := vx_keep h0 e1 hS hAX hf hL hF
    obtain ⟨t2, a1, b1⟩ := kx E ce q u t T'.heap (locs ++ L) e1.symm (by rw [← e2]; exact X'.warmed.alike) hp hb k1 k2 k3 (by rw [e1]; exact hce) hcv hcl T' rfl X'
    exact ⟨t2, st.trans a1, b1⟩
theorem vx_callf {S SX : Type} {post : UInt32 → S → Prop} {px : SX → Prop} {B : S → State → Prop} {BX : String → SX → State → Prop} {AX : Nat → Prop} (hr : vx_Run p l e R s m args below meth c H locs cells slots mc ms (F0 m pc ls st0) rest (va_Qf post B A1 a) (vx_X px BX AX) free) (hS : va_S A0 H0 H locs) (hA : ∀ q, q < H.size → A1 q → A0 q) (hf : ∀ q, free q → A0 q) (hAX : ∀ q, q < H.size → AX q → A0 q)
    (kx : ∀ (E : String) (ce : Cell) (q9 : Addr) (u : SX) (t : State) (H1 : Heap) (locs1 : List Loc), t.heap = H1 → s.vm.Alike t.vm → px u → BX E u t → H.size ≤ H1.size → (∀ q : Nat, q < H.size → ¬ AX q → H1[q]? = H[q]?) → va_S A0 H0 H1 locs1 → H1[q9]? = some ce → ce.vm = .none → s.vm.findClass E = some ce.cls → vx_W p l e R s m args below meth c H1 locs1 (cells + mc) (slots + ms) Q (F0 m pc ls rest) q9)
    (kk : ∀ (r : UInt32) (u : S) (t : State) (H1 : Heap) (locs1 : List Loc), t.heap = H1 → s.vm.Alike t.vm → post r u → B u t → H.size ≤ H1.size → (∀ q : Nat, q < H.size → ¬ A1 q → H1[q]? = H[q]?) → va_S A0 H0 H1 locs1 → W p l e R s m args below meth c H1 locs1 (cells + mc) (slots + ms) Q (F0 m (pc + 3) ls (.float r :: rest))) : W p l e R s m args below meth c H locs cells slots Q (F0 m pc ls st0) := by
  intro T hT X
  rcases hr T hT X with ⟨v, st₀, t, T', L, h0, X', hL, e1, e2, ⟨⟨r, u, hv, hp, hb⟩, hF⟩, st⟩ | ⟨q, st₀, t, T', L, E, ce, h0, X', hL, e1, e2, ⟨u, hp, hb, hF⟩, hce, hcv, hcl, st⟩
  · cases hv
    obtain ⟨k1, k2, k3⟩ := vx_keep h0 e1 hS hA hf hL hF
    obtain ⟨t2, a1, b1⟩ := kk r u t T'.heap (locs ++ L) e1.symm (by rw [← e2]; exact X'.warmed.alike) hp hb k1 k2 k3 T' rfl X'
    exact ⟨t2, st t2 a1, b1⟩
  · obtain ⟨k1, k2, k3⟩ := vx_keep h0 e1 hS hAX hf hL hF
    obtain ⟨t2, a1, b1⟩ := kx E ce q u t T'.heap (locs ++ L) e1.symm (by rw [← e2]; exact X'.warmed.alike) hp hb k1 k2 k3 (by rw [e1]; exact hce) hcv hcl T' rfl X'
    exact ⟨t2, st.trans a1, b1⟩
theorem vx_calld {S SX : Type} {post : UInt64 → S → Prop} {px : SX → Prop} {B : S → State → Prop} {BX : String → SX → State → Prop} {AX : Nat → Prop} (hr : vx_Run p l e R s m args below meth c H locs cells slots mc ms (F0 m pc ls st0) rest (va_Qd post B A1 a) (vx_X px BX AX) free) (hS : va_S A0 H0 H locs) (hA : ∀ q, q < H.size → A1 q → A0 q) (hf : ∀ q, free q → A0 q) (hAX : ∀ q, q < H.size → AX q → A0 q)
    (kx : ∀ (E : String) (ce : Cell) (q9 : Addr) (u : SX) (t : State) (H1 : Heap) (locs1 : List Loc), t.heap = H1 → s.vm.Alike t.vm → px u → BX E u t → H.size ≤ H1.size → (∀ q : Nat, q < H.size → ¬ AX q → H1[q]? = H[q]?) → va_S A0 H0 H1 locs1 → H1[q9]? = some ce → ce.vm = .none → s.vm.findClass E = some ce.cls → vx_W p l e R s m args below meth c H1 locs1 (cells + mc) (slots + ms) Q (F0 m pc ls rest) q9)
    (kk : ∀ (r : UInt64) (u : S) (t : State) (H1 : Heap) (locs1 : List Loc), t.heap = H1 → s.vm.Alike t.vm → post r u → B u t → H.size ≤ H1.size → (∀ q : Nat, q < H.size → ¬ A1 q → H1[q]? = H[q]?) → va_S A0 H0 H1 locs1 → W p l e R s m args below meth c H1 locs1 (cells + mc) (slots + ms) Q (F0 m (pc + 3) ls (.double r :: rest))) : W p l e R s m args below meth c H locs cells slots Q (F0 m pc ls st0) := by
  intro T hT X
  rcases hr T hT X with ⟨v, st₀, t, T', L, h0, X', hL, e1, e2, ⟨⟨r, u, hv, hp, hb⟩, hF⟩, st⟩ | ⟨q, st₀, t, T', L, E, ce, h0, X', hL, e1, e2, ⟨u, hp, hb, hF⟩, hce, hcv, hcl, st⟩
  · cases hv
    obtain ⟨k1, k2, k3⟩ := vx_keep h0 e1 hS hA hf hL hF
    obtain ⟨t2, a1, b1⟩ := kk r u t T'.heap (locs ++ L) e1.symm (by rw [← e2]; exact X'.warmed.alike) hp hb k1 k2 k3 T' rfl X'
    exact ⟨t2, st t2 a1, b1⟩
  · obtain ⟨k1, k2, k3⟩ := vx_keep h0 e1 hS hAX hf hL hF
    obtain ⟨t2, a1, b1⟩ := kx E ce q u t T'.heap (locs ++ L) e1.symm (by rw [← e2]; exact X'.warmed.alike) hp hb k1 k2 k3 (by rw [e1]; exact hce) hcv hcl T' rfl X'
    exact ⟨t2, st.trans a1, b1⟩
theorem vx_callv {S SX : Type} {post : S → Prop} {px : SX → Prop} {B : S → State → Prop} {BX : String → SX → State → Prop} {AX : Nat → Prop} (hr : vx_Run p l e R s m args below meth c H locs cells slots mc ms (F0 m pc ls st0) rest (va_Qv post B A1 a) (vx_X px BX AX) free) (hS : va_S A0 H0 H locs) (hA : ∀ q, q < H.size → A1 q → A0 q) (hf : ∀ q, free q → A0 q) (hAX : ∀ q, q < H.size → AX q → A0 q)
    (kx : ∀ (E : String) (ce : Cell) (q9 : Addr) (u : SX) (t : State) (H1 : Heap) (locs1 : List Loc), t.heap = H1 → s.vm.Alike t.vm → px u → BX E u t → H.size ≤ H1.size → (∀ q : Nat, q < H.size → ¬ AX q → H1[q]? = H[q]?) → va_S A0 H0 H1 locs1 → H1[q9]? = some ce → ce.vm = .none → s.vm.findClass E = some ce.cls → vx_W p l e R s m args below meth c H1 locs1 (cells + mc) (slots + ms) Q (F0 m pc ls rest) q9)
    (kk : ∀ (u : S) (t : State) (H1 : Heap) (locs1 : List Loc), t.heap = H1 → s.vm.Alike t.vm → post u → B u t → H.size ≤ H1.size → (∀ q : Nat, q < H.size → ¬ A1 q → H1[q]? = H[q]?) → va_S A0 H0 H1 locs1 → W p l e R s m args below meth c H1 locs1 (cells + mc) (slots + ms) Q (F0 m (pc + 3) ls (rest))) : W p l e R s m args below meth c H locs cells slots Q (F0 m pc ls st0) := by
  intro T hT X
  rcases hr T hT X with ⟨v, st₀, t, T', L, h0, X', hL, e1, e2, ⟨⟨u, hv, hp, hb⟩, hF⟩, st⟩ | ⟨q, st₀, t, T', L, E, ce, h0, X', hL, e1, e2, ⟨u, hp, hb, hF⟩, hce, hcv, hcl, st⟩
  · cases hv
    obtain ⟨k1, k2, k3⟩ := vx_keep h0 e1 hS hA hf hL hF
    obtain ⟨t2, a1, b1⟩ := kk u t T'.heap (locs ++ L) e1.symm (by rw [← e2]; exact X'.warmed.alike) hp hb k1 k2 k3 T' rfl X'
    exact ⟨t2, st t2 a1, b1⟩
  · obtain ⟨k1, k2, k3⟩ := vx_keep h0 e1 hS hAX hf hL hF
    obtain ⟨t2, a1, b1⟩ := kx E ce q u t T'.heap (locs ++ L) e1.symm (by rw [← e2]; exact X'.warmed.alike) hp hb k1 k2 k3 (by rw [e1]; exact hce) hcv hcl T' rfl X'
    exact ⟨t2, st.trans a1, b1⟩
/-- caught by the row x of this method's table; the rows ahead don't take it -/
theorem vx_catch {own name : String} {E : String} {ce : Cell} {q : Addr} (hown : s.vm.findClass own = some m.cls) (pre : List ExceptionTableEntry) (x : ExceptionTableEntry) (suf : List ExceptionTableEntry) (hsplit : c.exceptionTable.toList = pre ++ x :: suf)
    (hpass : ∀ z ∈ pre, covers z pc = false ∨ (z.catchType ≠ 0 ∧ ∃ nm : String, (Cond.classLink own z.catchType nm).before args s = true ∧ va_Nc E nm s)) (hx : covers x pc = true) (h0 : x.catchType ≠ 0)
    (hlink : (Cond.classLink own x.catchType name).before args s = true) (hcast : (Cond.castable E name).before args s = true) (hcell : H[q]? = some ce) (hv : ce.vm = .none) (hcl : s.vm.findClass E = some ce.cls)
    (kk : W p l e R s m args below meth c H locs cells slots Q (F0 m x.handlerPc ls [.ref q])) : vx_W p l e R s m args below meth c H locs cells slots Q (F0 m pc ls rest) q := by
  intro T hT X
  have hpl : e.platform.magicAccessors = ({} : Platform).magicAccessors := by rw [X.admits.platform]
  obtain ⟨c3, c4, hc3, hc4, hasg⟩ := Cond.castable_spec hcast
  cases Option.some.inj (hc3.symm.trans hcl)
  obtain ⟨c5, hc5, hcl5⟩ := Cond.classLink_spec hown hlink e.platform hpl
  cases Option.some.inj (hc4.symm.trans hc5)
  obtain ⟨vm', X', st⟩ := X.thenCaughtThrough q (g := F0 m pc ls rest) rfl (Steps.refl _) (by rw [hT]; exact hcell) (by rw [hv]; rfl) (by obtain ⟨k9, h9, -⟩ := Vm.findClass_spec hcl; exact ⟨k9, h9⟩) pre x suf hsplit
    (fun z hz => by
      rcases hpass z hz with h | ⟨hz0, nm, hl1, hn1⟩
      · exact Or.inl h
      · obtain ⟨c6, hc6, hcl6⟩ := Cond.classLink_spec hown hl1 e.platform hpl
        obtain ⟨a8, b8, h1, h2, h3⟩ := hn1
        cases Option.some.inj (h1.symm.trans hcl)
        cases Option.some.inj (h2.symm.trans hc6)
        exact Or.inr ⟨hz0, _, hcl6, h3⟩) hx (Or.inr ⟨h0, c4, hcl5, hasg⟩)
  obtain ⟨t, a1, b1⟩ := kk (T.setVm vm') hT X'
  exact ⟨t, st.trans a1, b1⟩
end Rows
section Ends
variable {p : Program} {l : Launch} {e : Env} {R : Room} {s : State} {m : MethodId} {args : Array Value} {below : List Frame} {meth : Method} {c : Code} {H : Heap} {locs : List Loc} {cells slots : Nat} {Q : State → Prop}
variable {mc ms : Nat} {free : Addr → Prop} {A0 A1 : Nat → Prop} {H0 : Heap} {a : Array Value} {ls : Array Slot} {st0 rest : List Value}
variable {Qc : Array Value → State → Outcome → State → Prop} {XC : String → State → State → Prop}
/-- what a body that may throw owes at its end -/
def vx_MQ (below : List Frame) (Qc : Array Value → State → Outcome → State → Prop) (XC : String → State → State → Prop) (a : Array Value) (s : State) (mc ms : Nat) (free : Addr → Prop) : State → Prop := fun t =>
  ∃ o, t.status = .running ∧ Ended t below o ∧ vx_Q Qc XC mc ms free a s o t
theorem vx_ret {g : JFrame} {mc ms : Nat} (k : W p l e R s m args below meth c H locs cells slots (MQ below Qc args s mc ms free) g) : W p l e R s m args below meth c H locs cells slots (vx_MQ below Qc XC args s mc ms free) g := by
  intro T hT X
  obtain ⟨t, a1, o, b1, b2, b3, b4⟩ := k T hT X
  exact ⟨t, a1, o, b1, b2, Or.inl ⟨b3, b4⟩⟩
/-- not caught here: it goes on to the caller -/
theorem vx_widen {g : JFrame} {q : Addr} {k n : Nat} (h1 : cells ≤ k) (h2 : slots ≤ n) (kk : vx_W p l e R s m args below meth c H locs k n Q g q) : vx_W p l e R s m args below meth c H locs cells slots Q g q := fun T hT X => kk T hT (stand_widen X h1 h2)
theorem vx_out {pc : Nat} {E : String} {ce : Cell} {q : Addr} {mc ms : Nat} (hout : ∀ x ∈ c.exceptionTable.toList, covers x pc = false) (hlocks : meth.locks = false) (hcell : H[q]? = some ce) (hv : ce.vm = .none) (hcl : s.vm.findClass E = some ce.cls)
    (hx : ∀ t : State, t.heap = H → s.vm.Alike t.vm → XC E s t) (hf : ∀ z ∈ locs, free z.base) (hc : cells ≤ mc) (hs : slots ≤ ms) :
    vx_W p l e R s m args below meth c H locs cells slots (vx_MQ below Qc XC args s mc ms free) (F0 m pc ls rest) q := by
  intro T hT X
  obtain ⟨st1, hrun, hend, hW, hsm⟩ := X.leaveThrown q (g := F0 m pc ls rest) rfl rfl rfl hout hlocks
  have hcell9 : (T.setFrames (.throwing q :: below)).heap[q]? = some ce := by
    show T.heap[q]? = some ce
    rw [hT]; exact hcell
  exact ⟨_, st1, .threw q, hrun, hend, Or.inr ⟨q, rfl, E, ce, locs, hx _ hT hW.alike, hcell9, hv, hcl, hW, hsm.mono hc hs, hf⟩⟩
theorem vx_frame {U : State} {k n : Nat} (h : s.sameButNew ({ U with vm := s.vm } : State) locs k n) : s.heap.size ≤ U.heap.size ∧ ∀ q : Nat, q < s.heap.size → (∀ z ∈ locs, z.base ≠ q) → U.heap[q]? = s.heap[q]? := by
  obtain ⟨-, h2, -, -, -, h6⟩ := h
  refine ⟨h2, fun q hq hz => ?_⟩
  obtain ⟨c9, e1, e2, e3, e4⟩ := h6 q _ (Array.getElem?_eq_getElem hq)
  have hs : c9.slots = (s.heap[q]).slots := Array.ext_getElem? fun i => e4 i fun hm => hz _ hm rfl
  have h9 : c9 = s.heap[q] := by
    rw [hs] at e2
    exact e2
  have e5 : U.heap[q]? = some c9 := e1
  rw [e5, h9, Array.getElem?_eq_getElem hq]
/-- the words of a throw but the four that speak of the heap -/
def vx_no (w : Cond) : Bool := decide (w ≠ .isRef (.static Bundle.tN "UNASSIGNED_STACK" Bundle.steD)) && decide (w ≠ .isRef (.static Bundle.tN "SUPPRESSED_SENTINEL" Bundle.listD)) && decide (w ≠ .laysStatic Bundle.tN "UNASSIGNED_STACK" Bundle.steD) && decide (w ≠ .laysStatic Bundle.tN "SUPPRESSED_SENTINEL" Bundle.listD)
def vx_at0 (own : String) (ic : Nat) (X : String) (names : List String) : List Cond := (Bundle.ownAtoms0 own ic X names).filter vx_no
def vx_atS (own : String) (ic : Nat) (X : String) (names : List String) : List Cond := (Bundle.ownAtoms own ic X names).filter vx_no
/-- a word that the tables alone decide, or a good one -/
def vx_ot (w : Cond) : Bool := w.onTables || goodWord w
theorem vx_ot_at {args a' : Array Value} {s U : State} {w : Cond} (hW : s.WarmedH U.vm) (hvm : s.vm = U.vm) (hg : vx_ot w = true) (h : w.before args s = true) : w.before a' U = true := by
  simp only [vx_ot, Bool.or_eq_true] at hg
  rcases hg with hg | hg
  · exact va_tabs hg hvm h
  · exact word_at hW (good_of_word hg) h
/-- a list's words: the good ones out of the method's own list, the others by premises of their own -/
theorem vx_hat {args : Array Value} {s : State} {L B : List Cond} (h1 : ∀ w ∈ L.filter goodWord, w.before args s = true) (h2 : ∀ w ∈ L.filter (fun w => !goodWord w), w ∈ B) (h3 : ∀ w ∈ B, w.before args s = true) : ∀ w ∈ L, w.before args s = true := by
  intro w hw
  by_cases g : goodWord w = true
  · exact h1 w (List.mem_filter.mpr ⟨hw, g⟩)
  · refine h3 w (h2 w (List.mem_filter.mpr ⟨hw, ?_⟩))
    show (!goodWord w) = true
    cases hgw : goodWord w
    · rfl
    · exact absurd hgw g
theorem vx_c {args : Array Value} {s : State} {w : Cond} {B : List Cond} (h : w.before args s = true) (t : ∀ w ∈ B, w.before args s = true) : ∀ w' ∈ w :: B, w'.before args s = true := fun w' h' => (List.mem_cons.mp h').elim (fun e => by rw [e]; exact h) (t w')
theorem vx_n {args : Array Value} {s : State} : ∀ w ∈ ([] : List Cond), w.before args s = true := fun _ h => nomatch h
theorem vx_own {args : Array Value} {s : State} {L : List Cond} (h1 : ∀ w ∈ L.filter vx_no, w.before args s = true)
    (hU : (Cond.isRef (.static Bundle.tN "UNASSIGNED_STACK" Bundle.steD)).before args s = true) (hN : (Cond.isRef (.static Bundle.tN "SUPPRESSED_SENTINEL" Bundle.listD)).before args s = true)
    (lU : (Cond.laysStatic Bundle.tN "UNASSIGNED_STACK" Bundle.steD).before args s = true) (lN : (Cond.laysStatic Bundle.tN "SUPPRESSED_SENTINEL" Bundle.listD).before args s = true) : ∀ w ∈ L, w.before args s = true := by
  intro w hw
  by_cases e1 : w = .isRef (.static Bundle.tN "UNASSIGNED_STACK" Bundle.steD)
  · rw [e1]; exact hU
  · by_cases e2 : w = .isRef (.static Bundle.tN "SUPPRESSED_SENTINEL" Bundle.listD)
    · rw [e2]; exact hN
    · by_cases e3 : w = .laysStatic Bundle.tN "UNASSIGNED_STACK" Bundle.steD
      · rw [e3]; exact lU
      · by_cases e4 : w = .laysStatic Bundle.tN "SUPPRESSED_SENTINEL" Bundle.listD
        · rw [e4]; exact lN
        · exact h1 w (List.mem_filter.mpr ⟨hw, by unfold vx_no; rw [decide_eq_true e1, decide_eq_true e2, decide_eq_true e3, decide_eq_true e4]; rfl⟩)
/-- where a static field lies, its class's statics cell in H -/
def vx_L (C n d : String) (A : Nat → Prop) (U : State) (H : Heap) : Prop := ∃ (c : ClassId) (k : Class) (i : Nat) (f : Field) (a : Nat) (cell : Cell), U.vm.findClass C = some c ∧ U.fieldFound? C n d = some (c, k, i, f) ∧ f.isStatic = true ∧ k.statics = some a ∧ H[a]? = some cell ∧ cell.vm.isStatics = true ∧ cell.cls = c ∧ f.slot < cell.slots.size ∧ k.staticTypes[f.slot]? = some f.type ∧ ¬ A a
theorem vx_L.moved {C n d : String} {A : Nat → Prop} {u U : State} {H : Heap} (hvm : u.vm.Alike U.vm) (h : vx_L C n d A u H) : vx_L C n d A U H := by
  obtain ⟨c, k, i, f, a, cell, h1, h2, h3, h4, h5, h6, h7, h8, h9, h10⟩ := h
  obtain ⟨k', hi', he⟩ := State.fieldFound?_setVm hvm h2
  exact ⟨c, k', i, f, a, cell, by rw [hvm.findClass]; exact h1, hi', h3, by rw [he]; exact h4, h5, h6, h7, h8, by rw [he]; exact h9, h10⟩
theorem vx_L.kept {C n d : String} {A : Nat → Prop} {U : State} {H H1 : Heap} (h : vx_L C n d A U H) (hq : ∀ a : Nat, a < H.size → ¬ A a → H1[a]? = H[a]?) : vx_L C n d A U H1 := by
  obtain ⟨c, k, i, f, a, cell, h1, h2, h3, h4, h5, h6, h7, h8, h9, h10⟩ := h
  exact ⟨c, k, i, f, a, cell, h1, h2, h3, h4, by rw [hq a (Array.getElem?_eq_some_iff.mp h5).1 h10]; exact h5, h6, h7, h8, h9, h10⟩
theorem vx_L.narrow {C n d : String} {A B : Nat → Prop} {U : State} {H : Heap} (h : vx_L C n d A U H) (hAB : ∀ q, B q → A q) : vx_L C n d B U H := by
  obtain ⟨c, k, i, f, a, cell, h1, h2, h3, h4, h5, h6, h7, h8, h9, h10⟩ := h
  exact ⟨c, k, i, f, a, cell, h1, h2, h3, h4, h5, h6, h7, h8, h9, fun z => h10 (hAB _ z)⟩
theorem vx_L.word {C n d : String} {A : Nat → Prop} {s : State} {args : Array Value} (h : vx_L C n d A s s.heap) : (Cond.laysStatic C n d).before args s = true := by
  obtain ⟨c, k, i, f, a, cell, h1, h2, h3, h4, h5, h6, h7, h8, h9, -⟩ := h
  show (Cond.laysStatic C n d).holds args s none s [] = true
  exact Cond.laysStatic_of h1 h2 h3 h4 h5 h6 h7 h8 h9
/-- .. and what it holds: null or some reference -/
def vx_Zq (C n d : String) (A : Nat → Prop) (U : State) (H : Heap) : Prop := va_Zq C n d A U H ∧ vx_L C n d A U H
theorem vx_Zq.moved {C n d : String} {A : Nat → Prop} {u U : State} {H : Heap} (hvm : u.vm.Alike U.vm) (h : vx_Zq C n d A u H) : vx_Zq C n d A U H := ⟨va_Zq.moved hvm h.1, vx_L.moved hvm h.2⟩
theorem vx_Zq.kept {C n d : String} {A : Nat → Prop} {U : State} {H H1 : Heap} (h : vx_Zq C n d A U H) (hq : ∀ a : Nat, a < H.size → ¬ A a → H1[a]? = H[a]?) : vx_Zq C n d A U H1 := ⟨va_Zq.kept h.1 hq, vx_L.kept h.2 hq⟩
theorem vx_Zq.narrow {C n d : String} {A B : Nat → Prop} {U : State} {H : Heap} (h : vx_Zq C n d A U H) (hAB : ∀ q, B q → A q) : vx_Zq C n d B U H := ⟨va_Zq.narrow h.1 hAB, vx_L.narrow h.2 hAB⟩
theorem vx_Zqof {args : Array Value} {s : State} {C n d : String} {A : Nat → Prop} (hl : (Cond.laysStatic C n d).before args s = true) (hini : (Cond.initialized C).before args s = true) (h : (Cond.isRef (.static C n d)).before args s = true) (hA : ∀ a : Nat, a < s.heap.size → ¬ A a) : vx_Zq C n d A s s.heap := by
  refine ⟨va_Zqof hl hini h hA, ?_⟩
  obtain ⟨c, k, i, f, a, cell, h1, h2, h3, h4, h5, h6, h7, h8, h9⟩ := Cond.laysStatic_spec hl
  exact ⟨c, k, i, f, a, cell, h1, h2, h3, h4, h5, h6, h7, h8, h9, hA a (Array.getElem?_eq_some_iff.mp h5).1⟩
theorem vx_isRef {C n d : String} {v : Value} {A : Nat → Prop} {s : State} {args : Array Value} (h : va_Z C n d v A s s.heap) (hv : v.isRef = true) : (Cond.isRef (.static C n d)).before args s = true := by
  obtain ⟨cf, kf, fi, f, a, cell, h1, h2, h3, h4, h5, h6, h7, -⟩ := h
  have he : (Term.static C n d).eval args s none [] s = some v := by
    simp [Term.eval, State.fieldNamed?, h1, h2, h4, h5, h6, h7]
  simp only [Cond.before, Cond.holds, Cond.value, he]
  cases v <;> simp_all [Value.isRef]
theorem vx_isRefq {C n d : String} {A : Nat → Prop} {s : State} {args : Array Value} (h : va_Zq C n d A s s.heap) : (Cond.isRef (.static C n d)).before args s = true := by
  rcases h with h | ⟨t, h⟩
  · exact vx_isRef h rfl
  · exact vx_isRef h rfl
/-- the same frame, seen from here: as if the method were called anew in this heap -/
theorem vx_rebase {T : State} (X : Stand p l e R s m args below meth c T locs cells slots) {R' : Room} (hf : R'.frames ≤ R.frames) (hl : R'.locals ≤ R.locals) (hc : cells + R'.cells ≤ R.cells) (hs : slots + R'.slots ≤ R.slots) :
    Stand p l e R' ((T.setVm s.vm).setFrames (.invoking m args :: below)) m args below meth c T [] 0 0 := by
  have htop : (T.setVm s.vm).topJava?.isSome := X.here.top
  have hF : ((T.setVm s.vm).setFrames (.invoking m args :: below)).frames = .invoking m args :: below := State.frames_setFrames _ (State.cur_lt_of_top htop)
  obtain ⟨g₀, hg0⟩ := Option.isSome_iff_exists.mp htop
  obtain ⟨r, hr⟩ := State.topJava?_eq_some.mp hg0
  have hl9 : e.platform.stackLimits (T.setVm s.vm).me = e.platform.stackLimits s.me := X.limits
  have hb9 : (T.setVm s.vm).me.stackBytes = s.me.stackBytes := X.bytes
  refine ⟨X.admits, X.cas, X.clock, hF, ?_, X.hears, X.method, X.code, X.here, X.tail, X.warmed, ?_, ?_, ?_⟩
  · have h := X.room
    have hU : ((T.setVm s.vm).setFrames (.invoking m args :: below)).localsInUse = s.localsInUse := by
      rw [State.localsInUse_invoking hF (meth := meth) (c := c) X.method X.code, State.localsInUse_invoking X.frames X.method X.code]
    simp only [State.hasRoom, Bool.and_eq_true, decide_eq_true_eq] at h ⊢
    obtain ⟨⟨⟨⟨h1, h2, h3, h4, h5, h6⟩, h7⟩, h8⟩, h9⟩ := h
    rw [X.frames, List.length_cons] at h2 h3
    have q1 := X.heapSize
    have q2 := X.used
    simp only [hF, hU, List.length_cons, State.stackLimits_setFrames, State.stackBytes_setFrames, hl9, hb9]
    refine ⟨⟨⟨⟨by omega, by omega, by omega, by omega, by omega, h6⟩, ?_⟩, ?_⟩, X.book⟩
    · show T.heap.size + R'.cells ≤ e.platform.maxCells
      omega
    · show T.slotsUsed + R'.slots ≤ e.platform.maxSlots
      omega
  · rw [State.stackLimits_setFrames]; rfl
  · rw [State.stackBytes_setFrames]; rfl
  · refine ⟨?_, Nat.le_refl _, Nat.le_refl _, ?_, ?_, fun a c9 h9 => ⟨c9, h9, rfl, rfl, fun _ _ => rfl⟩⟩
    · obtain ⟨t, ht, -⟩ := State.frames_cons hr
      show T.setVm s.vm = { ((T.setVm s.vm).setFrames (.invoking m args :: below)).setFrames (T.setVm s.vm).frames with heap := T.heap, slotsUsed := T.slotsUsed }
      rw [State.setFrames_setFrames, State.setFrames_self ht]
      rfl
    · show T.slotsUsed = T.slotsUsed + ((T.heap.toList.drop T.heap.size).map (·.slots.size)).sum
      rw [List.drop_eq_nil_of_le (Nat.le_of_eq Array.length_toList)]
      rfl
    · show ((T.heap.toList.drop T.heap.size).map (·.slots.size)).sum ≤ 0
      rw [List.drop_eq_nil_of_le (Nat.le_of_eq Array.length_toList)]
      exact Nat.le_refl _
/-- 'throw new E()': new; dup; invokespecial; athrow -/
theorem vx_throw0 {cc : ByteArray} {pc : Nat} (hexec : p.tables.exec = Jvm.exec) (hb : c.code = cc) (hl : l.stackTraces = false) {own cls : String} {names : List String} {ik ic mc ms : Nat} {A : Nat → Prop}
    (hown : s.vm.findClass own = some m.cls) (hcls : Bundle.fit cls = true) (hnames : ∀ n ∈ names, Bundle.fit n = true)
    (hk : (Cond.classLink own ik cls).before args s = true) (hini : (Cond.initialized cls).before args s = true) (hat : ∀ w ∈ vx_at0 own ic cls names, w.before args s = true)
    (hgood : ∀ w ∈ Cond.classLink own ik cls :: Cond.initialized cls :: vx_at0 own ic cls names, vx_ot w = true)
    (hU : vx_Zq Bundle.tN "UNASSIGNED_STACK" Bundle.steD A s s.heap) (hN : vx_Zq Bundle.tN "SUPPRESSED_SENTINEL" Bundle.listD A s s.heap) (hS : va_S A s.heap H locs) (hsize : ls.size = c.maxLocals)
    (d0 : decode cc pc = .ok (.new ik, 3)) (d3 : decode cc (pc + 3) = .ok (.dup, 1)) (d4 : decode cc (pc + 4) = .ok (.invokespecial ic, 3)) (d7 : decode cc (pc + 7) = .ok (.athrow, 1))
    (hout : ∀ x ∈ c.exceptionTable.toList, covers x (pc + 7) = false)
    (hRframes : names.length + 3 < R.frames) (hRlocals : (rest.map fun v => v.category).sum + (13 * (names.length + 1) + 42) ≤ R.locals) (hRcells : cells + 1 ≤ R.cells) (hRslots : slots + 6 ≤ R.slots) (hlocks : meth.locks = false)
    (hx : ∀ t : State, s.vm.Alike t.vm → H.size ≤ t.heap.size → (∀ q : Nat, q < H.size → t.heap[q]? = H[q]?) → XC cls s t)
    (hf : ∀ z ∈ locs, free z.base) (hc : cells + 1 ≤ mc) (hs : slots + 6 ≤ ms) :
    W p l e R s m args below meth c H locs cells slots (vx_MQ below Qc XC args s mc ms free) (F0 m pc ls rest) := by
  intro T hT X
  have htr : e.platform.stackTraces = false := (show e.platform.stackTraces = l.stackTraces by rw [X.admits.platform]).trans hl
  have Y := vx_rebase X (R' := { frames := R.frames, locals := R.locals, cells := 1, slots := 6 }) (Nat.le_refl _) (Nat.le_refl _) hRcells hRslots
  obtain ⟨s', hA⟩ : ∃ z, z = (T.setVm s.vm).setFrames (.invoking m args :: below) := ⟨_, rfl⟩
  rw [← hA] at Y
  have hvm : s'.vm = s.vm := by rw [hA]; rfl
  have hhp : s'.heap = H := by rw [hA]; exact hT
  have hW0 : s.WarmedH s'.vm := by rw [hvm]; exact State.WarmedH.refl s
  have hat' : ∀ w ∈ vx_at0 own ic cls names, w.before args s' = true := fun w hw => vx_ot_at hW0 hvm.symm (hgood w (List.mem_cons_of_mem _ (List.mem_cons_of_mem _ hw))) (hat w hw)
  have hk' : (Cond.classLink own ik cls).before args s' = true := vx_ot_at hW0 hvm.symm (hgood _ List.mem_cons_self) hk
  have hini' : (Cond.initialized cls).before args s' = true := vx_ot_at hW0 hvm.symm (hgood _ (List.mem_cons_of_mem _ List.mem_cons_self)) hini
  have hU' : vx_Zq Bundle.tN "UNASSIGNED_STACK" Bundle.steD A s' s'.heap := by rw [hhp]; exact vx_Zq.moved hW0.alike (hU.kept hS.2.1)
  have hN' : vx_Zq Bundle.tN "SUPPRESSED_SENTINEL" Bundle.listD A s' s'.heap := by rw [hhp]; exact vx_Zq.moved hW0.alike (hN.kept hS.2.1)
  have h : ∀ w ∈ Bundle.ownAtoms0 own ic cls names, w.before args s' = true := vx_own hat' (vx_isRefq hU'.1) (vx_isRefq hN'.1) hU'.2.word hN'.2.word
  have hown' : s'.vm.findClass own = some m.cls := by rw [hvm]; exact hown
  have hins : (Cond.instantiable cls 6).before args s' = true := h _ (by simp [Bundle.ownAtoms0])
  obtain ⟨vm₁, cX, kX, hfX, hkX, -, -, X₁, st1⟩ := Y.newCold hexec (own := own) (C := cls) (index := ik) (n := 6) hown' hk' hins hini'
    (g := F0 m pc ls rest) rfl (by rw [hb]; exact d0) (Nat.le_refl _) (Nat.le_refl _)
  generalize hT1 : (T.setVm vm₁).pushCell { cls := cX, slots := kX.instanceTypes.map defaultValue, vm := .none } = T1 at X₁ st1
  have hcat : (Value.ref T.heap.size).category = 1 := rfl
  have hcellA : T1.heap[T.heap.size]? = some (freshCell cX kX) := by rw [← hT1]; exact State.heap_pushCell_size _ _
  have d3' : decode c.code (pc + 3) = .ok (.dup, 1) := by rw [hb]; exact d3
  obtain ⟨U, hsteps, hrun, hend, hW, hsame, ce, hce, hO⟩ := X₁.ctorThrow0 hexec htr (own := own) (cls := cls) (names := names) (ic := ic) hown' hcls hnames h (fun x hx => nomatch hx) hfX hkX hcellA (by rw [hhp, hT]; exact Nat.le_refl _)
    (g := { method := m, pc := pc + 4, locals := ls, stack := .ref T.heap.size :: .ref T.heap.size :: rest, locked := none }) rfl hsize rfl rfl (rest := rest) rfl
    (by rw [hb]; exact d4) (by rw [hb]; exact d7) hout hRframes (by simp only [List.map_cons, List.sum_cons, hcat]; omega) hlocks
  obtain ⟨f1, f2⟩ := vx_frame hsame
  rw [hhp] at f1 f2
  have hWs : s.WarmedH U.vm := State.WarmedH.trans hW0 hW
  have hcl : s.vm.findClass cls = some ce.cls := by
    have h9 := hO.cls
    rw [hvm] at h9
    exact h9
  have hall : s.sameButNew ({ U with vm := s.vm } : State) locs mc ms := by
    subst hA
    obtain ⟨e1, e2⟩ := hsame
    rw [State.setFrames_setFrames] at e1
    have h2 : (T.setVm s.vm).sameButNew ({ U with vm := s.vm } : State) [] (0 + 1) (0 + 6) := ⟨e1, e2⟩
    have h3 := X.same.trans h2
    rw [List.append_nil] at h3
    exact h3.mono hc hs
  refine ⟨U, ?_, .threw T.heap.size, hrun, hend, Or.inr ⟨T.heap.size, rfl, cls, ce, locs, hx U hWs.alike f1 (fun q hq => f2 q hq (fun z hz => nomatch hz)), hce, hO.vm, hcl, hWs, hall, hf⟩⟩
  refine st1 _ ?_
  show Steps p.tables e below (T1.setTop { method := m, pc := pc + 3, locals := ls, stack := .ref T.heap.size :: rest, locked := none }) _
  jvm_step X₁.here [X₁.here.top, hexec, d3', Value.category]
  exact hsteps
/-- 'throw new E("text")': new; dup; ldc; invokespecial; athrow -/
theorem vx_throwS {cc : ByteArray} {pc : Nat} (hexec : p.tables.exec = Jvm.exec) (hb : c.code = cc) (hl : l.stackTraces = false) {own cls text : String} {names : List String} {ik is ic mc ms sa : Nat} {A : Nat → Prop}
    (hown : s.vm.findClass own = some m.cls) (hcls : Bundle.fit cls = true) (hnames : ∀ n ∈ names, Bundle.fit n = true)
    (hk : (Cond.classLink own ik cls).before args s = true) (hini : (Cond.initialized cls).before args s = true) (hstr : vk_R own is text sa s) (hat : ∀ w ∈ vx_atS own ic cls names, w.before args s = true)
    (hgood : ∀ w ∈ Cond.classLink own ik cls :: Cond.initialized cls :: vx_atS own ic cls names, vx_ot w = true)
    (hU : vx_Zq Bundle.tN "UNASSIGNED_STACK" Bundle.steD A s s.heap) (hN : vx_Zq Bundle.tN "SUPPRESSED_SENTINEL" Bundle.listD A s s.heap) (hS : va_S A s.heap H locs) (hsize : ls.size = c.maxLocals)
    (d0 : decode cc pc = .ok (.new ik, 3)) (d3 : decode cc (pc + 3) = .ok (.dup, 1)) (d4 : decode cc (pc + 4) = .ok (.ldc is, 2)) (d6 : decode cc (pc + 6) = .ok (.invokespecial ic, 3)) (d9 : decode cc (pc + 9) = .ok (.athrow, 1))
    (hout : ∀ x ∈ c.exceptionTable.toList, covers x (pc + 9) = false)
    (hRframes : names.length + 3 < R.frames) (hRlocals : (rest.map fun v => v.category).sum + (13 * (names.length + 1) + 43) ≤ R.locals) (hRcells : cells + 1 ≤ R.cells) (hRslots : slots + 6 ≤ R.slots) (hlocks : meth.locks = false)
    (hx : ∀ t : State, s.vm.Alike t.vm → H.size ≤ t.heap.size → (∀ q : Nat, q < H.size → t.heap[q]? = H[q]?) → XC cls s t)
    (hf : ∀ z ∈ locs, free z.base) (hc : cells + 1 ≤ mc) (hs : slots + 6 ≤ ms) :
    W p l e R s m args below meth c H locs cells slots (vx_MQ below Qc XC args s mc ms free) (F0 m pc ls rest) := by
  intro T hT X
  have htr : e.platform.stackTraces = false := (show e.platform.stackTraces = l.stackTraces by rw [X.admits.platform]).trans hl
  have Y := vx_rebase X (R' := { frames := R.frames, locals := R.locals, cells := 1, slots := 6 }) (Nat.le_refl _) (Nat.le_refl _) hRcells hRslots
  obtain ⟨s', hA⟩ : ∃ z, z = (T.setVm s.vm).setFrames (.invoking m args :: below) := ⟨_, rfl⟩
  rw [← hA] at Y
  have hvm : s'.vm = s.vm := by rw [hA]; rfl
  have hhp : s'.heap = H := by rw [hA]; exact hT
  have hW0 : s.WarmedH s'.vm := by rw [hvm]; exact State.WarmedH.refl s
  have hat' : ∀ w ∈ vx_atS own ic cls names, w.before args s' = true := fun w hw => vx_ot_at hW0 hvm.symm (hgood w (List.mem_cons_of_mem _ (List.mem_cons_of_mem _ hw))) (hat w hw)
  have hk' : (Cond.classLink own ik cls).before args s' = true := vx_ot_at hW0 hvm.symm (hgood _ List.mem_cons_self) hk
  have hini' : (Cond.initialized cls).before args s' = true := vx_ot_at hW0 hvm.symm (hgood _ (List.mem_cons_of_mem _ List.mem_cons_self)) hini
  have hU' : vx_Zq Bundle.tN "UNASSIGNED_STACK" Bundle.steD A s' s'.heap := by rw [hhp]; exact vx_Zq.moved hW0.alike (hU.kept hS.2.1)
  have hN' : vx_Zq Bundle.tN "SUPPRESSED_SENTINEL" Bundle.listD A s' s'.heap := by rw [hhp]; exact vx_Zq.moved hW0.alike (hN.kept hS.2.1)
  have h : ∀ w ∈ Bundle.ownAtoms own ic cls names, w.before args s' = true := vx_own hat' (vx_isRefq hU'.1) (vx_isRefq hN'.1) hU'.2.word hN'.2.word
  have hown' : s'.vm.findClass own = some m.cls := by rw [hvm]; exact hown
  have hins : (Cond.instantiable cls 6).before args s' = true := h _ (by simp [Bundle.ownAtoms])
  obtain ⟨vm₁, cX, kX, hfX, hkX, -, -, X₁, st1⟩ := Y.newCold hexec (own := own) (C := cls) (index := ik) (n := 6) hown' hk' hins hini'
    (g := F0 m pc ls rest) rfl (by rw [hb]; exact d0) (Nat.le_refl _) (Nat.le_refl _)
  generalize hT1 : (T.setVm vm₁).pushCell { cls := cX, slots := kX.instanceTypes.map defaultValue, vm := .none } = T1 at X₁ st1
  have hcat : (Value.ref T.heap.size).category = 1 := rfl
  have hcellA : T1.heap[T.heap.size]? = some (freshCell cX kX) := by rw [← hT1]; exact State.heap_pushCell_size _ _
  have d3' : decode c.code (pc + 3) = .ok (.dup, 1) := by rw [hb]; exact d3
  have d4' : decode c.code (pc + 4) = .ok (.ldc is, 2) := by rw [hb]; exact d4
  have hstr' : vk_R own is text sa s' := vk_R.warm hW0 hstr
  obtain ⟨U, hsteps, hrun, hend, hW, hsame, ce, hce, hO⟩ := X₁.ctorThrowS hexec htr (own := own) (cls := cls) (names := names) (ic := ic) hown' hcls hnames h (fun x hx => nomatch hx) hfX hkX hcellA (by rw [hhp, hT]; exact Nat.le_refl _) (msg := .ref sa) rfl
    (g := { method := m, pc := pc + 6, locals := ls, stack := .ref sa :: .ref T.heap.size :: .ref T.heap.size :: rest, locked := none }) rfl hsize rfl rfl (rest := rest) rfl
    (by rw [hb]; exact d6) (by rw [hb]; exact d9) hout hRframes (by simp only [List.map_cons, List.sum_cons, hcat]; omega) hlocks
  obtain ⟨f1, f2⟩ := vx_frame hsame
  rw [hhp] at f1 f2
  have hWs : s.WarmedH U.vm := State.WarmedH.trans hW0 hW
  have hcl : s.vm.findClass cls = some ce.cls := by
    have h9 := hO.cls
    rw [hvm] at h9
    exact h9
  have hall : s.sameButNew ({ U with vm := s.vm } : State) locs mc ms := by
    subst hA
    obtain ⟨e1, e2⟩ := hsame
    rw [State.setFrames_setFrames] at e1
    have h2 : (T.setVm s.vm).sameButNew ({ U with vm := s.vm } : State) [] (0 + 1) (0 + 6) := ⟨e1, e2⟩
    have h3 := X.same.trans h2
    rw [List.append_nil] at h3
    exact h3.mono hc hs
  refine ⟨U, ?_, .threw T.heap.size, hrun, hend, Or.inr ⟨T.heap.size, rfl, cls, ce, locs, hx U hWs.alike f1 (fun q hq => f2 q hq (fun z hz => nomatch hz)), hce, hO.vm, hcl, hWs, hall, hf⟩⟩
  refine st1 _ ?_
  show Steps p.tables e below (T1.setTop { method := m, pc := pc + 3, locals := ls, stack := .ref T.heap.size :: rest, locked := none }) _
  jvm_step X₁.here [X₁.here.top, hexec, d3', Value.category]
  exact X₁.ldcString hexec (own := own) (text := text) (index := is) (a := sa) hown' hstr'.1 hstr'.2
    (g := { method := m, pc := pc + 4, locals := ls, stack := .ref T.heap.size :: .ref T.heap.size :: rest, locked := none }) rfl d4' _ hsteps
/-- 'throw new E("text")', the text by a wide index -/
theorem vx_throwSW {cc : ByteArray} {pc : Nat} (hexec : p.tables.exec = Jvm.exec) (hb : c.code = cc) (hl : l.stackTraces = false) {own cls text : String} {names : List String} {ik is ic mc ms sa : Nat} {A : Nat → Prop}
    (hown : s.vm.findClass own = some m.cls) (hcls : Bundle.fit cls = true) (hnames : ∀ n ∈ names, Bundle.fit n = true)
    (hk : (Cond.classLink own ik cls).before args s = true) (hini : (Cond.initialized cls).before args s = true) (hstr : vk_R own is text sa s) (hat : ∀ w ∈ vx_atS own ic cls names, w.before args s = true)
    (hgood : ∀ w ∈ Cond.classLink own ik cls :: Cond.initialized cls :: vx_atS own ic cls names, vx_ot w = true)
    (hU : vx_Zq Bundle.tN "UNASSIGNED_STACK" Bundle.steD A s s.heap) (hN : vx_Zq Bundle.tN "SUPPRESSED_SENTINEL" Bundle.listD A s s.heap) (hS : va_S A s.heap H locs) (hsize : ls.size = c.maxLocals)
    (d0 : decode cc pc = .ok (.new ik, 3)) (d3 : decode cc (pc + 3) = .ok (.dup, 1)) (d4 : decode cc (pc + 4) = .ok (.ldc_w is, 3)) (d7 : decode cc (pc + 7) = .ok (.invokespecial ic, 3)) (d10 : decode cc (pc + 10) = .ok (.athrow, 1))
    (hout : ∀ x ∈ c.exceptionTable.toList, covers x (pc + 10) = false)
    (hRframes : names.length + 3 < R.frames) (hRlocals : (rest.map fun v => v.category).sum + (13 * (names.length + 1) + 43) ≤ R.locals) (hRcells : cells + 1 ≤ R.cells) (hRslots : slots + 6 ≤ R.slots) (hlocks : meth.locks = false)
    (hx : ∀ t : State, s.vm.Alike t.vm → H.size ≤ t.heap.size → (∀ q : Nat, q < H.size → t.heap[q]? = H[q]?) → XC cls s t)
    (hf : ∀ z ∈ locs, free z.base) (hc : cells + 1 ≤ mc) (hs : slots + 6 ≤ ms) :
    W p l e R s m args below meth c H locs cells slots (vx_MQ below Qc XC args s mc ms free) (F0 m pc ls rest) := by
  intro T hT X
  have htr : e.platform.stackTraces = false := (show e.platform.stackTraces = l.stackTraces by rw [X.admits.platform]).trans hl
  have Y := vx_rebase X (R' := { frames := R.frames, locals := R.locals, cells := 1, slots := 6 }) (Nat.le_refl _) (Nat.le_refl _) hRcells hRslots
  obtain ⟨s', hA⟩ : ∃ z, z = (T.setVm s.vm).setFrames (.invoking m args :: below) := ⟨_, rfl⟩
  rw [← hA] at Y
  have hvm : s'.vm = s.vm := by rw [hA]; rfl
  have hhp : s'.heap = H := by rw [hA]; exact hT
  have hW0 : s.WarmedH s'.vm := by rw [hvm]; exact State.WarmedH.refl s
  have hat' : ∀ w ∈ vx_atS own ic cls names, w.before args s' = true := fun w hw => vx_ot_at hW0 hvm.symm (hgood w (List.mem_cons_of_mem _ (List.mem_cons_of_mem _ hw))) (hat w hw)
  have hk' : (Cond.classLink own ik cls).before args s' = true := vx_ot_at hW0 hvm.symm (hgood _ List.mem_cons_self) hk
  have hini' : (Cond.initialized cls).before args s' = true := vx_ot_at hW0 hvm.symm (hgood _ (List.mem_cons_of_mem _ List.mem_cons_self)) hini
  have hU' : vx_Zq Bundle.tN "UNASSIGNED_STACK" Bundle.steD A s' s'.heap := by rw [hhp]; exact vx_Zq.moved hW0.alike (hU.kept hS.2.1)
  have hN' : vx_Zq Bundle.tN "SUPPRESSED_SENTINEL" Bundle.listD A s' s'.heap := by rw [hhp]; exact vx_Zq.moved hW0.alike (hN.kept hS.2.1)
  have h : ∀ w ∈ Bundle.ownAtoms own ic cls names, w.before args s' = true := vx_own hat' (vx_isRefq hU'.1) (vx_isRefq hN'.1) hU'.2.word hN'.2.word
  have hown' : s'.vm.findClass own = some m.cls := by rw [hvm]; exact hown
  have hins : (Cond.instantiable cls 6).before args s' = true := h _ (by simp [Bundle.ownAtoms])
  obtain ⟨vm₁, cX, kX, hfX, hkX, -, -, X₁, st1⟩ := Y.newCold hexec (own := own) (C := cls) (index := ik) (n := 6) hown' hk' hins hini'
    (g := F0 m pc ls rest) rfl (by rw [hb]; exact d0) (Nat.le_refl _) (Nat.le_refl _)
  generalize hT1 : (T.setVm vm₁).pushCell { cls := cX, slots := kX.instanceTypes.map defaultValue, vm := .none } = T1 at X₁ st1
  have hcat : (Value.ref T.heap.size).category = 1 := rfl
  have hcellA : T1.heap[T.heap.size]? = some (freshCell cX kX) := by rw [← hT1]; exact State.heap_pushCell_size _ _
  have d3' : decode c.code (pc + 3) = .ok (.dup, 1) := by rw [hb]; exact d3
  have d4' : decode c.code (pc + 4) = .ok (.ldc_w is, 3) := by rw [hb]; exact d4
  have hstr' : vk_R own is text sa s' := vk_R.warm hW0 hstr
  obtain ⟨U, hsteps, hrun, hend, hW, hsame, ce, hce, hO⟩ := X₁.ctorThrowS hexec htr (own := own) (cls := cls) (names := names) (ic := ic) hown' hcls hnames h (fun x hx => nomatch hx) hfX hkX hcellA (by rw [hhp, hT]; exact Nat.le_refl _) (msg := .ref sa) rfl
    (g := { method := m, pc := pc + 7, locals := ls, stack := .ref sa :: .ref T.heap.size :: .ref T.heap.size :: rest, locked := none }) rfl hsize rfl rfl (rest := rest) rfl
    (by rw [hb]; exact d7) (by rw [hb]; exact d10) hout hRframes (by simp only [List.map_cons, List.sum_cons, hcat]; omega) hlocks
  obtain ⟨f1, f2⟩ := vx_frame hsame
  rw [hhp] at f1 f2
  have hWs : s.WarmedH U.vm := State.WarmedH.trans hW0 hW
  have hcl : s.vm.findClass cls = some ce.cls := by
    have h9 := hO.cls
    rw [hvm] at h9
    exact h9
  have hall : s.sameButNew ({ U with vm := s.vm } : State) locs mc ms := by
    subst hA
    obtain ⟨e1, e2⟩ := hsame
    rw [State.setFrames_setFrames] at e1
    have h2 : (T.setVm s.vm).sameButNew ({ U with vm := s.vm } : State) [] (0 + 1) (0 + 6) := ⟨e1, e2⟩
    have h3 := X.same.trans h2
    rw [List.append_nil] at h3
    exact h3.mono hc hs
  refine ⟨U, ?_, .threw T.heap.size, hrun, hend, Or.inr ⟨T.heap.size, rfl, cls, ce, locs, hx U hWs.alike f1 (fun q hq => f2 q hq (fun z hz => nomatch hz)), hce, hO.vm, hcl, hWs, hall, hf⟩⟩
  refine st1 _ ?_
  show Steps p.tables e below (T1.setTop { method := m, pc := pc + 3, locals := ls, stack := .ref T.heap.size :: rest, locked := none }) _
  jvm_step X₁.here [X₁.here.top, hexec, d3', Value.category]
  exact X₁.ldcStringW hexec (own := own) (text := text) (index := is) (a := sa) hown' hstr'.1 hstr'.2
    (g := { method := m, pc := pc + 4, locals := ls, stack := .ref T.heap.size :: .ref T.heap.size :: rest, locked := none }) rfl d4' _ hsteps
end Ends
section Bodies
variable {l : Launch}
theorem vx_ofW {y : MethodName} {ws ws' : List Cond} {rm : Room} {Pc : Array Value → State → Prop} {Qc : Array Value → State → Outcome → State → Prop} {XC : String → State → State → Prop} {mc ms : Nat} {free : Addr → Prop} {cc : ByteArray} {maxL : Nat} {ret : Option FieldType}
    (hy : plainName y.cls = true) (hw : ws = Cond.code y cc maxL ret :: ws')
    (body : ∀ p e s m args below meth c s₁, BodyLoose p l y (headSpec ws rm) cc maxL ret e s m args below meth c s₁ → c.maxLocals = maxL → (∀ x ∈ c.exceptionTable.toList, False) → Pc args s →
      W p l e (headSpec ws rm).room s m args below meth c s.heap [] 0 0 (vx_MQ below Qc XC args s mc ms free) (entryFrame m args maxL)) : vx_Met l y ws rm Pc Qc XC mc ms free := by
  refine MetFree.of_bodyS (code := cc) (maxLocals := maxL) (ret := ret) hy ?_ ?_
  · intro args s m h hn
    obtain ⟨meth, c, h1, h2, h3, h4, h5, h6, -, -⟩ := Cond.code_spec hn (atoms_spec (ws := ws) h _ (by rw [hw]; exact List.mem_cons_self))
    exact ⟨meth, c, h1, h2, h3, h4, h5, h6⟩
  · intro p e s m args below meth c s₁ B hml hP _
    have hh0 : s₁.heap = s.heap := by rw [B.state]; rfl
    have ht : ∀ x ∈ c.exceptionTable.toList, False := by
      obtain ⟨meth9, c9, h1, h2, -, -, -, -, h7, -⟩ := Cond.code_spec B.named (atoms_spec (ws := ws) B.pre _ (by rw [hw]; exact List.mem_cons_self))
      cases Option.some.inj (h1.symm.trans B.method)
      cases Option.some.inj (h2.symm.trans (Stand.of_body B).code)
      intro x hx
      rw [Array.isEmpty_iff.mp h7] at hx
      cases hx
    obtain ⟨t, a1, o, b1, b2, b3⟩ := body p e s m args below meth c s₁ B hml ht hP s₁ hh0 (Stand.of_body B)
    exact ⟨t, o, a1, b1, b2, b3⟩
/-- the table of a body with handlers -/
theorem vx_table {p : Program} {x y : MethodName} {S : Spec} {cc bytes : ByteArray} {maxL maxL' : Nat} {ret ret' : Option FieldType} {e : Env} {s s₁ : State} {m : MethodId} {args : Array Value} {below : List Frame} {meth : Method} {c : Code} {hh : List (Nat × Nat × Nat × Nat)}
    (B : BodyLoose p l y S cc maxL ret e s m args below meth c s₁) (h : (Cond.codeWith y bytes maxL' ret' hh).before args s = true) : c.exceptionTable.toList = tableOf hh := by
  obtain ⟨m9, meth9, c9, hn9, h1, h2, -, -, h6, -⟩ := Cond.codeWith_spec h
  cases Option.some.inj (hn9.symm.trans B.named)
  cases Option.some.inj (h1.symm.trans B.method)
  cases Option.some.inj (h2.symm.trans (Stand.of_body B).code)
  rw [← h6, table_eq]
end Bodies
end VXA
/-! ===== END ===== -/
/-! ===== BEGIN a static call of a method with an exception table ===== -/
section VXS
variable {p : Program} {l : Launch} {e : Env} {R : Room} {s : State} {m : MethodId} {args : Array Value} {below : List Frame} {meth : Method} {c : Code} {T : State} {H : Heap} {locs : List Loc} {cells slots : Nat}
abbrev vx_CSW (R : Room) (s : State) (args : Array Value) (own : String) (index : Nat) (y : MethodName) (bytes : ByteArray) (maxL : Nat) (ret : Option FieldType) (hh : List (Nat × Nat × Nat × Nat)) (ws : List Cond) (rm : Room) (mc ms n : Nat) : Prop :=
  (rm.cells = mc ∧ rm.slots = ms ∧ rm.frames + 1 ≤ R.frames ∧ 8 + (maxL + 11) + rm.locals ≤ R.locals ∧ (∀ w ∈ ws, ∀ (a' : Array Value) (U : State), s.WarmedH U.vm → w.before a' U = true) ∧ Cond.codeWith y bytes maxL ret hh ∈ ws) ∧
  (Cond.codeWith y bytes maxL ret hh).before args s = true ∧ (Cond.initialized y.cls).before args s = true ∧ (y.cls ≠ "java/lang/invoke/MethodHandle" ∧ y.cls ≠ "java/lang/invoke/VarHandle") ∧
  (∀ sig, parseMethodDescriptor y.desc = some sig → n = sig.parameters.length) ∧ (Cond.methodLink own index y).before args s = true ∧ (Cond.static y).before args s = true
theorem vx_cwSW {own : String} {index maxL mc ms : Nat} {y : MethodName} {bytes : ByteArray} {ret : Option FieldType} {hh : List (Nat × Nat × Nat × Nat)} {Ts ws ws' : List Cond} {rm : Room} (n : Nat) (ht : ∀ w ∈ Ts, w.before args s = true) (hT : GoodIn Ts (va_wsS own index y ws)) (hw : ws = Cond.codeWith y bytes maxL ret hh :: ws') (hrc : rm.cells = mc) (hrs : rm.slots = ms)
    (hd : y.cls ≠ "java/lang/invoke/MethodHandle" ∧ y.cls ≠ "java/lang/invoke/VarHandle" ∧ (parseMethodDescriptor y.desc).map (fun d => d.parameters.length) = some n) (hR : rm.frames + 1 ≤ R.frames ∧ 8 + (maxL + 11) + rm.locals ≤ R.locals) :
    vx_CSW R s args own index y bytes maxL ret hh ws rm mc ms n := by
  have ok : ∀ w ∈ va_wsS own index y ws, w.before args s = true := fun w h => ht w (hT w h).1
  have hG : GoodIn Ts ws := fun w h => hT w (by unfold va_wsS; exact List.mem_append_right _ h)
  have hc : Cond.codeWith y bytes maxL ret hh ∈ ws := by rw [hw]; exact List.mem_cons_self
  refine ⟨⟨hrc, hrs, hR.1, hR.2, pay_in ht hG, hc⟩, ht _ (hG _ hc).1, ok _ (by simp [va_wsS]), ⟨hd.1, hd.2.1⟩, fun sig h => ?_, ok _ (by simp [va_wsS]), ok _ (by simp [va_wsS])⟩
  have h2 := hd.2.2
  rw [h] at h2
  exact (Option.some.inj h2).symm
theorem vx_callSW (X : Stand p l e R s m args below meth c T locs cells slots) (hexec : p.tables.exec = Jvm.exec) {own : String} {index : Nat} {y : MethodName} {bytes : ByteArray} {maxL : Nat} {ret : Option FieldType} {hh : List (Nat × Nat × Nat × Nat)}
    (hown : s.vm.findClass own = some m.cls) (hlink : (Cond.methodLink own index y).before args s = true) (hstat : (Cond.static y).before args s = true) (hinit : (Cond.initialized y.cls).before args s = true)
    (hcode : (Cond.codeWith y bytes maxL ret hh).before args s = true) (hy : y.cls ≠ "java/lang/invoke/MethodHandle" ∧ y.cls ≠ "java/lang/invoke/VarHandle")
    {W9 : Nat} {Pre : Pt → Array Value → Prop} {Post : Pt → Array Value → Option Value → Pt → Prop} (hK : Back l R p e below s args y 3 W9 Pre Post)
    {g : JFrame} (hg : g.method = m) (hsize : g.locals.size = c.maxLocals) {argsL rest : List Value} (hlen : ∀ sig, parseMethodDescriptor y.desc = some sig → argsL.length = sig.parameters.length)
    (hstack : g.stack = argsL.reverse ++ rest) (hW : 2 * g.monitorRoom + (rest.map fun v => v.category).sum ≤ W9) (hdg : decode c.code g.pc = .ok (.invokestatic index, 3))
    (hpre : ∀ vm₁, s.WarmedH vm₁ → Pre ⟨T.setVm vm₁, locs, cells, slots⟩ argsL.toArray) :
    ∃ (v : Option Value) (vm₁ : Vm) (B : Pt), s.WarmedH vm₁ ∧ Stand p l e R s m args below meth c B.U B.locs B.cells B.slots ∧ Post ⟨T.setVm vm₁, locs, cells, slots⟩ argsL.toArray v B ∧
      ∀ target, Steps p.tables e below (B.U.setTop { g with pc := g.pc + 3, stack := v.toList ++ rest }) target → Steps p.tables e below (T.setTop g) target := by
  obtain ⟨mk, methM, cM, hnamed, hmethM, -, -, -, -, -, -, hsigM⟩ := Cond.codeWith_spec hcode
  have hstatic : methM.isStatic = true := Cond.static_spec hnamed hmethM hstat
  obtain ⟨kP, hkP, -⟩ := className_of_methodNamed hnamed
  have hinitP : kP.init = .initialized := Cond.initialized_spec (findClass_of_methodNamed hnamed) hkP hinit
  obtain ⟨vm₁, X₁, hstep₁⟩ := X.invokestatic hexec hown hlink hnamed hmethM hstatic hkP hinitP hy (g := g) hg (argsL := argsL) (rest := rest) (hlen _ hsigM) hstack hdg
  obtain ⟨v, B, X', hpost, hsteps⟩ := hK m meth c ⟨T.setVm vm₁, locs, cells, slots⟩ { g with stack := rest } (.invokestatic index) mk argsL.toArray X₁ hg hsize hdg hW (X₁.named hnamed) (hpre vm₁ X₁.warmed)
  exact ⟨v, vm₁, B, X₁.warmed, X', hpost, fun target h => hstep₁ _ fun acts => by rw [doInvoke_state]; exact hsteps.trans h⟩
theorem vx_runSW {y : MethodName} {bytes cc : ByteArray} {maxL nL mc ms n index : Nat} {ret : Option FieldType} {hh : List (Nat × Nat × Nat × Nat)} {ws : List Cond} {rm : Room} {Pc : Array Value → State → Prop} {Qc : Array Value → State → Outcome → State → Prop} {free : Addr → Prop} {Ts : List Cond} {own : String} {As rest : List Value} {g : JFrame}
    (S : CallFix p m c cc nL s args Ts own) (hM : Met l y ws rm Pc Qc mc ms free) (cw : vx_CSW R s args own index y bytes maxL ret hh ws rm mc ms n) (hp : PreS s H Pc As)
    (hg : g.method = m) (hn : As.length = n) (hsize : g.locals.size = nL) (hstack : g.stack = As.reverse ++ rest) (hW : 2 * g.monitorRoom + (rest.map fun v => v.category).sum ≤ 8) (hdg : decode cc g.pc = .ok (.invokestatic index, 3)) (hf : cells + mc ≤ R.cells ∧ slots + ms ≤ R.slots) :
    va_Run p l e R s m args below meth c H locs cells slots mc ms g rest (Qc As.toArray) (free) := by
  obtain ⟨⟨hrc, hrs, hfr, hlo, hws, hcw⟩, hcode, hini, hy, hlen, hl, hstt⟩ := cw
  have hK : Back l R p e below s args y 3 8 (PreOf R mc ms Pc) (PostOf Qc mc ms free) := va_backW (hh := hh) (bytes := bytes) (maxL := maxL) (ret := ret) hM hp.1 hrc hrs hfr hlo hws hcw (fun a' U hW => word_at hW (Or.inl (by first | rfl | simp [Cond.onTables, Cond.keeps, Cond.steady])) hini)
  obtain ⟨hx, hb, hml, ho, -⟩ := S
  intro T hT X
  obtain ⟨v, vm₁, ⟨U', l2, c2, s2⟩, hW₁, X', ⟨g', mk, t, L, e1, e2, hq, h1, hL, h2, h3⟩, st⟩ := vx_callSW X hx (hh := hh) (bytes := bytes) (maxL := maxL) (ret := ret) ho hl hstt hini hcode hy hK hg (hsize.trans hml.symm) (argsL := As) (rest := rest) (fun sig h => hn.trans (hlen sig h)) hstack hW (by rw [hb]; exact hdg)
    (fun vm₁ hW₁ => ⟨hf.1, hf.2, hp.2 (T.setVm vm₁) hT hW₁⟩)
  dsimp only [Pt.U, Pt.locs, Pt.cells, Pt.slots] at X' e1 e2 h1 h2 h3 st
  subst h1; subst h2; subst h3
  exact ⟨v, (T.setVm vm₁).calling g' mk As.toArray, t, U', L, hT, X', hL, e1, e2, hq, st⟩
/-- not caught here, past rows that name other classes: it goes on to the caller -/
theorem vx_outP {p : Program} {l : Launch} {e : Env} {R : Room} {s : State} {m : MethodId} {args : Array Value} {below : List Frame} {meth : Method} {c : Code} {H : Heap} {locs : List Loc} {cells slots : Nat} {free : Addr → Prop} {ls : Array Slot} {rest : List Value} {Qc : Array Value → State → Outcome → State → Prop} {XC : String → State → State → Prop}
    {pc : Nat} {own E : String} {ce : Cell} {q : Addr} {mc ms : Nat} (hown : s.vm.findClass own = some m.cls) (hlocks : meth.locks = false)
    (hpass : ∀ z ∈ c.exceptionTable.toList, covers z pc = false ∨ (z.catchType ≠ 0 ∧ ∃ nm : String, (Cond.classLink own z.catchType nm).before args s = true ∧ va_Nc E nm s)) (hcell : H[q]? = some ce) (hv : ce.vm = .none) (hcl : s.vm.findClass E = some ce.cls)
    (hx : ∀ t : State, t.heap = H → s.vm.Alike t.vm → XC E s t) (hf : ∀ z ∈ locs, free z.base) (hc : cells ≤ mc) (hs : slots ≤ ms) :
    vx_W p l e R s m args below meth c H locs cells slots (vx_MQ below Qc XC args s mc ms free) (F0 m pc ls rest) q := by
  intro T hT X
  have hpl : e.platform.magicAccessors = ({} : Platform).magicAccessors := by rw [X.admits.platform]
  obtain ⟨vm', hW', X', st⟩ := X.outThrough hlocks q (g := F0 m pc ls rest) rfl rfl rfl (cell := ce) (by rw [hT]; exact hcell) (by rw [hv]; rfl)
    (by obtain ⟨k9, h9, -⟩ := Vm.findClass_spec hcl; exact ⟨k9, h9⟩) (fun z hz => by
      rcases hpass z hz with h | ⟨hz0, nm, hl1, hn1⟩
      · exact Or.inl h
      · obtain ⟨c6, hc6, hcl6⟩ := Cond.classLink_spec hown hl1 e.platform hpl
        obtain ⟨a8, b8, h1, h2, h3⟩ := hn1
        cases Option.some.inj (h1.symm.trans hcl)
        cases Option.some.inj (h2.symm.trans hc6)
        exact Or.inr ⟨hz0, _, hcl6, h3⟩)
  obtain ⟨g₀, hfr⟩ := X'.frames_eq
  have hcell9 : ((T.setVm vm').setFrames (.throwing q :: below)).heap[q]? = some ce := by
    show T.heap[q]? = some ce
    rw [hT]; exact hcell
  have hend : Ended ((T.setVm vm').setFrames (.throwing q :: below)) below (.threw q) := State.frames_setFrames _ (State.cur_lt_of_frames hfr)
  refine ⟨(T.setVm vm').setFrames (.throwing q :: below), ?_, .threw q, X'.here.running, hend, Or.inr ⟨q, rfl, E, ce, locs, hx _ hT (X'.ends _).1.alike, hcell9, hv, hcl, (X'.ends _).1, (X'.ends _).2.mono hc hs, hf⟩⟩
  rw [X.pushThrowing_eq]
  exact st
/-- a thing of a world lies in the heap -/
theorem vx_lt {D : va_G} {cl : List vw_C} {ws : va_W} {H1 : Heap} (h : va_P D cl ws H1) {k : Nat} {q : Nat × va_E} (hk : ws[k]? = some q) : q.1 < H1.size := (h k q hk).lt
end VXS
/-! ===== END ===== -/
/-! ===== BEGIN methods with a table of their own: called by a name, returning or throwing ===== -/
section VXH
/-! vx_backW, vx_callVX, vx_callSX, vx_callVW, vx_runVW, vx_runVX, vx_runSX, vx_ofWH follow the same proofs as their sisters above (Free/Laws.lean, Shelf42/LK1.lean); vx_outP calls Shelf42/NT130.lean (outThrough). -/
section
variable {l : Launch} {R : Room} {p : Program} {e : Env} {below : List Frame} {s : State} {sargs : Array Value} {y : MethodName} {len W9 : Nat}
theorem vx_backW {ws : List Cond} {rm : Room} {Pc : Array Value → State → Prop} {Qc : Array Value → State → Outcome → State → Prop} {XC : String → State → State → Prop} {mc ms : Nat} {free : Addr → Prop} {bytes : ByteArray} {maxL : Nat} {ret : Option FieldType} {hh : List (Nat × Nat × Nat × Nat)}
    (hM : vx_Met l y ws rm Pc Qc XC mc ms free) (hblind : FrameBlind Pc) (hrc : rm.cells = mc) (hrs : rm.slots = ms)
    (hframes : rm.frames + 1 ≤ R.frames) (hlocals : W9 + (maxL + 11) + rm.locals ≤ R.locals)
    (hws : ∀ w ∈ ws, ∀ a' U, s.WarmedH U.vm → w.before a' U = true) (hcode : Cond.codeWith y bytes maxL ret hh ∈ ws) (hinit : ∀ a' U, s.WarmedH U.vm → (Cond.initialized y.cls).before a' U = true) :
    vx_Back l R p e below s sargs y len W9 (PreOf R mc ms Pc) (PostOf Qc mc ms free) (vx_Post XC mc ms free) := by
  intro m meth c A g ig mk a X hg hsize hdg hW hn hp
  have h1 : (headSpec ws rm).pre.before a A.U = true := atoms_intro fun w hw => hws w hw _ _ X.warmed
  have h2 : (Cond.codeWith y bytes maxL ret hh).before a A.U = true := hws _ hcode _ _ X.warmed
  have h3 : (Cond.initialized y.cls).before a A.U = true := hinit _ _ X.warmed
  have h4 : A.cells + (headSpec ws rm).room.cells ≤ R.cells := by rw [show (headSpec ws rm).room.cells = mc from hrc]; exact hp.1
  have h5 : A.slots + (headSpec ws rm).room.slots ≤ R.slots := by rw [show (headSpec ws rm).room.slots = ms from hrs]; exact hp.2.1
  have hPc : Pc a (A.U.calling g mk a) := hblind _ _ _ _ hp.2.2
  obtain ⟨U, Ls, c0, s0⟩ := A
  dsimp only [Pt.U, Pt.locs, Pt.cells, Pt.slots] at h1 h2 h3 h4 h5 X hn hPc ⊢
  obtain ⟨m9, methY, cY, hn9, hmY, hcY, -, hlY, -⟩ := Cond.codeWith_spec h2
  cases Option.some.inj (hn9.symm.trans hn)
  obtain ⟨kY, hkY, -⟩ := className_of_methodNamed hn
  have hinitY : kY.init = .initialized := Cond.initialized_spec (findClass_of_methodNamed hn) hkY h3
  have h : At U g.method c below := by rw [hg]; exact X.here
  have hlocals9 : W9 + (maxL + 11) + (headSpec ws rm).room.locals ≤ R.locals := hlocals
  have happ : (headSpec ws rm).appliesLoose y e.platform (U.calling g mk a) = true :=
    Spec.appliesLoose_calling (g := g) h hdg hn hkY hinitY
      (X.room_calling (g := g) (R' := (headSpec ws rm).room) hsize hmY hcY hframes (by rw [hlY]; omega) h4 h5) h1
  obtain ⟨mid, hmid⟩ := h.above
  have hfr : (U.setTop g).frames = (.java g :: mid) ++ below := by rw [State.frames_setTop' g h.top, hmid]; rfl
  obtain ⟨o, s₂, hsteps, -, hend, hq⟩ := Steps.callFree hM p X.admits X.cas X.clock (acts := []) hfr happ hPc trivial
  have hq' : vx_Q Qc XC mc ms free a (U.calling g mk a) o s₂ := hq
  rw [State.frames_setTop' g h.top] at hend
  obtain ⟨g₀, hg0⟩ := Option.isSome_iff_exists.mp h.top
  obtain ⟨r, hr⟩ := State.topJava?_eq_some.mp hg0
  have hr' : (({ U with heap := s₂.heap, slotsUsed := s₂.slotsUsed } : State).setVm s₂.vm).frames = .java g₀ :: r := hr
  rcases hq' with ⟨hqc, L, hfe, hL⟩ | ⟨q, rfl, E, ce, L, hx, hce, hcv, hcl, hW₂, hsm, hL⟩
  · obtain ⟨⟨v, rfl⟩, hW₂, e2, q2, q3, q4, q5, q6⟩ := id hfe
    have e3 : s₂ = ({ (U.calling g mk a).setFrames s₂.frames with heap := s₂.heap, slotsUsed := s₂.slotsUsed } : State).setVm s₂.vm := by
      have : s₂ = ({ s₂ with vm := (U.calling g mk a).vm } : State).setVm s₂.vm := rfl
      rw [e2] at this
      exact this
    obtain ⟨c₂, i₂, len₂, hc₂, hd₂, hf₂⟩ := hend
    have hW' : U.WarmedH s₂.vm := hW₂
    have hcc : c₂ = c := by
      have h1 : s₂.code? g.method = U.code? g.method := by
        rw [State.code?_eq, State.code?_eq, hW'.alike.method?]
      exact Option.some.inj (hc₂.symm.trans (h1.trans h.code))
    subst hcc
    have hlen : len₂ = len := by rw [hdg] at hd₂; cases hd₂; rfl
    subst hlen
    have hs₂ : s₂ = (({ U with heap := s₂.heap, slotsUsed := s₂.slotsUsed } : State).setVm s₂.vm).setTop { g with pc := g.pc + len₂, stack := v.toList ++ g.stack } := by
      refine e3.trans ?_
      rw [hf₂, State.calling_eq h.top, State.setFrames_setFrames, State.setTop_of_frames _ hr', hr]
      rfl
    have hsame : U.sameButNew ({ U with heap := s₂.heap, slotsUsed := s₂.slotsUsed } : State) L mc ms := by
      refine ⟨?_, q2, q3, q4, q5, q6⟩
      obtain ⟨t, ht, -⟩ := State.frames_cons hr
      show ({ U with heap := s₂.heap, slotsUsed := s₂.slotsUsed } : State) = { U.setFrames U.frames with heap := s₂.heap, slotsUsed := s₂.slotsUsed }
      rw [State.setFrames_self ht]
    subst hg
    refine Or.inl ⟨v, ⟨(({ U with heap := s₂.heap, slotsUsed := s₂.slotsUsed } : State).setVm s₂.vm), Ls ++ L, c0 + mc, s0 + ms⟩,
      ⟨X.admits, X.cas, X.clock, X.frames, X.room, X.hears, X.method, X.code, (X.here.setHeapUsed s₂.heap s₂.slotsUsed).setVm hW'.alike, X.tail, State.WarmedH.trans X.warmed hW', X.limits, X.bytes, X.same.trans (hsame.setVm s.vm)⟩,
      ⟨g, mk, s₂, L, rfl, rfl, hqc, rfl, hL, rfl, rfl⟩, ?_⟩
    show Steps p.tables e below _ ((({ U with heap := s₂.heap, slotsUsed := s₂.slotsUsed } : State).setVm s₂.vm).setTop { g with pc := g.pc + len₂, stack := v.toList ++ g.stack })
    rw [← hs₂]
    exact hsteps
  · obtain ⟨e2, q2, q3, q4, q5, q6⟩ := id hsm
    have e3 : s₂ = ({ (U.calling g mk a).setFrames s₂.frames with heap := s₂.heap, slotsUsed := s₂.slotsUsed } : State).setVm s₂.vm := by
      have : s₂ = ({ s₂ with vm := (U.calling g mk a).vm } : State).setVm s₂.vm := rfl
      rw [e2] at this
      exact this
    have hf₂ : s₂.frames = .throwing q :: .java g :: U.frames.tail := hend
    have hW' : U.WarmedH s₂.vm := hW₂
    have hs₂ : s₂ = ((({ U with heap := s₂.heap, slotsUsed := s₂.slotsUsed } : State).setVm s₂.vm).setTop g).pushFrame (.throwing q) := by
      refine e3.trans ?_
      rw [hf₂, State.calling_eq h.top, State.setFrames_setFrames, State.pushFrame, State.frames_setTop _ hr', State.setTop_of_frames _ hr', State.setFrames_setFrames, hr]
      rfl
    have hsame : U.sameButNew ({ U with heap := s₂.heap, slotsUsed := s₂.slotsUsed } : State) L mc ms := by
      refine ⟨?_, q2, q3, q4, q5, q6⟩
      obtain ⟨t, ht, -⟩ := State.frames_cons hr
      show ({ U with heap := s₂.heap, slotsUsed := s₂.slotsUsed } : State) = { U.setFrames U.frames with heap := s₂.heap, slotsUsed := s₂.slotsUsed }
      rw [State.setFrames_self ht]
    subst hg
    refine Or.inr ⟨q, ⟨(({ U with heap := s₂.heap, slotsUsed := s₂.slotsUsed } : State).setVm s₂.vm), Ls ++ L, c0 + mc, s0 + ms⟩,
      ⟨X.admits, X.cas, X.clock, X.frames, X.room, X.hears, X.method, X.code, (X.here.setHeapUsed s₂.heap s₂.slotsUsed).setVm hW'.alike, X.tail, State.WarmedH.trans X.warmed hW', X.limits, X.bytes, X.same.trans (hsame.setVm s.vm)⟩,
      ⟨g, mk, s₂, L, E, ce, rfl, rfl, hx, hce, hcv, hcl, rfl, hL, rfl, rfl⟩, ?_⟩
    show Steps p.tables e below _ (((({ U with heap := s₂.heap, slotsUsed := s₂.slotsUsed } : State).setVm s₂.vm).setTop g).pushFrame (.throwing q))
    rw [← hs₂]
    exact hsteps
end
variable {p : Program} {l : Launch} {e : Env} {R : Room} {s : State} {m : MethodId} {args : Array Value} {below : List Frame} {meth : Method} {c : Code} {T : State} {H : Heap} {locs : List Loc} {cells slots : Nat}
theorem vx_callVX (X : Stand p l e R s m args below meth c T locs cells slots) (hexec : p.tables.exec = Jvm.exec) {own C : String} {index : Nat} {y : MethodName} {bytes : ByteArray} {maxL : Nat} {ret : Option FieldType} {hh : List (Nat × Nat × Nat × Nat)}
    (hown : s.vm.findClass own = some m.cls) (hlink : (Cond.methodLink own index y).before args s = true) (hinst : (Cond.instanceMethod y).before args s = true) (hsel : (Cond.selects C y y).before args s = true)
    (hcode : (Cond.codeWith y bytes maxL ret hh).before args s = true) (hy : y.cls ≠ "java/lang/invoke/MethodHandle" ∧ y.cls ≠ "java/lang/invoke/VarHandle")
    {W9 : Nat} {Pre : Pt → Array Value → Prop} {Post : Pt → Array Value → Option Value → Pt → Prop} {PostX : Pt → Array Value → Addr → Pt → Prop} (hK : vx_Back l R p e below s args y 3 W9 Pre Post PostX)
    {b : Addr} {cellB : Cell} (hcell : T.heap[b]? = some cellB) (hobj : cellB.vm.isStatics = false) (hcls : s.vm.findClass C = some cellB.cls)
    {g : JFrame} (hg : g.method = m) (hsize : g.locals.size = c.maxLocals) {argsL rest : List Value} (hlen : ∀ sig, parseMethodDescriptor y.desc = some sig → argsL.length = sig.parameters.length)
    (hstack : g.stack = argsL.reverse ++ .ref b :: rest) (hW : 2 * g.monitorRoom + (rest.map fun v => v.category).sum ≤ W9) (hdg : decode c.code g.pc = .ok (.invokevirtual index, 3))
    (hpre : ∀ vm₁, s.WarmedH vm₁ → Pre ⟨T.setVm vm₁, locs, cells, slots⟩ (Value.ref b :: argsL).toArray) :
    (∃ (v : Option Value) (vm₁ : Vm) (B : Pt), s.WarmedH vm₁ ∧ Stand p l e R s m args below meth c B.U B.locs B.cells B.slots ∧ Post ⟨T.setVm vm₁, locs, cells, slots⟩ (Value.ref b :: argsL).toArray v B ∧
      ∀ target, Steps p.tables e below (B.U.setTop { g with pc := g.pc + 3, stack := v.toList ++ rest }) target → Steps p.tables e below (T.setTop g) target) ∨
    (∃ (q : Addr) (vm₁ : Vm) (B : Pt), s.WarmedH vm₁ ∧ Stand p l e R s m args below meth c B.U B.locs B.cells B.slots ∧ PostX ⟨T.setVm vm₁, locs, cells, slots⟩ (Value.ref b :: argsL).toArray q B ∧
      Steps p.tables e below (T.setTop g) ((B.U.setTop { g with stack := rest }).pushFrame (.throwing q))) := by
  obtain ⟨mk, methM, hnamed, hmethM, hstM, habM⟩ := Cond.instanceMethod_spec hinst
  obtain ⟨m8, methM', cM, hn8, hmethM', -, -, -, -, -, -, hsigM⟩ := Cond.codeWith_spec hcode
  cases Option.some.inj (hn8.symm.trans hnamed)
  cases hmethM.symm.trans hmethM'
  obtain ⟨c2, r2, m2, q1, q2, q3, q4, kP, hkP, hkPi⟩ := Cond.selects_spec hsel
  cases hcls.symm.trans q1
  cases (State.methodFound?_of_named hnamed hy).symm.trans q2
  cases hnamed.symm.trans q3
  have hselP : selectMethod e.platform s.vm cellB.cls mk = .method mk := by rw [Launch.admits_selectMethod X.admits]; exact q4
  obtain ⟨vm₁, X₁, hstep₁⟩ := X.invokevirtual hexec hown hlink hnamed hmethM hstM hkP hkPi hy (a := b) (cell := cellB) hcell
    (fun z h => by rw [h] at hobj; cases hobj) hselP hmethM habM hkP hkPi (g := g) hg (argsL := argsL) (rest := rest) (hlen _ hsigM) hstack hdg
  rcases hK m meth c ⟨T.setVm vm₁, locs, cells, slots⟩ { g with stack := rest } (.invokevirtual index) mk (Value.ref b :: argsL).toArray X₁ hg hsize hdg hW (X₁.named hnamed) (hpre vm₁ X₁.warmed) with ⟨v, B, X', hpost, hsteps⟩ | ⟨q, B, X', hpost, hsteps⟩
  · exact Or.inl ⟨v, vm₁, B, X₁.warmed, X', hpost, fun target h => hstep₁ _ fun acts => by rw [doInvoke_state]; exact hsteps.trans h⟩
  · exact Or.inr ⟨q, vm₁, B, X₁.warmed, X', hpost, hstep₁ _ fun acts => by rw [doInvoke_state]; exact hsteps⟩
theorem vx_callSX (X : Stand p l e R s m args below meth c T locs cells slots) (hexec : p.tables.exec = Jvm.exec) {own : String} {index : Nat} {y : MethodName} {bytes : ByteArray} {maxL : Nat} {ret : Option FieldType} {hh : List (Nat × Nat × Nat × Nat)}
    (hown : s.vm.findClass own = some m.cls) (hlink : (Cond.methodLink own index y).before args s = true) (hstat : (Cond.static y).before args s = true) (hinit : (Cond.initialized y.cls).before args s = true)
    (hcode : (Cond.codeWith y bytes maxL ret hh).before args s = true) (hy : y.cls ≠ "java/lang/invoke/MethodHandle" ∧ y.cls ≠ "java/lang/invoke/VarHandle")
    {W9 : Nat} {Pre : Pt → Array Value → Prop} {Post : Pt → Array Value → Option Value → Pt → Prop} {PostX : Pt → Array Value → Addr → Pt → Prop} (hK : vx_Back l R p e below s args y 3 W9 Pre Post PostX)
    {g : JFrame} (hg : g.method = m) (hsize : g.locals.size = c.maxLocals) {argsL rest : List Value} (hlen : ∀ sig, parseMethodDescriptor y.desc = some sig → argsL.length = sig.parameters.length)
    (hstack : g.stack = argsL.reverse ++ rest) (hW : 2 * g.monitorRoom + (rest.map fun v => v.category).sum ≤ W9) (hdg : decode c.code g.pc = .ok (.invokestatic index, 3))
    (hpre : ∀ vm₁, s.WarmedH vm₁ → Pre ⟨T.setVm vm₁, locs, cells, slots⟩ argsL.toArray) :
    (∃ (v : Option Value) (vm₁ : Vm) (B : Pt), s.WarmedH vm₁ ∧ Stand p l e R s m args below meth c B.U B.locs B.cells B.slots ∧ Post ⟨T.setVm vm₁, locs, cells, slots⟩ argsL.toArray v B ∧
      ∀ target, Steps p.tables e below (B.U.setTop { g with pc := g.pc + 3, stack := v.toList ++ rest }) target → Steps p.tables e below (T.setTop g) target) ∨
    (∃ (q : Addr) (vm₁ : Vm) (B : Pt), s.WarmedH vm₁ ∧ Stand p l e R s m args below meth c B.U B.locs B.cells B.slots ∧ PostX ⟨T.setVm vm₁, locs, cells, slots⟩ argsL.toArray q B ∧
      Steps p.tables e below (T.setTop g) ((B.U.setTop { g with stack := rest }).pushFrame (.throwing q))) := by
  obtain ⟨mk, methM, cM, hnamed, hmethM, -, -, -, -, -, -, hsigM⟩ := Cond.codeWith_spec hcode
  have hstatic : methM.isStatic = true := Cond.static_spec hnamed hmethM hstat
  obtain ⟨kP, hkP, -⟩ := className_of_methodNamed hnamed
  have hinitP : kP.init = .initialized := Cond.initialized_spec (findClass_of_methodNamed hnamed) hkP hinit
  obtain ⟨vm₁, X₁, hstep₁⟩ := X.invokestatic hexec hown hlink hnamed hmethM hstatic hkP hinitP hy (g := g) hg (argsL := argsL) (rest := rest) (hlen _ hsigM) hstack hdg
  rcases hK m meth c ⟨T.setVm vm₁, locs, cells, slots⟩ { g with stack := rest } (.invokestatic index) mk argsL.toArray X₁ hg hsize hdg hW (X₁.named hnamed) (hpre vm₁ X₁.warmed) with ⟨v, B, X', hpost, hsteps⟩ | ⟨q, B, X', hpost, hsteps⟩
  · exact Or.inl ⟨v, vm₁, B, X₁.warmed, X', hpost, fun target h => hstep₁ _ fun acts => by rw [doInvoke_state]; exact hsteps.trans h⟩
  · exact Or.inr ⟨q, vm₁, B, X₁.warmed, X', hpost, hstep₁ _ fun acts => by rw [doInvoke_state]; exact hsteps⟩
theorem vx_callVW (X : Stand p l e R s m args below meth c T locs cells slots) (hexec : p.tables.exec = Jvm.exec) {own C : String} {index : Nat} {y : MethodName} {bytes : ByteArray} {maxL : Nat} {ret : Option FieldType} {hh : List (Nat × Nat × Nat × Nat)}
    (hown : s.vm.findClass own = some m.cls) (hlink : (Cond.methodLink own index y).before args s = true) (hinst : (Cond.instanceMethod y).before args s = true) (hsel : (Cond.selects C y y).before args s = true)
    (hcode : (Cond.codeWith y bytes maxL ret hh).before args s = true) (hy : y.cls ≠ "java/lang/invoke/MethodHandle" ∧ y.cls ≠ "java/lang/invoke/VarHandle")
    {W9 : Nat} {Pre : Pt → Array Value → Prop} {Post : Pt → Array Value → Option Value → Pt → Prop} (hK : Back l R p e below s args y 3 W9 Pre Post)
    {b : Addr} {cellB : Cell} (hcell : T.heap[b]? = some cellB) (hobj : cellB.vm.isStatics = false) (hcls : s.vm.findClass C = some cellB.cls)
    {g : JFrame} (hg : g.method = m) (hsize : g.locals.size = c.maxLocals) {argsL rest : List Value} (hlen : ∀ sig, parseMethodDescriptor y.desc = some sig → argsL.length = sig.parameters.length)
    (hstack : g.stack = argsL.reverse ++ .ref b :: rest) (hW : 2 * g.monitorRoom + (rest.map fun v => v.category).sum ≤ W9) (hdg : decode c.code g.pc = .ok (.invokevirtual index, 3))
    (hpre : ∀ vm₁, s.WarmedH vm₁ → Pre ⟨T.setVm vm₁, locs, cells, slots⟩ (Value.ref b :: argsL).toArray) :
    ∃ (v : Option Value) (vm₁ : Vm) (B : Pt), s.WarmedH vm₁ ∧ Stand p l e R s m args below meth c B.U B.locs B.cells B.slots ∧ Post ⟨T.setVm vm₁, locs, cells, slots⟩ (Value.ref b :: argsL).toArray v B ∧
      ∀ target, Steps p.tables e below (B.U.setTop { g with pc := g.pc + 3, stack := v.toList ++ rest }) target → Steps p.tables e below (T.setTop g) target := by
  obtain ⟨mk, methM, hnamed, hmethM, hstM, habM⟩ := Cond.instanceMethod_spec hinst
  obtain ⟨m8, methM', cM, hn8, hmethM', -, -, -, -, -, -, hsigM⟩ := Cond.codeWith_spec hcode
  cases Option.some.inj (hn8.symm.trans hnamed)
  cases hmethM.symm.trans hmethM'
  obtain ⟨c2, r2, m2, q1, q2, q3, q4, kP, hkP, hkPi⟩ := Cond.selects_spec hsel
  cases hcls.symm.trans q1
  cases (State.methodFound?_of_named hnamed hy).symm.trans q2
  cases hnamed.symm.trans q3
  have hselP : selectMethod e.platform s.vm cellB.cls mk = .method mk := by rw [Launch.admits_selectMethod X.admits]; exact q4
  obtain ⟨vm₁, X₁, hstep₁⟩ := X.invokevirtual hexec hown hlink hnamed hmethM hstM hkP hkPi hy (a := b) (cell := cellB) hcell
    (fun z h => by rw [h] at hobj; cases hobj) hselP hmethM habM hkP hkPi (g := g) hg (argsL := argsL) (rest := rest) (hlen _ hsigM) hstack hdg
  obtain ⟨v, B, X', hpost, hsteps⟩ := hK m meth c ⟨T.setVm vm₁, locs, cells, slots⟩ { g with stack := rest } (.invokevirtual index) mk (Value.ref b :: argsL).toArray X₁ hg hsize hdg hW (X₁.named hnamed) (hpre vm₁ X₁.warmed)
  exact ⟨v, vm₁, B, X₁.warmed, X', hpost, fun target h => hstep₁ _ fun acts => by rw [doInvoke_state]; exact hsteps.trans h⟩
abbrev vx_CVW (R : Room) (s : State) (args : Array Value) (own C : String) (index : Nat) (y : MethodName) (bytes : ByteArray) (maxL : Nat) (ret : Option FieldType) (hh : List (Nat × Nat × Nat × Nat)) (ws : List Cond) (rm : Room) (mc ms n : Nat) : Prop :=
  (rm.cells = mc ∧ rm.slots = ms ∧ rm.frames + 1 ≤ R.frames ∧ 8 + (maxL + 11) + rm.locals ≤ R.locals ∧ (∀ w ∈ ws, ∀ (a' : Array Value) (U : State), s.WarmedH U.vm → w.before a' U = true) ∧ Cond.codeWith y bytes maxL ret hh ∈ ws) ∧
  (Cond.codeWith y bytes maxL ret hh).before args s = true ∧ (Cond.initialized y.cls).before args s = true ∧ (y.cls ≠ "java/lang/invoke/MethodHandle" ∧ y.cls ≠ "java/lang/invoke/VarHandle") ∧
  (∀ sig, parseMethodDescriptor y.desc = some sig → n = sig.parameters.length) ∧ (Cond.methodLink own index y).before args s = true ∧ (Cond.instanceMethod y).before args s = true ∧ (Cond.selects C y y).before args s = true
theorem vx_cwVW {own C : String} {index maxL mc ms : Nat} {y : MethodName} {bytes : ByteArray} {ret : Option FieldType} {hh : List (Nat × Nat × Nat × Nat)} {Ts ws ws' : List Cond} {rm : Room} (n : Nat) (ht : ∀ w ∈ Ts, w.before args s = true) (hT : GoodIn Ts (wsV own index C y ws)) (hw : ws = Cond.codeWith y bytes maxL ret hh :: ws') (hrc : rm.cells = mc) (hrs : rm.slots = ms)
    (hd : y.cls = C ∧ y.cls ≠ "java/lang/invoke/MethodHandle" ∧ y.cls ≠ "java/lang/invoke/VarHandle" ∧ (parseMethodDescriptor y.desc).map (fun d => d.parameters.length) = some n) (hR : rm.frames + 1 ≤ R.frames ∧ 8 + (maxL + 11) + rm.locals ≤ R.locals) :
    vx_CVW R s args own C index y bytes maxL ret hh ws rm mc ms n := by
  obtain ⟨hC, hd⟩ := hd
  subst hC
  have ok : ∀ w ∈ wsV own index y.cls y ws, w.before args s = true := fun w h => ht w (hT w h).1
  have hG : GoodIn Ts ws := fun w h => hT w (by unfold wsV; exact List.mem_append_right _ h)
  have hc : Cond.codeWith y bytes maxL ret hh ∈ ws := by rw [hw]; exact List.mem_cons_self
  refine ⟨⟨hrc, hrs, hR.1, hR.2, pay_in ht hG, hc⟩, ht _ (hG _ hc).1, ok _ (by simp [wsV]), ⟨hd.1, hd.2.1⟩, fun sig h => ?_, ok _ (by simp [wsV]), ok _ (by simp [wsV]), ok _ (by simp [wsV])⟩
  have h2 := hd.2.2
  rw [h] at h2
  exact (Option.some.inj h2).symm
theorem vx_runVW {y : MethodName} {bytes cc : ByteArray} {maxL nL mc ms n index : Nat} {ret : Option FieldType} {hh : List (Nat × Nat × Nat × Nat)} {ws : List Cond} {rm : Room} {Pc : Array Value → State → Prop} {Qc : Array Value → State → Outcome → State → Prop} {free : Addr → Prop} {Ts : List Cond} {own C : String} {b : Addr} {As rest : List Value} {g : JFrame}
    (S : CallFix p m c cc nL s args Ts own) (hM : Met l y ws rm Pc Qc mc ms free) (cw : vx_CVW R s args own C index y bytes maxL ret hh ws rm mc ms n) (hp : PreV s H C b Pc As)
    (hg : g.method = m) (hn : As.length = n) (hsize : g.locals.size = nL) (hstack : g.stack = As.reverse ++ .ref b :: rest) (hW : 2 * g.monitorRoom + (rest.map fun v => v.category).sum ≤ 8) (hdg : decode cc g.pc = .ok (.invokevirtual index, 3)) (hf : cells + mc ≤ R.cells ∧ slots + ms ≤ R.slots) :
    va_Run p l e R s m args below meth c H locs cells slots mc ms g rest (Qc (Value.ref b :: As).toArray) free := by
  obtain ⟨⟨hrc, hrs, hfr, hlo, hws, hcw⟩, hcode, hini, hy, hlen, hl, hin, hse⟩ := cw
  have hK : Back l R p e below s args y 3 8 (PreOf R mc ms Pc) (PostOf Qc mc ms free) := va_backW (hh := hh) (bytes := bytes) (maxL := maxL) (ret := ret) hM hp.1 hrc hrs hfr hlo hws hcw (fun a' U hW => word_at hW (Or.inl (by first | rfl | simp [Cond.onTables, Cond.keeps, Cond.steady])) hini)
  obtain ⟨hx, hb, hml, ho, -⟩ := S
  obtain ⟨-, ⟨cellB, hcB, hoB, hclB⟩, hPc⟩ := hp
  intro T hT X
  obtain ⟨v, vm₁, ⟨U', l2, c2, s2⟩, hW₁, X', ⟨g', mk, t, L, e1, e2, hq, h1, hL, h2, h3⟩, st⟩ := vx_callVW X hx (C := C) (hh := hh) (bytes := bytes) (maxL := maxL) (ret := ret) ho hl hin hse hcode hy hK (by rw [hT]; exact hcB) hoB hclB hg (hsize.trans hml.symm) (argsL := As) (rest := rest) (fun sig h => hn.trans (hlen sig h)) hstack hW (by rw [hb]; exact hdg)
    (fun vm₁ hW₁ => ⟨hf.1, hf.2, hPc (T.setVm vm₁) hT hW₁⟩)
  dsimp only [Pt.U, Pt.locs, Pt.cells, Pt.slots] at X' e1 e2 h1 h2 h3 st
  subst h1; subst h2; subst h3
  exact ⟨v, (T.setVm vm₁).calling g' mk (Value.ref b :: As).toArray, t, U', L, hT, X', hL, e1, e2, hq, st⟩
section
variable {y : MethodName} {bytes cc : ByteArray} {maxL nL mc ms n index : Nat} {ret : Option FieldType} {ws : List Cond} {rm : Room} {Pc : Array Value → State → Prop} {Qc : Array Value → State → Outcome → State → Prop} {XC : String → State → State → Prop} {free : Addr → Prop} {Ts : List Cond} {own C : String} {b : Addr} {As rest : List Value} {g : JFrame}
theorem vx_runVX {hh : List (Nat × Nat × Nat × Nat)} (S : CallFix p m c cc nL s args Ts own) (hM : vx_Met l y ws rm Pc Qc XC mc ms free) (cw : vx_CVW R s args own C index y bytes maxL ret hh ws rm mc ms n) (hp : PreV s H C b Pc As)
    (hg : g.method = m) (hn : As.length = n) (hsize : g.locals.size = nL) (hstack : g.stack = As.reverse ++ .ref b :: rest) (hW : 2 * g.monitorRoom + (rest.map fun v => v.category).sum ≤ 8) (hdg : decode cc g.pc = .ok (.invokevirtual index, 3)) (hf : cells + mc ≤ R.cells ∧ slots + ms ≤ R.slots) :
    vx_Run p l e R s m args below meth c H locs cells slots mc ms g rest (Qc (Value.ref b :: As).toArray) XC free := by
  obtain ⟨⟨hrc, hrs, hfr, hlo, hws, hcw⟩, hcode, hini, hy, hlen, hl, hin, hse⟩ := cw
  have hK : vx_Back l R p e below s args y 3 8 (PreOf R mc ms Pc) (PostOf Qc mc ms free) (vx_Post XC mc ms free) := vx_backW (hh := hh) (bytes := bytes) (maxL := maxL) (ret := ret) hM hp.1 hrc hrs hfr hlo hws hcw (fun a' U hW => word_at hW (Or.inl (by first | rfl | simp [Cond.onTables, Cond.keeps, Cond.steady])) hini)
  obtain ⟨hx, hb, hml, ho, -⟩ := S
  obtain ⟨-, ⟨cellB, hcB, hoB, hclB⟩, hPc⟩ := hp
  intro T hT X
  rcases vx_callVX X hx (C := C) (hh := hh) (bytes := bytes) (maxL := maxL) (ret := ret) ho hl hin hse hcode hy hK (by rw [hT]; exact hcB) hoB hclB hg (hsize.trans hml.symm) (argsL := As) (rest := rest) (fun sig h => hn.trans (hlen sig h)) hstack hW (by rw [hb]; exact hdg)
    (fun vm₁ hW₁ => ⟨hf.1, hf.2, hPc (T.setVm vm₁) hT hW₁⟩) with ⟨v, vm₁, ⟨U', l2, c2, s2⟩, hW₁, X', ⟨g', mk, t, L, e1, e2, hq, h1, hL, h2, h3⟩, st⟩ | ⟨q, vm₁, ⟨U', l2, c2, s2⟩, hW₁, X', ⟨g', mk, t, L, E, ce, e1, e2, hq, hce, hcv, hcl, h1, hL, h2, h3⟩, st⟩
  · dsimp only [Pt.U, Pt.locs, Pt.cells, Pt.slots] at X' e1 e2 h1 h2 h3 st
    subst h1; subst h2; subst h3
    exact Or.inl ⟨v, (T.setVm vm₁).calling g' mk (Value.ref b :: As).toArray, t, U', L, hT, X', hL, e1, e2, hq, st⟩
  · dsimp only [Pt.U, Pt.locs, Pt.cells, Pt.slots] at X' e1 e2 h1 h2 h3 st hcl
    subst h1; subst h2; subst h3
    exact Or.inr ⟨q, (T.setVm vm₁).calling g' mk (Value.ref b :: As).toArray, t, U', L, E, ce, hT, X', hL, e1, e2, hq, hce, hcv, vx_cls hW₁ hcl, st⟩
theorem vx_runSX {hh : List (Nat × Nat × Nat × Nat)} (S : CallFix p m c cc nL s args Ts own) (hM : vx_Met l y ws rm Pc Qc XC mc ms free) (cw : vx_CSW R s args own index y bytes maxL ret hh ws rm mc ms n) (hp : PreS s H Pc As)
    (hg : g.method = m) (hn : As.length = n) (hsize : g.locals.size = nL) (hstack : g.stack = As.reverse ++ rest) (hW : 2 * g.monitorRoom + (rest.map fun v => v.category).sum ≤ 8) (hdg : decode cc g.pc = .ok (.invokestatic index, 3)) (hf : cells + mc ≤ R.cells ∧ slots + ms ≤ R.slots) :
    vx_Run p l e R s m args below meth c H locs cells slots mc ms g rest (Qc As.toArray) XC free := by
  obtain ⟨⟨hrc, hrs, hfr, hlo, hws, hcw⟩, hcode, hini, hy, hlen, hl, hstt⟩ := cw
  have hK : vx_Back l R p e below s args y 3 8 (PreOf R mc ms Pc) (PostOf Qc mc ms free) (vx_Post XC mc ms free) := vx_backW (hh := hh) (bytes := bytes) (maxL := maxL) (ret := ret) hM hp.1 hrc hrs hfr hlo hws hcw (fun a' U hW => word_at hW (Or.inl (by first | rfl | simp [Cond.onTables, Cond.keeps, Cond.steady])) hini)
  obtain ⟨hx, hb, hml, ho, -⟩ := S
  intro T hT X
  rcases vx_callSX X hx (hh := hh) (bytes := bytes) (maxL := maxL) (ret := ret) ho hl hstt hini hcode hy hK hg (hsize.trans hml.symm) (argsL := As) (rest := rest) (fun sig h => hn.trans (hlen sig h)) hstack hW (by rw [hb]; exact hdg)
    (fun vm₁ hW₁ => ⟨hf.1, hf.2, hp.2 (T.setVm vm₁) hT hW₁⟩) with ⟨v, vm₁, ⟨U', l2, c2, s2⟩, hW₁, X', ⟨g', mk, t, L, e1, e2, hq, h1, hL, h2, h3⟩, st⟩ | ⟨q, vm₁, ⟨U', l2, c2, s2⟩, hW₁, X', ⟨g', mk, t, L, E, ce, e1, e2, hq, hce, hcv, hcl, h1, hL, h2, h3⟩, st⟩
  · dsimp only [Pt.U, Pt.locs, Pt.cells, Pt.slots] at X' e1 e2 h1 h2 h3 st
    subst h1; subst h2; subst h3
    exact Or.inl ⟨v, (T.setVm vm₁).calling g' mk As.toArray, t, U', L, hT, X', hL, e1, e2, hq, st⟩
  · dsimp only [Pt.U, Pt.locs, Pt.cells, Pt.slots] at X' e1 e2 h1 h2 h3 st hcl
    subst h1; subst h2; subst h3
    exact Or.inr ⟨q, (T.setVm vm₁).calling g' mk As.toArray, t, U', L, E, ce, hT, X', hL, e1, e2, hq, hce, hcv, vx_cls hW₁ hcl, st⟩
end
end VXH
theorem vx_ofWH {l : Launch} {y : MethodName} {ws ws' : List Cond} {rm : Room} {Pc : Array Value → State → Prop} {Qc : Array Value → State → Outcome → State → Prop} {XC : String → State → State → Prop} {mc ms : Nat} {free : Addr → Prop} {cc : ByteArray} {maxL : Nat} {ret : Option FieldType} {hh : List (Nat × Nat × Nat × Nat)}
    (hy : plainName y.cls = true) (hw : ws = Cond.codeWith y cc maxL ret hh :: ws')
    (body : ∀ p e s m args below meth c s₁, BodyLoose p l y (headSpec ws rm) cc maxL ret e s m args below meth c s₁ → c.maxLocals = maxL → Pc args s →
      W p l e (headSpec ws rm).room s m args below meth c s.heap [] 0 0 (vx_MQ below Qc XC args s mc ms free) (entryFrame m args maxL)) : vx_Met l y ws rm Pc Qc XC mc ms free := by
  refine MetFree.of_bodyS (code := cc) (maxLocals := maxL) (ret := ret) hy ?_ ?_
  · intro args s m h hn
    obtain ⟨m9, meth, c, hn9, h1, h2, h3, h4, -, h5, h6, -⟩ := Cond.codeWith_spec (atoms_spec (ws := ws) h _ (by rw [hw]; exact List.mem_cons_self))
    cases hn.symm.trans hn9
    exact ⟨meth, c, h1, h2, h3, h4, h5, h6⟩
  · intro p e s m args below meth c s₁ B hml hP _
    have hh0 : s₁.heap = s.heap := by rw [B.state]; rfl
    obtain ⟨t, a1, o, b1, b2, b3⟩ := body p e s m args below meth c s₁ B hml hP s₁ hh0 (Stand.of_body B)
    exact ⟨t, o, a1, b1, b2, b3⟩
/-! ===== END ===== -/
end
section
/-! tables of the class, the reference and the law, written by program out of the claim's own Statement and names -/
section XT
def xT0 : u_T := fun k => match k with
  | 0 => ("SkateSheet$Couples", "count", "I", false)
  | 1 => ("SkateSheet$Couples", "clubs", "LSkateSheet$Row;", true)
  | 2 => ("SkateSheet$Couples", "levels", "LSkateSheet$Row;", true)
  | 3 => ("SkateSheet$Couples", "met", "LSkateSheet$Grid;", true)
  | _ => ("SkateSheet$Couples", "points", "LSkateSheet$Grid;", true)
def xTy0 : Nat → FieldType := fun k => match k with
  | 0 => .int
  | 1 => .object "SkateSheet$Row"
  | 2 => .object "SkateSheet$Row"
  | 3 => .object "SkateSheet$Grid"
  | _ => .object "SkateSheet$Grid"
def xT1 : u_T := fun k => match k with
  | 0 => ("SkateSheet$Event", "isOpen", "Z", false)
  | 1 => ("SkateSheet$Event", "entered", "I", false)
  | 2 => ("SkateSheet$Event", "inside", "I", false)
  | 3 => ("SkateSheet$Event", "panel", "I", false)
  | 4 => ("SkateSheet$Event", "dances", "I", false)
  | 5 => ("SkateSheet$Event", "rounds", "I", false)
  | _ => ("SkateSheet$Event", "outIn", "LSkateSheet$Row;", true)
def xTy1 : Nat → FieldType := fun k => match k with
  | 0 => .boolean
  | 1 => .int
  | 2 => .int
  | 3 => .int
  | 4 => .int
  | 5 => .int
  | _ => .object "SkateSheet$Row"
def xT2 : u_T := fun k => match k with
  | 0 => ("SkateSheet$Grid", "columns", "I", true)
  | _ => ("SkateSheet$Grid", "cells", "[I", true)
def xTy2 : Nat → FieldType := fun k => match k with
  | 0 => .int
  | _ => .array .int
def xT3 : u_T := fun k => match k with
  | 0 => ("SkateSheet$Judges", "count", "I", false)
  | 1 => ("SkateSheet$Judges", "clubs", "LSkateSheet$Row;", true)
  | _ => ("SkateSheet$Judges", "drifts", "LSkateSheet$Row;", true)
def xTy3 : Nat → FieldType := fun k => match k with
  | 0 => .int
  | 1 => .object "SkateSheet$Row"
  | _ => .object "SkateSheet$Row"
def xT4 : u_T := fun k => match k with
  | 0 => ("SkateSheet$Round", "isRunning", "Z", false)
  | 1 => ("SkateSheet$Round", "quota", "I", false)
  | 2 => ("SkateSheet$Round", "danced", "I", false)
  | 3 => ("SkateSheet$Round", "size", "I", false)
  | 4 => ("SkateSheet$Round", "crosses", "LSkateSheet$Grid;", true)
  | 5 => ("SkateSheet$Round", "heatOf", "LSkateSheet$Row;", true)
  | _ => ("SkateSheet$Round", "heats", "LSkateSheet$Row;", true)
def xTy4 : Nat → FieldType := fun k => match k with
  | 0 => .boolean
  | 1 => .int
  | 2 => .int
  | 3 => .int
  | 4 => .object "SkateSheet$Grid"
  | 5 => .object "SkateSheet$Row"
  | _ => .object "SkateSheet$Row"
def xT5 : u_T := fun k => match k with
  | _ => ("SkateSheet$Row", "cells", "[I", true)
def xTy5 : Nat → FieldType := fun k => match k with
  | _ => .array .int
def xT6 : u_T := fun k => match k with
  | 0 => ("SkateSheet$Score", "size", "I", false)
  | 1 => ("SkateSheet$Score", "dances", "I", false)
  | 2 => ("SkateSheet$Score", "places", "LSkateSheet$Grid;", true)
  | 3 => ("SkateSheet$Score", "reasons", "LSkateSheet$Grid;", true)
  | 4 => ("SkateSheet$Score", "totals", "LSkateSheet$Row;", true)
  | 5 => ("SkateSheet$Score", "endPlaces", "LSkateSheet$Row;", true)
  | 6 => ("SkateSheet$Score", "endReasons", "LSkateSheet$Row;", true)
  | 7 => ("SkateSheet$Score", "marks", "LSkateSheet$Tally;", true)
  | 8 => ("SkateSheet$Score", "sheetsOf", "LSkateSheet$Row;", true)
  | 9 => ("SkateSheet$Score", "turns", "LSkateSheet$Row;", true)
  | _ => ("SkateSheet$Score", "weights", "LSkateSheet$Row;", true)
def xTy6 : Nat → FieldType := fun k => match k with
  | 0 => .int
  | 1 => .int
  | 2 => .object "SkateSheet$Grid"
  | 3 => .object "SkateSheet$Grid"
  | 4 => .object "SkateSheet$Row"
  | 5 => .object "SkateSheet$Row"
  | 6 => .object "SkateSheet$Row"
  | 7 => .object "SkateSheet$Tally"
  | 8 => .object "SkateSheet$Row"
  | 9 => .object "SkateSheet$Row"
  | _ => .object "SkateSheet$Row"
def xT7 : u_T := fun k => match k with
  | 0 => ("SkateSheet$Sheets", "size", "I", false)
  | 1 => ("SkateSheet$Sheets", "dances", "I", false)
  | 2 => ("SkateSheet$Sheets", "marks", "LSkateSheet$Grid;", true)
  | _ => ("SkateSheet$Sheets", "penalised", "LSkateSheet$Row;", true)
def xTy7 : Nat → FieldType := fun k => match k with
  | 0 => .int
  | 1 => .int
  | 2 => .object "SkateSheet$Grid"
  | _ => .object "SkateSheet$Row"
def xT8 : u_T := fun k => match k with
  | 0 => ("SkateSheet$Tally", "worst", "I", false)
  | 1 => ("SkateSheet$Tally", "numbers", "LSkateSheet$Grid;", true)
  | _ => ("SkateSheet$Tally", "weights", "LSkateSheet$Grid;", true)
def xTy8 : Nat → FieldType := fun k => match k with
  | 0 => .int
  | 1 => .object "SkateSheet$Grid"
  | _ => .object "SkateSheet$Grid"
def xT9 : u_T := fun k => match k with
  | 0 => ("SkateSheet", "allCouples", "LSkateSheet$Couples;", true)
  | 1 => ("SkateSheet", "allJudges", "LSkateSheet$Judges;", true)
  | 2 => ("SkateSheet", "event", "LSkateSheet$Event;", true)
  | 3 => ("SkateSheet", "latest", "LSkateSheet$Round;", true)
  | 4 => ("SkateSheet", "sheets", "LSkateSheet$Sheets;", true)
  | 5 => ("SkateSheet", "score", "LSkateSheet$Score;", true)
  | 6 => ("SkateSheet", "trial", "LSkateSheet$Score;", true)
  | 7 => ("SkateSheet", "inFinal", "Z", false)
  | _ => ("SkateSheet", "closedEvents", "I", false)
def xTy9 : Nat → FieldType := fun k => match k with
  | 0 => .object "SkateSheet$Couples"
  | 1 => .object "SkateSheet$Judges"
  | 2 => .object "SkateSheet$Event"
  | 3 => .object "SkateSheet$Round"
  | 4 => .object "SkateSheet$Sheets"
  | 5 => .object "SkateSheet$Score"
  | 6 => .object "SkateSheet$Score"
  | 7 => .boolean
  | _ => .int
def xT10 : u_T := fun k => match k with
  | 0 => ("SkateSheetModel$Result", "n", "I", true)
  | 1 => ("SkateSheetModel$Result", "lost", "I", true)
  | 2 => ("SkateSheetModel$Result", "places", "[[I", true)
  | 3 => ("SkateSheetModel$Result", "reasons", "[[I", true)
  | 4 => ("SkateSheetModel$Result", "totals", "[I", true)
  | 5 => ("SkateSheetModel$Result", "overall", "[I", true)
  | 6 => ("SkateSheetModel$Result", "why", "[I", true)
  | _ => ("SkateSheetModel$Result", "this$0", "LSkateSheetModel;", true)
def xTy10 : Nat → FieldType := fun k => match k with
  | 0 => .int
  | 1 => .int
  | 2 => .array (.array .int)
  | 3 => .array (.array .int)
  | 4 => .array .int
  | 5 => .array .int
  | 6 => .array .int
  | _ => .object "SkateSheetModel"
def xT11 : u_T := fun k => match k with
  | 0 => ("SkateSheetModel", "thrown", "I", false)
  | 1 => ("SkateSheetModel", "clubs", "[I", true)
  | 2 => ("SkateSheetModel", "levels", "[I", true)
  | 3 => ("SkateSheetModel", "judgeClubs", "[I", true)
  | 4 => ("SkateSheetModel", "drift", "[I", true)
  | 5 => ("SkateSheetModel", "meetings", "[[I", true)
  | 6 => ("SkateSheetModel", "closed", "Ljava/util/List;", true)
  | 7 => ("SkateSheetModel", "coupleCount", "I", false)
  | 8 => ("SkateSheetModel", "judgeCount", "I", false)
  | 9 => ("SkateSheetModel", "isOpen", "Z", false)
  | 10 => ("SkateSheetModel", "hasBegun", "Z", false)
  | 11 => ("SkateSheetModel", "entered", "I", false)
  | 12 => ("SkateSheetModel", "dances", "I", false)
  | 13 => ("SkateSheetModel", "panel", "I", false)
  | 14 => ("SkateSheetModel", "in", "I", false)
  | 15 => ("SkateSheetModel", "rounds", "I", false)
  | 16 => ("SkateSheetModel", "quota", "I", false)
  | 17 => ("SkateSheetModel", "size", "I", false)
  | 18 => ("SkateSheetModel", "danced", "I", false)
  | 19 => ("SkateSheetModel", "isRound", "Z", false)
  | 20 => ("SkateSheetModel", "out", "[I", false)
  | 21 => ("SkateSheetModel", "heats", "[I", false)
  | 22 => ("SkateSheetModel", "crosses", "[[I", false)
  | 23 => ("SkateSheetModel", "finalists", "[I", false)
  | 24 => ("SkateSheetModel", "marks", "[[[I", false)
  | _ => ("SkateSheetModel", "penalties", "[[Z", false)
def xTy11 : Nat → FieldType := fun k => match k with
  | 0 => .int
  | 1 => .array .int
  | 2 => .array .int
  | 3 => .array .int
  | 4 => .array .int
  | 5 => .array (.array .int)
  | 6 => .object "java/util/List"
  | 7 => .int
  | 8 => .int
  | 9 => .boolean
  | 10 => .boolean
  | 11 => .int
  | 12 => .int
  | 13 => .int
  | 14 => .int
  | 15 => .int
  | 16 => .int
  | 17 => .int
  | 18 => .int
  | 19 => .boolean
  | 20 => .array .int
  | 21 => .array .int
  | 22 => .array (.array .int)
  | 23 => .array .int
  | 24 => .array (.array (.array .int))
  | _ => .array (.array .boolean)
def xT12 : u_T := fun k => match k with
  | 0 => ("java/util/AbstractList", "modCount", "I", false)
  | 1 => ("java/util/ArrayList", "elementData", "[Ljava/lang/Object;", false)
  | _ => ("java/util/ArrayList", "size", "I", false)
def xTy12 : Nat → FieldType := fun k => match k with
  | 0 => .int
  | 1 => .array (.object "java/lang/Object")
  | _ => .int
def xTe : u_T := fun _ => ("", "", "", false)
def xTye : Nat → FieldType := fun _ => .int
abbrev xcl : List vw_C := [("SkateSheet$Couples", xT0, 5), ("SkateSheet$Event", xT1, 7), ("SkateSheet$Grid", xT2, 2), ("SkateSheet$Judges", xT3, 3), ("SkateSheet$Round", xT4, 7), ("SkateSheet$Row", xT5, 1), ("SkateSheet$Score", xT6, 11), ("SkateSheet$Sheets", xT7, 4), ("SkateSheet$Tally", xT8, 3), ("SkateSheet", xT9, 9), ("SkateSheetModel$Result", xT10, 8), ("SkateSheetModel", xT11, 26), ("java/util/ArrayList", xT12, 3), ("java/lang/IllegalArgumentException", xTe, 0), ("java/lang/IndexOutOfBoundsException", xTe, 0), ("java/lang/IllegalStateException", xTe, 0)]
def xdef : Nat → List Value
  | 0 => [.int 0, .null, .null, .null, .null]
  | 1 => [.int 0, .int 0, .int 0, .int 0, .int 0, .int 0, .null]
  | 2 => [.int 0, .null]
  | 3 => [.int 0, .null, .null]
  | 4 => [.int 0, .int 0, .int 0, .int 0, .null, .null, .null]
  | 5 => [.null]
  | 6 => [.int 0, .int 0, .null, .null, .null, .null, .null, .null, .null, .null, .null]
  | 7 => [.int 0, .int 0, .null, .null]
  | 8 => [.int 0, .null, .null]
  | 9 => [.null, .null, .null, .null, .null, .null, .null, .int 0, .int 0]
  | 10 => [.int 0, .int 0, .null, .null, .null, .null, .null, .null]
  | 11 => [.int 0, .null, .null, .null, .null, .null, .null, .int 0, .int 0, .int 0, .int 0, .int 0, .int 0, .int 0, .int 0, .int 0, .int 0, .int 0, .int 0, .int 0, .null, .null, .null, .null, .null, .null]
  | 12 => [.int 0, .null, .int 0]
  | _ => []
def xtyf : Nat → Nat → FieldType
  | 0 => xTy0
  | 1 => xTy1
  | 2 => xTy2
  | 3 => xTy3
  | 4 => xTy4
  | 5 => xTy5
  | 6 => xTy6
  | 7 => xTy7
  | 8 => xTy8
  | 9 => xTy9
  | 10 => xTy10
  | 11 => xTy11
  | 12 => xTy12
  | _ => xTye
def xown : Nat → String
  | 0 => "SkateSheet$Couples"
  | 1 => "SkateSheet$Event"
  | 2 => "SkateSheet$Grid"
  | 3 => "SkateSheet$Judges"
  | 4 => "SkateSheet$Round"
  | 5 => "SkateSheet$Row"
  | 6 => "SkateSheet$Score"
  | 7 => "SkateSheet$Sheets"
  | 8 => "SkateSheet$Tally"
  | 9 => "SkateSheet"
  | 10 => "SkateSheetModel$Result"
  | 11 => "SkateSheetModel"
  | 12 => "java/util/ArrayList"
  | 13 => "SkateSheetLaw"
  | 14 => "java/lang/Object"
  | 15 => "java/lang/Math"
  | 16 => "java/lang/Integer"
  | 17 => "java/lang/Throwable"
  | 18 => "java/lang/IllegalArgumentException"
  | 19 => "java/lang/RuntimeException"
  | 20 => "java/lang/Exception"
  | 21 => "java/lang/IndexOutOfBoundsException"
  | 22 => "java/lang/IllegalStateException"
  | 23 => "java/util/AbstractList"
  | 24 => "java/util/AbstractCollection"
  | 25 => "jdk/internal/util/ArraysSupport"
  | 26 => "java/util/Arrays"
  | 27 => "java/util/Objects"
  | 28 => "jdk/internal/util/Preconditions"
  | _ => ""
def xmo : Nat → Nat
  | 0 => 9
  | 1 => 0
  | 2 => 5
  | 3 => 2
  | 4 => 3
  | 5 => 1
  | 6 => 4
  | 7 => 5
  | 8 => 7
  | 9 => 6
  | 10 => 8
  | 11 => 9
  | 12 => 0
  | 13 => 2
  | 14 => 9
  | 15 => 6
  | 16 => 5
  | 17 => 16
  | 18 => 6
  | 19 => 8
  | 20 => 2
  | 21 => 9
  | 22 => 6
  | 23 => 7
  | 24 => 7
  | 25 => 5
  | 26 => 6
  | 27 => 8
  | 28 => 2
  | 29 => 6
  | 30 => 8
  | 31 => 2
  | 32 => 7
  | 33 => 6
  | 34 => 8
  | 35 => 5
  | 36 => 6
  | 37 => 8
  | 38 => 9
  | 39 => 6
  | 40 => 8
  | 41 => 6
  | 42 => 6
  | 43 => 6
  | 44 => 6
  | 45 => 6
  | 46 => 6
  | 47 => 6
  | 48 => 9
  | 49 => 9
  | 50 => 7
  | 51 => 7
  | 52 => 9
  | 53 => 9
  | 54 => 9
  | 55 => 4
  | 56 => 4
  | 57 => 9
  | 58 => 9
  | 59 => 9
  | 60 => 9
  | 61 => 1
  | 62 => 9
  | 63 => 9
  | 64 => 9
  | 65 => 6
  | 66 => 9
  | 67 => 7
  | 68 => 13
  | 69 => 9
  | 70 => 9
  | 71 => 0
  | 72 => 13
  | 73 => 9
  | 74 => 3
  | 75 => 13
  | 76 => 9
  | 77 => 0
  | 78 => 0
  | 79 => 3
  | 80 => 1
  | 81 => 13
  | 82 => 9
  | 83 => 4
  | 84 => 4
  | 85 => 13
  | 86 => 9
  | 87 => 4
  | 88 => 4
  | 89 => 0
  | 90 => 0
  | 91 => 13
  | 92 => 9
  | 93 => 13
  | 94 => 9
  | 95 => 4
  | 96 => 4
  | 97 => 1
  | 98 => 4
  | 99 => 13
  | 100 => 9
  | 101 => 7
  | 102 => 13
  | 103 => 9
  | 104 => 7
  | 105 => 7
  | 106 => 13
  | 107 => 9
  | 108 => 9
  | 109 => 7
  | 110 => 13
  | 111 => 9
  | 112 => 7
  | 113 => 13
  | 114 => 9
  | 115 => 9
  | 116 => 6
  | 117 => 9
  | 118 => 0
  | 119 => 0
  | 120 => 1
  | 121 => 13
  | 122 => 13
  | 123 => 13
  | 124 => 13
  | 125 => 13
  | 126 => 13
  | 127 => 13
  | 128 => 13
  | 129 => 9
  | 130 => 9
  | 131 => 7
  | 132 => 13
  | 133 => 9
  | 134 => 1
  | 135 => 13
  | 136 => 9
  | 137 => 11
  | 138 => 12
  | 139 => 23
  | 140 => 24
  | 141 => 11
  | 142 => 11
  | 143 => 11
  | 144 => 11
  | 145 => 11
  | 146 => 11
  | 147 => 11
  | 148 => 11
  | 149 => 11
  | 150 => 11
  | 151 => 11
  | 152 => 11
  | 153 => 11
  | 154 => 11
  | 155 => 11
  | 156 => 11
  | 157 => 11
  | 158 => 11
  | 159 => 11
  | 160 => 11
  | 161 => 11
  | 162 => 11
  | 163 => 11
  | 164 => 11
  | 165 => 11
  | 166 => 10
  | 167 => 10
  | 168 => 10
  | 169 => 10
  | 170 => 10
  | 171 => 10
  | 172 => 10
  | 173 => 10
  | 174 => 11
  | 175 => 12
  | 176 => 11
  | 177 => 11
  | 178 => 11
  | 179 => 11
  | 180 => 11
  | 181 => 11
  | 182 => 11
  | 183 => 11
  | 184 => 11
  | 185 => 11
  | 186 => 11
  | 187 => 11
  | 188 => 11
  | 189 => 11
  | 190 => 11
  | 191 => 11
  | 192 => 11
  | 193 => 11
  | 194 => 11
  | 195 => 10
  | 196 => 11
  | 197 => 11
  | 198 => 13
  | _ => 0
def xmy : Nat → MethodName
  | 0 => ⟨"SkateSheet", "<init>", "()V"⟩
  | 1 => ⟨"SkateSheet$Couples", "<init>", "()V"⟩
  | 2 => ⟨"SkateSheet$Row", "<init>", "(I)V"⟩
  | 3 => ⟨"SkateSheet$Grid", "<init>", "(II)V"⟩
  | 4 => ⟨"SkateSheet$Judges", "<init>", "()V"⟩
  | 5 => ⟨"SkateSheet$Event", "<init>", "()V"⟩
  | 6 => ⟨"SkateSheet$Round", "<init>", "()V"⟩
  | 7 => ⟨"SkateSheet$Row", "fill", "(I)V"⟩
  | 8 => ⟨"SkateSheet$Sheets", "<init>", "()V"⟩
  | 9 => ⟨"SkateSheet$Score", "<init>", "()V"⟩
  | 10 => ⟨"SkateSheet$Tally", "<init>", "(I)V"⟩
  | 11 => ⟨"SkateSheet", "meanStanding", "()D"⟩
  | 12 => ⟨"SkateSheet$Couples", "standingOf", "(I)I"⟩
  | 13 => ⟨"SkateSheet$Grid", "get", "(II)I"⟩
  | 14 => ⟨"SkateSheet", "fragile", "()I"⟩
  | 15 => ⟨"SkateSheet$Score", "winners", "()I"⟩
  | 16 => ⟨"SkateSheet$Row", "get", "(I)I"⟩
  | 17 => ⟨"java/lang/Integer", "bitCount", "(I)I"⟩
  | 18 => ⟨"SkateSheet$Score", "settle", "(LSkateSheet$Sheets;I)V"⟩
  | 19 => ⟨"SkateSheet$Tally", "clear", "(I)V"⟩
  | 20 => ⟨"SkateSheet$Grid", "fill", "(I)V"⟩
  | 21 => ⟨"SkateSheet", "holds", "(II)Z"⟩
  | 22 => ⟨"SkateSheet$Score", "countMarksOf", "(ILSkateSheet$Sheets;)V"⟩
  | 23 => ⟨"SkateSheet$Sheets", "has", "(II)Z"⟩
  | 24 => ⟨"SkateSheet$Sheets", "mark", "(III)I"⟩
  | 25 => ⟨"SkateSheet$Row", "add", "(II)V"⟩
  | 26 => ⟨"SkateSheet$Score", "rowOf", "(II)I"⟩
  | 27 => ⟨"SkateSheet$Tally", "count", "(II)V"⟩
  | 28 => ⟨"SkateSheet$Grid", "add", "(III)V"⟩
  | 29 => ⟨"SkateSheet$Score", "placeInDance", "(ILSkateSheet$Sheets;)V"⟩
  | 30 => ⟨"SkateSheet$Tally", "sumUp", "(I)V"⟩
  | 31 => ⟨"SkateSheet$Grid", "set", "(III)V"⟩
  | 32 => ⟨"SkateSheet$Sheets", "isPenalised", "(II)Z"⟩
  | 33 => ⟨"SkateSheet$Score", "turnOf", "(IIZ)I"⟩
  | 34 => ⟨"SkateSheet$Tally", "number", "(II)I"⟩
  | 35 => ⟨"SkateSheet$Row", "set", "(II)V"⟩
  | 36 => ⟨"SkateSheet$Score", "compareInDance", "(III)I"⟩
  | 37 => ⟨"SkateSheet$Tally", "compare", "(III)I"⟩
  | 38 => ⟨"SkateSheet", "inHalves", "(II)I"⟩
  | 39 => ⟨"SkateSheet$Score", "reasonAmongCandidates", "(II)I"⟩
  | 40 => ⟨"SkateSheet$Tally", "weight", "(II)I"⟩
  | 41 => ⟨"SkateSheet$Score", "addPlaces", "()V"⟩
  | 42 => ⟨"SkateSheet$Score", "placeOverAll", "()V"⟩
  | 43 => ⟨"SkateSheet$Score", "bestByTotal", "(I)I"⟩
  | 44 => ⟨"SkateSheet$Score", "heaviest", "(I)I"⟩
  | 45 => ⟨"SkateSheet$Score", "bestByPlaces", "(II)I"⟩
  | 46 => ⟨"SkateSheet$Score", "bestByMarks", "(II)I"⟩
  | 47 => ⟨"SkateSheet$Score", "takePlaces", "(III)V"⟩
  | 48 => ⟨"SkateSheet", "digest", "()J"⟩
  | 49 => ⟨"SkateSheet", "many", "(I)I"⟩
  | 50 => ⟨"SkateSheet$Sheets", "ofAll", "()I"⟩
  | 51 => ⟨"SkateSheet$Sheets", "ofDance", "(I)I"⟩
  | 52 => ⟨"SkateSheet", "digestCouple", "(JI)J"⟩
  | 53 => ⟨"SkateSheet", "ofCouple", "(II)I"⟩
  | 54 => ⟨"SkateSheet", "needCouple", "(I)V"⟩
  | 55 => ⟨"SkateSheet$Round", "crossesOf", "(I)I"⟩
  | 56 => ⟨"SkateSheet$Round", "crossesIn", "(II)I"⟩
  | 57 => ⟨"SkateSheet", "meetings", "(II)I"⟩
  | 58 => ⟨"SkateSheet", "digestFinalist", "(JI)J"⟩
  | 59 => ⟨"SkateSheet", "result", "(II)I"⟩
  | 60 => ⟨"SkateSheet", "needInFinal", "(I)V"⟩
  | 61 => ⟨"SkateSheet$Event", "positionOf", "(I)I"⟩
  | 62 => ⟨"SkateSheet", "placed", "(III)I"⟩
  | 63 => ⟨"SkateSheet", "needDance", "(I)V"⟩
  | 64 => ⟨"SkateSheet", "votes", "(III)I"⟩
  | 65 => ⟨"SkateSheet$Score", "marksOfOrBetter", "(III)I"⟩
  | 66 => ⟨"SkateSheet", "ofJudge", "(II)I"⟩
  | 67 => ⟨"SkateSheet$Sheets", "ofOneJudge", "(I)I"⟩
  | 68 => ⟨"SkateSheetLaw", "couple", "(LSkateSheet;I[J)I"⟩
  | 69 => ⟨"SkateSheet", "couple", "(I)I"⟩
  | 70 => ⟨"SkateSheet", "needClub", "(I)V"⟩
  | 71 => ⟨"SkateSheet$Couples", "enrol", "(I)I"⟩
  | 72 => ⟨"SkateSheetLaw", "judge", "(LSkateSheet;I[J)I"⟩
  | 73 => ⟨"SkateSheet", "judge", "(I)I"⟩
  | 74 => ⟨"SkateSheet$Judges", "enrol", "(I)I"⟩
  | 75 => ⟨"SkateSheetLaw", "open", "(LSkateSheet;II[J)I"⟩
  | 76 => ⟨"SkateSheet", "open", "(II)I"⟩
  | 77 => ⟨"SkateSheet$Couples", "haveAll", "(I)Z"⟩
  | 78 => ⟨"SkateSheet$Couples", "clubsOf", "(I)I"⟩
  | 79 => ⟨"SkateSheet$Judges", "panelBeside", "(I)I"⟩
  | 80 => ⟨"SkateSheet$Event", "start", "(III)V"⟩
  | 81 => ⟨"SkateSheetLaw", "round", "(LSkateSheet;II[J)I"⟩
  | 82 => ⟨"SkateSheet", "round", "(II)I"⟩
  | 83 => ⟨"SkateSheet$Round", "start", "(II)V"⟩
  | 84 => ⟨"SkateSheet$Round", "forget", "()V"⟩
  | 85 => ⟨"SkateSheetLaw", "dance", "(LSkateSheet;[J)I"⟩
  | 86 => ⟨"SkateSheet", "dance", "()I"⟩
  | 87 => ⟨"SkateSheet$Round", "danceHeats", "(ILSkateSheet$Couples;)I"⟩
  | 88 => ⟨"SkateSheet$Round", "heatFor", "(IILSkateSheet$Couples;)I"⟩
  | 89 => ⟨"SkateSheet$Couples", "metWithAll", "(II)I"⟩
  | 90 => ⟨"SkateSheet$Couples", "meetEachOther", "(I)V"⟩
  | 91 => ⟨"SkateSheetLaw", "cross", "(LSkateSheet;III[J)I"⟩
  | 92 => ⟨"SkateSheet", "cross", "(III)I"⟩
  | 93 => ⟨"SkateSheetLaw", "cut", "(LSkateSheet;[J)I"⟩
  | 94 => ⟨"SkateSheet", "cut", "()I"⟩
  | 95 => ⟨"SkateSheet$Round", "choose", "(I)I"⟩
  | 96 => ⟨"SkateSheet$Round", "withMoreCrosses", "(II)I"⟩
  | 97 => ⟨"SkateSheet$Event", "keepOnly", "(I)V"⟩
  | 98 => ⟨"SkateSheet$Round", "stop", "()V"⟩
  | 99 => ⟨"SkateSheetLaw", "begin", "(LSkateSheet;[J)I"⟩
  | 100 => ⟨"SkateSheet", "begin", "()I"⟩
  | 101 => ⟨"SkateSheet$Sheets", "clear", "(II)V"⟩
  | 102 => ⟨"SkateSheetLaw", "sheet", "(LSkateSheet;III[J)I"⟩
  | 103 => ⟨"SkateSheet", "sheet", "(III)I"⟩
  | 104 => ⟨"SkateSheet$Sheets", "areMarks", "(I)Z"⟩
  | 105 => ⟨"SkateSheet$Sheets", "write", "(III)V"⟩
  | 106 => ⟨"SkateSheetLaw", "lose", "(LSkateSheet;II[J)I"⟩
  | 107 => ⟨"SkateSheet", "lose", "(II)I"⟩
  | 108 => ⟨"SkateSheet", "needSheet", "(II)V"⟩
  | 109 => ⟨"SkateSheet$Sheets", "erase", "(II)V"⟩
  | 110 => ⟨"SkateSheetLaw", "penalise", "(LSkateSheet;IIZ[J)I"⟩
  | 111 => ⟨"SkateSheet", "penalise", "(IIZ)Z"⟩
  | 112 => ⟨"SkateSheet$Sheets", "setPenalised", "(IIZ)V"⟩
  | 113 => ⟨"SkateSheetLaw", "close", "(LSkateSheet;[J)I"⟩
  | 114 => ⟨"SkateSheet", "close", "()I"⟩
  | 115 => ⟨"SkateSheet", "addDrifts", "()V"⟩
  | 116 => ⟨"SkateSheet$Score", "driftOf", "(LSkateSheet$Sheets;II)I"⟩
  | 117 => ⟨"SkateSheet", "givePoints", "()V"⟩
  | 118 => ⟨"SkateSheet$Couples", "agePoints", "()V"⟩
  | 119 => ⟨"SkateSheet$Couples", "raiseLevels", "(I)V"⟩
  | 120 => ⟨"SkateSheet$Event", "stop", "()V"⟩
  | 121 => ⟨"SkateSheetLaw", "ofCouple", "(LSkateSheet;II[J)I"⟩
  | 122 => ⟨"SkateSheetLaw", "meetings", "(LSkateSheet;II[J)I"⟩
  | 123 => ⟨"SkateSheetLaw", "ofJudge", "(LSkateSheet;II[J)I"⟩
  | 124 => ⟨"SkateSheetLaw", "votes", "(LSkateSheet;III[J)I"⟩
  | 125 => ⟨"SkateSheetLaw", "placed", "(LSkateSheet;III[J)I"⟩
  | 126 => ⟨"SkateSheetLaw", "result", "(LSkateSheet;II[J)I"⟩
  | 127 => ⟨"SkateSheetLaw", "many", "(LSkateSheet;I[J)I"⟩
  | 128 => ⟨"SkateSheetLaw", "exchanged", "(LSkateSheet;IIIII[J)I"⟩
  | 129 => ⟨"SkateSheet", "exchanged", "(IIIII)I"⟩
  | 130 => ⟨"SkateSheet", "tryExchange", "(IIII)V"⟩
  | 131 => ⟨"SkateSheet$Sheets", "exchange", "(IIII)V"⟩
  | 132 => ⟨"SkateSheetLaw", "bestExchange", "(LSkateSheet;III[J)I"⟩
  | 133 => ⟨"SkateSheet", "bestExchange", "(III)I"⟩
  | 134 => ⟨"SkateSheet$Event", "memberAt", "(I)I"⟩
  | 135 => ⟨"SkateSheetLaw", "without", "(LSkateSheet;II[J)I"⟩
  | 136 => ⟨"SkateSheet", "without", "(II)I"⟩
  | 137 => ⟨"SkateSheetModel", "<init>", "()V"⟩
  | 138 => ⟨"java/util/ArrayList", "<init>", "()V"⟩
  | 139 => ⟨"java/util/AbstractList", "<init>", "()V"⟩
  | 140 => ⟨"java/util/AbstractCollection", "<init>", "()V"⟩
  | 141 => ⟨"SkateSheetModel", "thrown", "()I"⟩
  | 142 => ⟨"SkateSheetModel", "couple", "(I)I"⟩
  | 143 => ⟨"SkateSheetModel", "in", "(III)Z"⟩
  | 144 => ⟨"SkateSheetModel", "no", "(I)I"⟩
  | 145 => ⟨"SkateSheetModel", "judge", "(I)I"⟩
  | 146 => ⟨"SkateSheetModel", "open", "(II)I"⟩
  | 147 => ⟨"SkateSheetModel", "size", "(I)I"⟩
  | 148 => ⟨"SkateSheetModel", "panelFor", "(I)I"⟩
  | 149 => ⟨"SkateSheetModel", "has", "(II)Z"⟩
  | 150 => ⟨"SkateSheetModel", "noHeats", "()V"⟩
  | 151 => ⟨"SkateSheetModel", "round", "(II)I"⟩
  | 152 => ⟨"SkateSheetModel", "dance", "()I"⟩
  | 153 => ⟨"SkateSheetModel", "cross", "(III)I"⟩
  | 154 => ⟨"SkateSheetModel", "isJudge", "(I)Z"⟩
  | 155 => ⟨"SkateSheetModel", "cut", "()I"⟩
  | 156 => ⟨"SkateSheetModel", "crossesOf", "(I)I"⟩
  | 157 => ⟨"SkateSheetModel", "begin", "()I"⟩
  | 158 => ⟨"SkateSheetModel", "sheet", "(III)I"⟩
  | 159 => ⟨"SkateSheetModel", "isDance", "(I)Z"⟩
  | 160 => ⟨"SkateSheetModel", "sheetsOf", "(I)I"⟩
  | 161 => ⟨"SkateSheetModel", "lose", "(II)I"⟩
  | 162 => ⟨"SkateSheetModel", "isSheet", "(II)Z"⟩
  | 163 => ⟨"SkateSheetModel", "penalise", "(IIZ)Z"⟩
  | 164 => ⟨"SkateSheetModel", "place", "(I)I"⟩
  | 165 => ⟨"SkateSheetModel", "close", "()I"⟩
  | 166 => ⟨"SkateSheetModel$Result", "<init>", "(LSkateSheetModel;I)V"⟩
  | 167 => ⟨"SkateSheetModel$Result", "place", "(I)V"⟩
  | 168 => ⟨"SkateSheetModel$Result", "count", "(IIIZ)I"⟩
  | 169 => ⟨"SkateSheetModel$Result", "ahead", "(IIII)I"⟩
  | 170 => ⟨"SkateSheetModel$Result", "over", "(I)I"⟩
  | 171 => ⟨"SkateSheetModel$Result", "give", "(III)V"⟩
  | 172 => ⟨"SkateSheetModel$Result", "ten", "(II)I"⟩
  | 173 => ⟨"SkateSheetModel$Result", "eleven", "(II)I"⟩
  | 174 => ⟨"SkateSheetModel", "standing", "(I)I"⟩
  | 175 => ⟨"java/util/ArrayList", "size", "()I"⟩
  | 176 => ⟨"SkateSheetModel", "ofCouple", "(II)I"⟩
  | 177 => ⟨"SkateSheetModel", "isCouple", "(I)Z"⟩
  | 178 => ⟨"SkateSheetModel", "coupleNow", "(II)I"⟩
  | 179 => ⟨"SkateSheetModel", "meetings", "(II)I"⟩
  | 180 => ⟨"SkateSheetModel", "ofJudge", "(II)I"⟩
  | 181 => ⟨"SkateSheetModel", "judgeNow", "(II)I"⟩
  | 182 => ⟨"SkateSheetModel", "votes", "(III)I"⟩
  | 183 => ⟨"SkateSheetModel", "placed", "(III)I"⟩
  | 184 => ⟨"SkateSheetModel", "result", "(II)I"⟩
  | 185 => ⟨"SkateSheetModel", "many", "(I)I"⟩
  | 186 => ⟨"SkateSheetModel", "manyNow", "(I)I"⟩
  | 187 => ⟨"SkateSheetModel", "meanStanding", "()D"⟩
  | 188 => ⟨"SkateSheetModel", "exchanged", "(IIIII)I"⟩
  | 189 => ⟨"SkateSheetModel", "exchangedNow", "([IIII)I"⟩
  | 190 => ⟨"SkateSheetModel", "exchange", "([III)V"⟩
  | 191 => ⟨"SkateSheetModel", "bestExchange", "(III)I"⟩
  | 192 => ⟨"SkateSheetModel", "without", "(II)I"⟩
  | 193 => ⟨"SkateSheetModel", "fragile", "()I"⟩
  | 194 => ⟨"SkateSheetModel", "fragileNow", "()I"⟩
  | 195 => ⟨"SkateSheetModel$Result", "winners", "()I"⟩
  | 196 => ⟨"SkateSheetModel", "digest", "()J"⟩
  | 197 => ⟨"SkateSheetModel", "votesNow", "(II)I"⟩
  | 198 => ⟨"SkateSheetLaw", "law", "([I)Z"⟩
  | _ => ⟨"", "", ""⟩
def xmb : Nat → ByteArray
  | 0 => prog_1_method_1_code
  | 1 => prog_2_method_1_code
  | 2 => prog_7_method_1_code
  | 3 => prog_4_method_1_code
  | 4 => prog_5_method_1_code
  | 5 => prog_3_method_1_code
  | 6 => prog_6_method_1_code
  | 7 => prog_7_method_5_code
  | 8 => prog_9_method_1_code
  | 9 => prog_8_method_1_code
  | 10 => prog_10_method_1_code
  | 11 => prog_1_method_21_code
  | 12 => prog_2_method_8_code
  | 13 => prog_4_method_2_code
  | 14 => prog_1_method_25_code
  | 15 => prog_8_method_4_code
  | 16 => prog_7_method_2_code
  | 17 => prog_20_method_49_code
  | 18 => prog_8_method_2_code
  | 19 => prog_10_method_2_code
  | 20 => prog_4_method_5_code
  | 21 => prog_1_method_37_code
  | 22 => prog_8_method_7_code
  | 23 => prog_9_method_6_code
  | 24 => prog_9_method_7_code
  | 25 => prog_7_method_4_code
  | 26 => prog_8_method_6_code
  | 27 => prog_10_method_3_code
  | 28 => prog_4_method_4_code
  | 29 => prog_8_method_8_code
  | 30 => prog_10_method_4_code
  | 31 => prog_4_method_3_code
  | 32 => prog_9_method_9_code
  | 33 => prog_8_method_9_code
  | 34 => prog_10_method_5_code
  | 35 => prog_7_method_3_code
  | 36 => prog_8_method_10_code
  | 37 => prog_10_method_7_code
  | 38 => prog_1_method_38_code
  | 39 => prog_8_method_11_code
  | 40 => prog_10_method_6_code
  | 41 => prog_8_method_12_code
  | 42 => prog_8_method_13_code
  | 43 => prog_8_method_14_code
  | 44 => prog_8_method_17_code
  | 45 => prog_8_method_15_code
  | 46 => prog_8_method_16_code
  | 47 => prog_8_method_18_code
  | 48 => prog_1_method_26_code
  | 49 => prog_1_method_20_code
  | 50 => prog_9_method_13_code
  | 51 => prog_9_method_11_code
  | 52 => prog_1_method_27_code
  | 53 => prog_1_method_14_code
  | 54 => prog_1_method_30_code
  | 55 => prog_6_method_8_code
  | 56 => prog_6_method_7_code
  | 57 => prog_1_method_15_code
  | 58 => prog_1_method_28_code
  | 59 => prog_1_method_19_code
  | 60 => prog_1_method_31_code
  | 61 => prog_3_method_5_code
  | 62 => prog_1_method_18_code
  | 63 => prog_1_method_32_code
  | 64 => prog_1_method_17_code
  | 65 => prog_8_method_3_code
  | 66 => prog_1_method_16_code
  | 67 => prog_9_method_12_code
  | 68 => method_3_code
  | 69 => prog_1_method_2_code
  | 70 => prog_1_method_29_code
  | 71 => prog_2_method_2_code
  | 72 => method_4_code
  | 73 => prog_1_method_3_code
  | 74 => prog_5_method_2_code
  | 75 => method_5_code
  | 76 => prog_1_method_4_code
  | 77 => prog_2_method_3_code
  | 78 => prog_2_method_4_code
  | 79 => prog_5_method_3_code
  | 80 => prog_3_method_2_code
  | 81 => method_6_code
  | 82 => prog_1_method_5_code
  | 83 => prog_6_method_3_code
  | 84 => prog_6_method_2_code
  | 85 => method_7_code
  | 86 => prog_1_method_6_code
  | 87 => prog_6_method_5_code
  | 88 => prog_6_method_6_code
  | 89 => prog_2_method_5_code
  | 90 => prog_2_method_6_code
  | 91 => method_8_code
  | 92 => prog_1_method_7_code
  | 93 => method_9_code
  | 94 => prog_1_method_8_code
  | 95 => prog_6_method_9_code
  | 96 => prog_6_method_10_code
  | 97 => prog_3_method_4_code
  | 98 => prog_6_method_4_code
  | 99 => method_10_code
  | 100 => prog_1_method_9_code
  | 101 => prog_9_method_2_code
  | 102 => method_11_code
  | 103 => prog_1_method_10_code
  | 104 => prog_9_method_3_code
  | 105 => prog_9_method_4_code
  | 106 => method_12_code
  | 107 => prog_1_method_11_code
  | 108 => prog_1_method_33_code
  | 109 => prog_9_method_5_code
  | 110 => method_13_code
  | 111 => prog_1_method_12_code
  | 112 => prog_9_method_10_code
  | 113 => method_14_code
  | 114 => prog_1_method_13_code
  | 115 => prog_1_method_35_code
  | 116 => prog_8_method_5_code
  | 117 => prog_1_method_36_code
  | 118 => prog_2_method_7_code
  | 119 => prog_2_method_9_code
  | 120 => prog_3_method_3_code
  | 121 => method_15_code
  | 122 => method_16_code
  | 123 => method_17_code
  | 124 => method_18_code
  | 125 => method_19_code
  | 126 => method_20_code
  | 127 => method_21_code
  | 128 => method_22_code
  | 129 => prog_1_method_22_code
  | 130 => prog_1_method_34_code
  | 131 => prog_9_method_8_code
  | 132 => method_23_code
  | 133 => prog_1_method_23_code
  | 134 => prog_3_method_6_code
  | 135 => method_24_code
  | 136 => prog_1_method_24_code
  | 137 => prog_12_method_1_code
  | 138 => prog_29_method_2_code
  | 139 => prog_28_method_1_code
  | 140 => prog_27_method_1_code
  | 141 => prog_12_method_2_code
  | 142 => prog_12_method_9_code
  | 143 => prog_12_method_4_code
  | 144 => prog_12_method_3_code
  | 145 => prog_12_method_10_code
  | 146 => prog_12_method_12_code
  | 147 => prog_12_method_6_code
  | 148 => prog_12_method_11_code
  | 149 => prog_12_method_5_code
  | 150 => prog_12_method_13_code
  | 151 => prog_12_method_14_code
  | 152 => prog_12_method_15_code
  | 153 => prog_12_method_16_code
  | 154 => prog_12_method_8_code
  | 155 => prog_12_method_18_code
  | 156 => prog_12_method_17_code
  | 157 => prog_12_method_19_code
  | 158 => prog_12_method_23_code
  | 159 => prog_12_method_20_code
  | 160 => prog_12_method_22_code
  | 161 => prog_12_method_24_code
  | 162 => prog_12_method_21_code
  | 163 => prog_12_method_26_code
  | 164 => prog_12_method_25_code
  | 165 => prog_12_method_27_code
  | 166 => prog_13_method_1_code
  | 167 => prog_13_method_4_code
  | 168 => prog_13_method_2_code
  | 169 => prog_13_method_3_code
  | 170 => prog_13_method_5_code
  | 171 => prog_13_method_6_code
  | 172 => prog_13_method_7_code
  | 173 => prog_13_method_8_code
  | 174 => prog_12_method_28_code
  | 175 => prog_29_method_8_code
  | 176 => prog_12_method_30_code
  | 177 => prog_12_method_7_code
  | 178 => prog_12_method_29_code
  | 179 => prog_12_method_31_code
  | 180 => prog_12_method_33_code
  | 181 => prog_12_method_32_code
  | 182 => prog_12_method_34_code
  | 183 => prog_12_method_35_code
  | 184 => prog_12_method_36_code
  | 185 => prog_12_method_38_code
  | 186 => prog_12_method_37_code
  | 187 => prog_12_method_39_code
  | 188 => prog_12_method_42_code
  | 189 => prog_12_method_41_code
  | 190 => prog_12_method_40_code
  | 191 => prog_12_method_43_code
  | 192 => prog_12_method_44_code
  | 193 => prog_12_method_46_code
  | 194 => prog_12_method_45_code
  | 195 => prog_13_method_9_code
  | 196 => prog_12_method_47_code
  | 197 => prog_12_method_48_code
  | 198 => code
  | _ => ⟨#[]⟩
def xml : Nat → Nat
  | 0 => 1
  | 1 => 1
  | 2 => 2
  | 3 => 4
  | 4 => 1
  | 5 => 1
  | 6 => 1
  | 7 => 3
  | 8 => 1
  | 9 => 1
  | 10 => 2
  | 11 => 3
  | 12 => 7
  | 13 => 4
  | 14 => 5
  | 15 => 4
  | 16 => 2
  | 17 => 1
  | 18 => 4
  | 19 => 2
  | 20 => 3
  | 21 => 2
  | 22 => 5
  | 23 => 3
  | 24 => 4
  | 25 => 3
  | 26 => 2
  | 27 => 3
  | 28 => 5
  | 29 => 8
  | 30 => 6
  | 31 => 5
  | 32 => 3
  | 33 => 6
  | 34 => 3
  | 35 => 3
  | 36 => 6
  | 37 => 6
  | 38 => 2
  | 39 => 8
  | 40 => 3
  | 41 => 4
  | 42 => 7
  | 43 => 3
  | 44 => 6
  | 45 => 7
  | 46 => 8
  | 47 => 6
  | 48 => 5
  | 49 => 2
  | 50 => 3
  | 51 => 4
  | 52 => 7
  | 53 => 3
  | 54 => 2
  | 55 => 4
  | 56 => 5
  | 57 => 3
  | 58 => 7
  | 59 => 4
  | 60 => 2
  | 61 => 2
  | 62 => 5
  | 63 => 2
  | 64 => 4
  | 65 => 4
  | 66 => 3
  | 67 => 4
  | 68 => 4
  | 69 => 2
  | 70 => 1
  | 71 => 2
  | 72 => 4
  | 73 => 2
  | 74 => 2
  | 75 => 5
  | 76 => 4
  | 77 => 2
  | 78 => 4
  | 79 => 5
  | 80 => 4
  | 81 => 5
  | 82 => 3
  | 83 => 3
  | 84 => 1
  | 85 => 3
  | 86 => 1
  | 87 => 6
  | 88 => 9
  | 89 => 5
  | 90 => 4
  | 91 => 6
  | 92 => 4
  | 93 => 3
  | 94 => 2
  | 95 => 4
  | 96 => 6
  | 97 => 3
  | 98 => 1
  | 99 => 3
  | 100 => 2
  | 101 => 3
  | 102 => 6
  | 103 => 4
  | 104 => 6
  | 105 => 6
  | 106 => 5
  | 107 => 3
  | 108 => 3
  | 109 => 3
  | 110 => 6
  | 111 => 6
  | 112 => 5
  | 113 => 3
  | 114 => 1
  | 115 => 3
  | 116 => 6
  | 117 => 3
  | 118 => 3
  | 119 => 3
  | 120 => 1
  | 121 => 5
  | 122 => 5
  | 123 => 5
  | 124 => 6
  | 125 => 6
  | 126 => 5
  | 127 => 4
  | 128 => 8
  | 129 => 6
  | 130 => 5
  | 131 => 6
  | 132 => 6
  | 133 => 10
  | 134 => 3
  | 135 => 5
  | 136 => 3
  | 137 => 1
  | 138 => 1
  | 139 => 1
  | 140 => 1
  | 141 => 1
  | 142 => 2
  | 143 => 3
  | 144 => 2
  | 145 => 2
  | 146 => 3
  | 147 => 3
  | 148 => 7
  | 149 => 2
  | 150 => 2
  | 151 => 3
  | 152 => 9
  | 153 => 6
  | 154 => 2
  | 155 => 5
  | 156 => 5
  | 157 => 3
  | 158 => 9
  | 159 => 2
  | 160 => 4
  | 161 => 3
  | 162 => 3
  | 163 => 6
  | 164 => 3
  | 165 => 6
  | 166 => 5
  | 167 => 15
  | 168 => 8
  | 169 => 8
  | 170 => 7
  | 171 => 5
  | 172 => 10
  | 173 => 12
  | 174 => 7
  | 175 => 1
  | 176 => 3
  | 177 => 2
  | 178 => 4
  | 179 => 3
  | 180 => 3
  | 181 => 5
  | 182 => 7
  | 183 => 6
  | 184 => 5
  | 185 => 2
  | 186 => 4
  | 187 => 3
  | 188 => 6
  | 189 => 6
  | 190 => 5
  | 191 => 9
  | 192 => 3
  | 193 => 1
  | 194 => 4
  | 195 => 4
  | 196 => 7
  | 197 => 5
  | 198 => 9
  | _ => 0
def xmr : Nat → Option FieldType
  | 0 => (Option.none : Option Jvm.ClassFile.FieldType)
  | 1 => (Option.none : Option Jvm.ClassFile.FieldType)
  | 2 => (Option.none : Option Jvm.ClassFile.FieldType)
  | 3 => (Option.none : Option Jvm.ClassFile.FieldType)
  | 4 => (Option.none : Option Jvm.ClassFile.FieldType)
  | 5 => (Option.none : Option Jvm.ClassFile.FieldType)
  | 6 => (Option.none : Option Jvm.ClassFile.FieldType)
  | 7 => (Option.none : Option Jvm.ClassFile.FieldType)
  | 8 => (Option.none : Option Jvm.ClassFile.FieldType)
  | 9 => (Option.none : Option Jvm.ClassFile.FieldType)
  | 10 => (Option.none : Option Jvm.ClassFile.FieldType)
  | 11 => (Option.some Jvm.ClassFile.FieldType.double)
  | 12 => (Option.some Jvm.ClassFile.FieldType.int)
  | 13 => (Option.some Jvm.ClassFile.FieldType.int)
  | 14 => (Option.some Jvm.ClassFile.FieldType.int)
  | 15 => (Option.some Jvm.ClassFile.FieldType.int)
  | 16 => (Option.some Jvm.ClassFile.FieldType.int)
  | 17 => (Option.some Jvm.ClassFile.FieldType.int)
  | 18 => (Option.none : Option Jvm.ClassFile.FieldType)
  | 19 => (Option.none : Option Jvm.ClassFile.FieldType)
  | 20 => (Option.none : Option Jvm.ClassFile.FieldType)
  | 21 => (Option.some Jvm.ClassFile.FieldType.boolean)
  | 22 => (Option.none : Option Jvm.ClassFile.FieldType)
  | 23 => (Option.some Jvm.ClassFile.FieldType.boolean)
  | 24 => (Option.some Jvm.ClassFile.FieldType.int)
  | 25 => (Option.none : Option Jvm.ClassFile.FieldType)
  | 26 => (Option.some Jvm.ClassFile.FieldType.int)
  | 27 => (Option.none : Option Jvm.ClassFile.FieldType)
  | 28 => (Option.none : Option Jvm.ClassFile.FieldType)
  | 29 => (Option.none : Option Jvm.ClassFile.FieldType)
  | 30 => (Option.none : Option Jvm.ClassFile.FieldType)
  | 31 => (Option.none : Option Jvm.ClassFile.FieldType)
  | 32 => (Option.some Jvm.ClassFile.FieldType.boolean)
  | 33 => (Option.some Jvm.ClassFile.FieldType.int)
  | 34 => (Option.some Jvm.ClassFile.FieldType.int)
  | 35 => (Option.none : Option Jvm.ClassFile.FieldType)
  | 36 => (Option.some Jvm.ClassFile.FieldType.int)
  | 37 => (Option.some Jvm.ClassFile.FieldType.int)
  | 38 => (Option.some Jvm.ClassFile.FieldType.int)
  | 39 => (Option.some Jvm.ClassFile.FieldType.int)
  | 40 => (Option.some Jvm.ClassFile.FieldType.int)
  | 41 => (Option.none : Option Jvm.ClassFile.FieldType)
  | 42 => (Option.none : Option Jvm.ClassFile.FieldType)
  | 43 => (Option.some Jvm.ClassFile.FieldType.int)
  | 44 => (Option.some Jvm.ClassFile.FieldType.int)
  | 45 => (Option.some Jvm.ClassFile.FieldType.int)
  | 46 => (Option.some Jvm.ClassFile.FieldType.int)
  | 47 => (Option.none : Option Jvm.ClassFile.FieldType)
  | 48 => (Option.some Jvm.ClassFile.FieldType.long)
  | 49 => (Option.some Jvm.ClassFile.FieldType.int)
  | 50 => (Option.some Jvm.ClassFile.FieldType.int)
  | 51 => (Option.some Jvm.ClassFile.FieldType.int)
  | 52 => (Option.some Jvm.ClassFile.FieldType.long)
  | 53 => (Option.some Jvm.ClassFile.FieldType.int)
  | 54 => (Option.none : Option Jvm.ClassFile.FieldType)
  | 55 => (Option.some Jvm.ClassFile.FieldType.int)
  | 56 => (Option.some Jvm.ClassFile.FieldType.int)
  | 57 => (Option.some Jvm.ClassFile.FieldType.int)
  | 58 => (Option.some Jvm.ClassFile.FieldType.long)
  | 59 => (Option.some Jvm.ClassFile.FieldType.int)
  | 60 => (Option.none : Option Jvm.ClassFile.FieldType)
  | 61 => (Option.some Jvm.ClassFile.FieldType.int)
  | 62 => (Option.some Jvm.ClassFile.FieldType.int)
  | 63 => (Option.none : Option Jvm.ClassFile.FieldType)
  | 64 => (Option.some Jvm.ClassFile.FieldType.int)
  | 65 => (Option.some Jvm.ClassFile.FieldType.int)
  | 66 => (Option.some Jvm.ClassFile.FieldType.int)
  | 67 => (Option.some Jvm.ClassFile.FieldType.int)
  | 68 => (Option.some Jvm.ClassFile.FieldType.int)
  | 69 => (Option.some Jvm.ClassFile.FieldType.int)
  | 70 => (Option.none : Option Jvm.ClassFile.FieldType)
  | 71 => (Option.some Jvm.ClassFile.FieldType.int)
  | 72 => (Option.some Jvm.ClassFile.FieldType.int)
  | 73 => (Option.some Jvm.ClassFile.FieldType.int)
  | 74 => (Option.some Jvm.ClassFile.FieldType.int)
  | 75 => (Option.some Jvm.ClassFile.FieldType.int)
  | 76 => (Option.some Jvm.ClassFile.FieldType.int)
  | 77 => (Option.some Jvm.ClassFile.FieldType.boolean)
  | 78 => (Option.some Jvm.ClassFile.FieldType.int)
  | 79 => (Option.some Jvm.ClassFile.FieldType.int)
  | 80 => (Option.none : Option Jvm.ClassFile.FieldType)
  | 81 => (Option.some Jvm.ClassFile.FieldType.int)
  | 82 => (Option.some Jvm.ClassFile.FieldType.int)
  | 83 => (Option.none : Option Jvm.ClassFile.FieldType)
  | 84 => (Option.none : Option Jvm.ClassFile.FieldType)
  | 85 => (Option.some Jvm.ClassFile.FieldType.int)
  | 86 => (Option.some Jvm.ClassFile.FieldType.int)
  | 87 => (Option.some Jvm.ClassFile.FieldType.int)
  | 88 => (Option.some Jvm.ClassFile.FieldType.int)
  | 89 => (Option.some Jvm.ClassFile.FieldType.int)
  | 90 => (Option.none : Option Jvm.ClassFile.FieldType)
  | 91 => (Option.some Jvm.ClassFile.FieldType.int)
  | 92 => (Option.some Jvm.ClassFile.FieldType.int)
  | 93 => (Option.some Jvm.ClassFile.FieldType.int)
  | 94 => (Option.some Jvm.ClassFile.FieldType.int)
  | 95 => (Option.some Jvm.ClassFile.FieldType.int)
  | 96 => (Option.some Jvm.ClassFile.FieldType.int)
  | 97 => (Option.none : Option Jvm.ClassFile.FieldType)
  | 98 => (Option.none : Option Jvm.ClassFile.FieldType)
  | 99 => (Option.some Jvm.ClassFile.FieldType.int)
  | 100 => (Option.some Jvm.ClassFile.FieldType.int)
  | 101 => (Option.none : Option Jvm.ClassFile.FieldType)
  | 102 => (Option.some Jvm.ClassFile.FieldType.int)
  | 103 => (Option.some Jvm.ClassFile.FieldType.int)
  | 104 => (Option.some Jvm.ClassFile.FieldType.boolean)
  | 105 => (Option.none : Option Jvm.ClassFile.FieldType)
  | 106 => (Option.some Jvm.ClassFile.FieldType.int)
  | 107 => (Option.some Jvm.ClassFile.FieldType.int)
  | 108 => (Option.none : Option Jvm.ClassFile.FieldType)
  | 109 => (Option.none : Option Jvm.ClassFile.FieldType)
  | 110 => (Option.some Jvm.ClassFile.FieldType.int)
  | 111 => (Option.some Jvm.ClassFile.FieldType.boolean)
  | 112 => (Option.none : Option Jvm.ClassFile.FieldType)
  | 113 => (Option.some Jvm.ClassFile.FieldType.int)
  | 114 => (Option.some Jvm.ClassFile.FieldType.int)
  | 115 => (Option.none : Option Jvm.ClassFile.FieldType)
  | 116 => (Option.some Jvm.ClassFile.FieldType.int)
  | 117 => (Option.none : Option Jvm.ClassFile.FieldType)
  | 118 => (Option.none : Option Jvm.ClassFile.FieldType)
  | 119 => (Option.none : Option Jvm.ClassFile.FieldType)
  | 120 => (Option.none : Option Jvm.ClassFile.FieldType)
  | 121 => (Option.some Jvm.ClassFile.FieldType.int)
  | 122 => (Option.some Jvm.ClassFile.FieldType.int)
  | 123 => (Option.some Jvm.ClassFile.FieldType.int)
  | 124 => (Option.some Jvm.ClassFile.FieldType.int)
  | 125 => (Option.some Jvm.ClassFile.FieldType.int)
  | 126 => (Option.some Jvm.ClassFile.FieldType.int)
  | 127 => (Option.some Jvm.ClassFile.FieldType.int)
  | 128 => (Option.some Jvm.ClassFile.FieldType.int)
  | 129 => (Option.some Jvm.ClassFile.FieldType.int)
  | 130 => (Option.none : Option Jvm.ClassFile.FieldType)
  | 131 => (Option.none : Option Jvm.ClassFile.FieldType)
  | 132 => (Option.some Jvm.ClassFile.FieldType.int)
  | 133 => (Option.some Jvm.ClassFile.FieldType.int)
  | 134 => (Option.some Jvm.ClassFile.FieldType.int)
  | 135 => (Option.some Jvm.ClassFile.FieldType.int)
  | 136 => (Option.some Jvm.ClassFile.FieldType.int)
  | 137 => (Option.none : Option Jvm.ClassFile.FieldType)
  | 138 => (Option.none : Option Jvm.ClassFile.FieldType)
  | 139 => (Option.none : Option Jvm.ClassFile.FieldType)
  | 140 => (Option.none : Option Jvm.ClassFile.FieldType)
  | 141 => (Option.some Jvm.ClassFile.FieldType.int)
  | 142 => (Option.some Jvm.ClassFile.FieldType.int)
  | 143 => (Option.some Jvm.ClassFile.FieldType.boolean)
  | 144 => (Option.some Jvm.ClassFile.FieldType.int)
  | 145 => (Option.some Jvm.ClassFile.FieldType.int)
  | 146 => (Option.some Jvm.ClassFile.FieldType.int)
  | 147 => (Option.some Jvm.ClassFile.FieldType.int)
  | 148 => (Option.some Jvm.ClassFile.FieldType.int)
  | 149 => (Option.some Jvm.ClassFile.FieldType.boolean)
  | 150 => (Option.none : Option Jvm.ClassFile.FieldType)
  | 151 => (Option.some Jvm.ClassFile.FieldType.int)
  | 152 => (Option.some Jvm.ClassFile.FieldType.int)
  | 153 => (Option.some Jvm.ClassFile.FieldType.int)
  | 154 => (Option.some Jvm.ClassFile.FieldType.boolean)
  | 155 => (Option.some Jvm.ClassFile.FieldType.int)
  | 156 => (Option.some Jvm.ClassFile.FieldType.int)
  | 157 => (Option.some Jvm.ClassFile.FieldType.int)
  | 158 => (Option.some Jvm.ClassFile.FieldType.int)
  | 159 => (Option.some Jvm.ClassFile.FieldType.boolean)
  | 160 => (Option.some Jvm.ClassFile.FieldType.int)
  | 161 => (Option.some Jvm.ClassFile.FieldType.int)
  | 162 => (Option.some Jvm.ClassFile.FieldType.boolean)
  | 163 => (Option.some Jvm.ClassFile.FieldType.boolean)
  | 164 => (Option.some Jvm.ClassFile.FieldType.int)
  | 165 => (Option.some Jvm.ClassFile.FieldType.int)
  | 166 => (Option.none : Option Jvm.ClassFile.FieldType)
  | 167 => (Option.none : Option Jvm.ClassFile.FieldType)
  | 168 => (Option.some Jvm.ClassFile.FieldType.int)
  | 169 => (Option.some Jvm.ClassFile.FieldType.int)
  | 170 => (Option.some Jvm.ClassFile.FieldType.int)
  | 171 => (Option.none : Option Jvm.ClassFile.FieldType)
  | 172 => (Option.some Jvm.ClassFile.FieldType.int)
  | 173 => (Option.some Jvm.ClassFile.FieldType.int)
  | 174 => (Option.some Jvm.ClassFile.FieldType.int)
  | 175 => (Option.some Jvm.ClassFile.FieldType.int)
  | 176 => (Option.some Jvm.ClassFile.FieldType.int)
  | 177 => (Option.some Jvm.ClassFile.FieldType.boolean)
  | 178 => (Option.some Jvm.ClassFile.FieldType.int)
  | 179 => (Option.some Jvm.ClassFile.FieldType.int)
  | 180 => (Option.some Jvm.ClassFile.FieldType.int)
  | 181 => (Option.some Jvm.ClassFile.FieldType.int)
  | 182 => (Option.some Jvm.ClassFile.FieldType.int)
  | 183 => (Option.some Jvm.ClassFile.FieldType.int)
  | 184 => (Option.some Jvm.ClassFile.FieldType.int)
  | 185 => (Option.some Jvm.ClassFile.FieldType.int)
  | 186 => (Option.some Jvm.ClassFile.FieldType.int)
  | 187 => (Option.some Jvm.ClassFile.FieldType.double)
  | 188 => (Option.some Jvm.ClassFile.FieldType.int)
  | 189 => (Option.some Jvm.ClassFile.FieldType.int)
  | 190 => (Option.none : Option Jvm.ClassFile.FieldType)
  | 191 => (Option.some Jvm.ClassFile.FieldType.int)
  | 192 => (Option.some Jvm.ClassFile.FieldType.int)
  | 193 => (Option.some Jvm.ClassFile.FieldType.int)
  | 194 => (Option.some Jvm.ClassFile.FieldType.int)
  | 195 => (Option.some Jvm.ClassFile.FieldType.int)
  | 196 => (Option.some Jvm.ClassFile.FieldType.long)
  | 197 => (Option.some Jvm.ClassFile.FieldType.int)
  | 198 => (Option.some Jvm.ClassFile.FieldType.boolean)
  | _ => none
def xmn : Nat → Nat
  | 0 => 0
  | 1 => 0
  | 2 => 1
  | 3 => 2
  | 4 => 0
  | 5 => 0
  | 6 => 0
  | 7 => 1
  | 8 => 0
  | 9 => 0
  | 10 => 1
  | 11 => 0
  | 12 => 1
  | 13 => 2
  | 14 => 0
  | 15 => 0
  | 16 => 1
  | 17 => 1
  | 18 => 2
  | 19 => 1
  | 20 => 1
  | 21 => 2
  | 22 => 2
  | 23 => 2
  | 24 => 3
  | 25 => 2
  | 26 => 2
  | 27 => 2
  | 28 => 3
  | 29 => 2
  | 30 => 1
  | 31 => 3
  | 32 => 2
  | 33 => 3
  | 34 => 2
  | 35 => 2
  | 36 => 3
  | 37 => 3
  | 38 => 2
  | 39 => 2
  | 40 => 2
  | 41 => 0
  | 42 => 0
  | 43 => 1
  | 44 => 1
  | 45 => 2
  | 46 => 2
  | 47 => 3
  | 48 => 0
  | 49 => 1
  | 50 => 0
  | 51 => 1
  | 52 => 2
  | 53 => 2
  | 54 => 1
  | 55 => 1
  | 56 => 2
  | 57 => 2
  | 58 => 2
  | 59 => 2
  | 60 => 1
  | 61 => 1
  | 62 => 3
  | 63 => 1
  | 64 => 3
  | 65 => 3
  | 66 => 2
  | 67 => 1
  | 68 => 3
  | 69 => 1
  | 70 => 1
  | 71 => 1
  | 72 => 3
  | 73 => 1
  | 74 => 1
  | 75 => 4
  | 76 => 2
  | 77 => 1
  | 78 => 1
  | 79 => 1
  | 80 => 3
  | 81 => 4
  | 82 => 2
  | 83 => 2
  | 84 => 0
  | 85 => 2
  | 86 => 0
  | 87 => 2
  | 88 => 3
  | 89 => 2
  | 90 => 1
  | 91 => 5
  | 92 => 3
  | 93 => 2
  | 94 => 0
  | 95 => 1
  | 96 => 2
  | 97 => 1
  | 98 => 0
  | 99 => 2
  | 100 => 0
  | 101 => 2
  | 102 => 5
  | 103 => 3
  | 104 => 1
  | 105 => 3
  | 106 => 4
  | 107 => 2
  | 108 => 2
  | 109 => 2
  | 110 => 5
  | 111 => 3
  | 112 => 3
  | 113 => 2
  | 114 => 0
  | 115 => 0
  | 116 => 3
  | 117 => 0
  | 118 => 0
  | 119 => 1
  | 120 => 0
  | 121 => 4
  | 122 => 4
  | 123 => 4
  | 124 => 5
  | 125 => 5
  | 126 => 4
  | 127 => 3
  | 128 => 7
  | 129 => 5
  | 130 => 4
  | 131 => 4
  | 132 => 5
  | 133 => 3
  | 134 => 1
  | 135 => 4
  | 136 => 2
  | 137 => 0
  | 138 => 0
  | 139 => 0
  | 140 => 0
  | 141 => 0
  | 142 => 1
  | 143 => 3
  | 144 => 1
  | 145 => 1
  | 146 => 2
  | 147 => 1
  | 148 => 1
  | 149 => 2
  | 150 => 0
  | 151 => 2
  | 152 => 0
  | 153 => 3
  | 154 => 1
  | 155 => 0
  | 156 => 1
  | 157 => 0
  | 158 => 3
  | 159 => 1
  | 160 => 1
  | 161 => 2
  | 162 => 2
  | 163 => 3
  | 164 => 1
  | 165 => 0
  | 166 => 2
  | 167 => 1
  | 168 => 4
  | 169 => 4
  | 170 => 1
  | 171 => 3
  | 172 => 2
  | 173 => 2
  | 174 => 1
  | 175 => 0
  | 176 => 2
  | 177 => 1
  | 178 => 2
  | 179 => 2
  | 180 => 2
  | 181 => 2
  | 182 => 3
  | 183 => 3
  | 184 => 2
  | 185 => 1
  | 186 => 1
  | 187 => 0
  | 188 => 5
  | 189 => 4
  | 190 => 3
  | 191 => 3
  | 192 => 2
  | 193 => 0
  | 194 => 0
  | 195 => 0
  | 196 => 0
  | 197 => 2
  | 198 => 1
  | _ => 0
def xc0 : List (Option Instr) := [some (.aload_n 0), some (.invokespecial 1), none, none, some (.aload_n 0), some (.new 7), none, none, some (.dup), some (.invokespecial 9), none, none, some (.putfield 10), none, none, some (.aload_n 0), some (.new 16), none, none, some (.dup), some (.invokespecial 18), none, none, some (.putfield 19), none, none, some (.aload_n 0), some (.new 23), none, none, some (.dup), some (.invokespecial 25), none, none, some (.putfield 26), none, none, some (.aload_n 0), some (.new 30), none, none, some (.dup), some (.invokespecial 32), none, none, some (.putfield 33), none, none, some (.aload_n 0), some (.new 37), none, none, some (.dup), some (.invokespecial 39), none, none, some (.putfield 40), none, none, some (.aload_n 0), some (.new 44), none, none, some (.dup), some (.invokespecial 46), none, none, some (.putfield 47), none, none, some (.aload_n 0), some (.new 44), none, none, some (.dup), some (.invokespecial 46), none, none, some (.putfield 51), none, none, some (.return_)]
def xc1 : List (Option Instr) := [some (.aload_n 0), some (.invokespecial 3), none, none, some (.aload_n 0), some (.new 9), none, none, some (.dup), some (.bipush 10), none, some (.invokespecial 11), none, none, some (.putfield 14), none, none, some (.aload_n 0), some (.new 9), none, none, some (.dup), some (.bipush 10), none, some (.invokespecial 11), none, none, some (.putfield 20), none, none, some (.aload_n 0), some (.new 23), none, none, some (.dup), some (.bipush 10), none, some (.bipush 10), none, some (.invokespecial 25), none, none, some (.putfield 28), none, none, some (.aload_n 0), some (.new 23), none, none, some (.dup), some (.bipush 10), none, some (.iconst 5), some (.invokespecial 25), none, none, some (.putfield 32), none, none, some (.return_)]
def xc2 : List (Option Instr) := [some (.aload_n 0), some (.invokespecial 1), none, none, some (.aload_n 0), some (.iload_n 1), some (.ifCond .le 7), none, none, some (.iload_n 1), some (.goto 4), none, none, some (.iconst 0), some (.newarray .int), none, some (.putfield 7), none, none, some (.return_)]
def xc3 : List (Option Instr) := [some (.aload_n 0), some (.invokespecial 3), none, none, some (.iload_n 1), some (.iload_n 2), some (.imul), some (.istore_n 3), some (.aload_n 0), some (.iload_n 2), some (.putfield 9), none, none, some (.aload_n 0), some (.iload_n 3), some (.ifCond .le 7), none, none, some (.iload_n 3), some (.goto 4), none, none, some (.iconst 0), some (.newarray .int), none, some (.putfield 15), none, none, some (.return_)]
def xc4 : List (Option Instr) := [some (.aload_n 0), some (.invokespecial 3), none, none, some (.aload_n 0), some (.new 9), none, none, some (.dup), some (.bipush 7), none, some (.invokespecial 11), none, none, some (.putfield 14), none, none, some (.aload_n 0), some (.new 9), none, none, some (.dup), some (.bipush 7), none, some (.invokespecial 11), none, none, some (.putfield 20), none, none, some (.return_)]
def xc5 : List (Option Instr) := [some (.aload_n 0), some (.invokespecial 3), none, none, some (.aload_n 0), some (.new 9), none, none, some (.dup), some (.bipush 10), none, some (.invokespecial 11), none, none, some (.putfield 14), none, none, some (.return_)]
def xc6 : List (Option Instr) := [some (.aload_n 0), some (.invokespecial 3), none, none, some (.aload_n 0), some (.new 9), none, none, some (.dup), some (.bipush 7), none, some (.iconst 5), some (.invokespecial 11), none, none, some (.putfield 14), none, none, some (.aload_n 0), some (.new 20), none, none, some (.dup), some (.bipush 10), none, some (.invokespecial 22), none, none, some (.putfield 25), none, none, some (.aload_n 0), some (.new 20), none, none, some (.dup), some (.iconst 5), some (.invokespecial 22), none, none, some (.putfield 29), none, none, some (.aload_n 0), some (.getfield 25), none, none, some (.iconst (-1)), some (.invokevirtual 32), none, none, some (.return_)]
def xc7 : List (Option Instr) := [some (.iconst 0), some (.istore_n 2), some (.iload_n 2), some (.aload_n 0), some (.getfield 7), none, none, some (.arraylength), some (.if_icmp .ge 16), none, none, some (.aload_n 0), some (.getfield 7), none, none, some (.iload_n 2), some (.iload_n 1), some (.iastore), some (.iinc 2 1), none, none, some (.goto (-19)), none, none, some (.return_)]
def xc8 : List (Option Instr) := [some (.aload_n 0), some (.invokespecial 3), none, none, some (.aload_n 0), some (.new 9), none, none, some (.dup), some (.bipush 35), none, some (.bipush 8), none, some (.invokespecial 11), none, none, some (.putfield 14), none, none, some (.aload_n 0), some (.new 20), none, none, some (.dup), some (.iconst 5), some (.invokespecial 22), none, none, some (.putfield 25), none, none, some (.return_)]
def xc9 : List (Option Instr) := [some (.aload_n 0), some (.invokespecial 3), none, none, some (.aload_n 0), some (.new 9), none, none, some (.dup), some (.iconst 5), some (.bipush 8), none, some (.invokespecial 11), none, none, some (.putfield 14), none, none, some (.aload_n 0), some (.new 9), none, none, some (.dup), some (.iconst 5), some (.bipush 8), none, some (.invokespecial 11), none, none, some (.putfield 20), none, none, some (.aload_n 0), some (.new 23), none, none, some (.dup), some (.bipush 8), none, some (.invokespecial 25), none, none, some (.putfield 28), none, none, some (.aload_n 0), some (.new 23), none, none, some (.dup), some (.bipush 8), none, some (.invokespecial 25), none, none, some (.putfield 32), none, none, some (.aload_n 0), some (.new 23), none, none, some (.dup), some (.bipush 8), none, some (.invokespecial 25), none, none, some (.putfield 35), none, none, some (.aload_n 0), some (.new 38), none, none, some (.dup), some (.bipush 40), none, some (.invokespecial 40), none, none, some (.putfield 41), none, none, some (.aload_n 0), some (.new 23), none, none, some (.dup), some (.iconst 5), some (.invokespecial 25), none, none, some (.putfield 45), none, none, some (.aload_n 0), some (.new 23), none, none, some (.dup), some (.bipush 8), none, some (.invokespecial 25), none, none, some (.putfield 48), none, none, some (.aload_n 0), some (.new 23), none, none, some (.dup), some (.bipush 8), none, some (.invokespecial 25), none, none, some (.putfield 51), none, none, some (.return_)]
def xc10 : List (Option Instr) := [some (.aload_n 0), some (.invokespecial 3), none, none, some (.aload_n 0), some (.new 9), none, none, some (.dup), some (.iload_n 1), some (.bipush 9), none, some (.invokespecial 11), none, none, some (.putfield 14), none, none, some (.aload_n 0), some (.new 9), none, none, some (.dup), some (.iload_n 1), some (.bipush 9), none, some (.invokespecial 11), none, none, some (.putfield 20), none, none, some (.return_)]
def xc11 : List (Option Instr) := [some (.iconst 0), some (.istore_n 1), some (.iconst 0), some (.istore_n 2), some (.iload_n 2), some (.aload_n 0), some (.getfield 10), none, none, some (.getfield 58), none, none, some (.if_icmp .ge 20), none, none, some (.iload_n 1), some (.aload_n 0), some (.getfield 10), none, none, some (.iload_n 2), some (.invokevirtual 261), none, none, some (.iadd), some (.istore_n 1), some (.iinc 2 1), none, none, some (.goto (-25)), none, none, some (.aload_n 0), some (.getfield 10), none, none, some (.getfield 58), none, none, some (.ifCond .le 17), none, none, some (.iload_n 1), some (.i2d), some (.aload_n 0), some (.getfield 10), none, none, some (.getfield 58), none, none, some (.i2d), some (.ddiv), some (.goto 4), none, none, some (.dconst 0), some (.dreturn)]
def xc12 : List (Option Instr) := [some (.iconst 0), some (.istore_n 2), some (.iconst 0), some (.istore_n 3), some (.iconst 0), some (.istore 4), none, some (.iconst 0), some (.istore 5), none, some (.iload 5), none, some (.iconst 5), some (.if_icmp .ge 69), none, none, some (.aload_n 0), some (.getfield 32), none, none, some (.iload_n 1), some (.iload 5), none, some (.invokevirtual 50), none, none, some (.iconst 5), some (.iload 5), none, some (.isub), some (.imul), some (.istore 6), none, some (.iload 6), none, some (.iload_n 2), some (.if_icmp .le 14), none, none, some (.iload_n 3), some (.istore 4), none, some (.iload_n 2), some (.istore_n 3), some (.iload 6), none, some (.istore_n 2), some (.goto 29), none, none, some (.iload 6), none, some (.iload_n 3), some (.if_icmp .le 12), none, none, some (.iload_n 3), some (.istore 4), none, some (.iload 6), none, some (.istore_n 3), some (.goto 14), none, none, some (.iload 6), none, some (.iload 4), none, some (.if_icmp .le 7), none, none, some (.iload 6), none, some (.istore 4), none, some (.iinc 5 1), none, none, some (.goto (-69)), none, none, some (.iload_n 2), some (.iload_n 3), some (.iadd), some (.iload 4), none, some (.iadd), some (.ireturn)]
def xc13 : List (Option Instr) := [some (.iload_n 2), some (.ifCond .lt 22), none, none, some (.iload_n 2), some (.aload_n 0), some (.getfield 9), none, none, some (.if_icmp .ge 14), none, none, some (.iload_n 1), some (.aload_n 0), some (.getfield 9), none, none, some (.imul), some (.iload_n 2), some (.iadd), some (.goto 4), none, none, some (.iconst (-1)), some (.istore_n 3), some (.iload_n 3), some (.ifCond .lt 21), none, none, some (.iload_n 3), some (.aload_n 0), some (.getfield 15), none, none, some (.arraylength), some (.if_icmp .ge 12), none, none, some (.aload_n 0), some (.getfield 15), none, none, some (.iload_n 3), some (.iaload), some (.goto 4), none, none, some (.iconst 0), some (.ireturn)]
def xc14 : List (Option Instr) := [some (.aload_n 0), some (.getfield 111), none, none, some (.ifCond .ne 5), none, none, some (.iconst (-1)), some (.ireturn), some (.aload_n 0), some (.getfield 47), none, none, some (.invokevirtual 334), none, none, some (.istore_n 1), some (.aload_n 0), some (.getfield 26), none, none, some (.getfield 140), none, none, some (.invokestatic 85), none, none, some (.istore_n 2), some (.iconst 1), some (.istore_n 3), some (.iload_n 3), some (.iload_n 2), some (.if_icmp .ge 76), none, none, some (.iconst 1), some (.istore 4), none, some (.iload 4), none, some (.sipush 128), none, none, some (.if_icmp .ge 59), none, none, some (.iload 4), none, some (.aload_n 0), some (.getfield 26), none, none, some (.getfield 140), none, none, some (.iconst (-1)), some (.ixor), some (.iand), some (.ifCond .ne 38), none, none, some (.iload 4), none, some (.invokestatic 85), none, none, some (.iload_n 3), some (.if_icmp .ne 29), none, none, some (.aload_n 0), some (.getfield 51), none, none, some (.aload_n 0), some (.getfield 40), none, none, some (.iload 4), none, some (.invokevirtual 186), none, none, some (.aload_n 0), some (.getfield 51), none, none, some (.invokevirtual 334), none, none, some (.iload_n 1), some (.if_icmp .eq 5), none, none, some (.iload_n 3), some (.ireturn), some (.iinc 4 1), none, none, some (.goto (-61)), none, none, some (.iinc 3 1), none, none, some (.goto (-75)), none, none, some (.iconst (-1)), some (.ireturn)]
def xc15 : List (Option Instr) := [some (.bipush 16), none, some (.istore_n 1), some (.iconst 0), some (.istore_n 2), some (.iload_n 2), some (.aload_n 0), some (.getfield 60), none, none, some (.if_icmp .ge 22), none, none, some (.iload_n 1), some (.aload_n 0), some (.getfield 32), none, none, some (.iload_n 2), some (.invokevirtual 95), none, none, some (.invokestatic 99), none, none, some (.istore_n 1), some (.iinc 2 1), none, none, some (.goto (-24)), none, none, some (.iconst 0), some (.istore_n 2), some (.iconst 0), some (.istore_n 3), some (.iload_n 3), some (.aload_n 0), some (.getfield 60), none, none, some (.if_icmp .ge 27), none, none, some (.aload_n 0), some (.getfield 32), none, none, some (.iload_n 3), some (.invokevirtual 95), none, none, some (.iload_n 1), some (.if_icmp .ne 9), none, none, some (.iload_n 2), some (.iconst 1), some (.iload_n 3), some (.ishl), some (.ior), some (.istore_n 2), some (.iinc 3 1), none, none, some (.goto (-29)), none, none, some (.iload_n 2), some (.ireturn)]
def xc16 : List (Option Instr) := [some (.iload_n 1), some (.ifCond .lt 21), none, none, some (.iload_n 1), some (.aload_n 0), some (.getfield 7), none, none, some (.arraylength), some (.if_icmp .ge 12), none, none, some (.aload_n 0), some (.getfield 7), none, none, some (.iload_n 1), some (.iaload), some (.goto 4), none, none, some (.iconst 0), some (.ireturn)]
def xc17 : List (Option Instr) := [some (.iload_n 0), some (.iload_n 0), some (.iconst 1), some (.iushr), some (.ldc_w 265), none, none, some (.iand), some (.isub), some (.istore_n 0), some (.iload_n 0), some (.ldc_w 266), none, none, some (.iand), some (.iload_n 0), some (.iconst 2), some (.iushr), some (.ldc_w 266), none, none, some (.iand), some (.iadd), some (.istore_n 0), some (.iload_n 0), some (.iload_n 0), some (.iconst 4), some (.iushr), some (.iadd), some (.ldc_w 267), none, none, some (.iand), some (.istore_n 0), some (.iload_n 0), some (.iload_n 0), some (.bipush 8), none, some (.iushr), some (.iadd), some (.istore_n 0), some (.iload_n 0), some (.iload_n 0), some (.bipush 16), none, some (.iushr), some (.iadd), some (.istore_n 0), some (.iload_n 0), some (.bipush 63), none, some (.iand), some (.ireturn)]
def xc18 : List (Option Instr) := [some (.aload_n 0), some (.aload_n 1), some (.getfield 54), none, none, some (.putfield 60), none, none, some (.aload_n 0), some (.aload_n 1), some (.getfield 61), none, none, some (.putfield 64), none, none, some (.aload_n 0), some (.getfield 41), none, none, some (.aload_n 0), some (.getfield 60), none, none, some (.invokevirtual 65), none, none, some (.aload_n 0), some (.getfield 45), none, none, some (.iconst 0), some (.invokevirtual 68), none, none, some (.iconst 0), some (.istore_n 3), some (.iload_n 3), some (.bipush 7), none, some (.if_icmp .ge 23), none, none, some (.iload_n 2), some (.iload_n 3), some (.invokestatic 71), none, none, some (.ifCond .ne 9), none, none, some (.aload_n 0), some (.iload_n 3), some (.aload_n 1), some (.invokevirtual 75), none, none, some (.iinc 3 1), none, none, some (.goto (-23)), none, none, some (.iconst 0), some (.istore_n 3), some (.iload_n 3), some (.aload_n 0), some (.getfield 64), none, none, some (.if_icmp .ge 15), none, none, some (.aload_n 0), some (.iload_n 3), some (.aload_n 1), some (.invokevirtual 79), none, none, some (.iinc 3 1), none, none, some (.goto (-17)), none, none, some (.aload_n 0), some (.invokevirtual 82), none, none, some (.aload_n 0), some (.invokevirtual 85), none, none, some (.return_)]
def xc19 : List (Option Instr) := [some (.aload_n 0), some (.iload_n 1), some (.putfield 23), none, none, some (.aload_n 0), some (.getfield 14), none, none, some (.iconst 0), some (.invokevirtual 27), none, none, some (.return_)]
def xc20 : List (Option Instr) := [some (.iconst 0), some (.istore_n 2), some (.iload_n 2), some (.aload_n 0), some (.getfield 15), none, none, some (.arraylength), some (.if_icmp .ge 16), none, none, some (.aload_n 0), some (.getfield 15), none, none, some (.iload_n 2), some (.iload_n 1), some (.iastore), some (.iinc 2 1), none, none, some (.goto (-19)), none, none, some (.return_)]
def xc21 : List (Option Instr) := [some (.iload_n 1), some (.ifCond .lt 22), none, none, some (.iload_n 1), some (.bipush 10), none, some (.if_icmp .ge 16), none, none, some (.iload_n 0), some (.iload_n 1), some (.ishr), some (.iconst 1), some (.iand), some (.iconst 1), some (.if_icmp .ne 7), none, none, some (.iconst 1), some (.goto 4), none, none, some (.iconst 0), some (.ireturn)]
def xc22 : List (Option Instr) := [some (.iconst 0), some (.istore_n 3), some (.iload_n 3), some (.aload_n 0), some (.getfield 64), none, none, some (.if_icmp .ge 66), none, none, some (.aload_n 2), some (.iload_n 1), some (.iload_n 3), some (.invokevirtual 113), none, none, some (.ifCond .eq 51), none, none, some (.aload_n 0), some (.getfield 45), none, none, some (.iload_n 3), some (.iconst 1), some (.invokevirtual 116), none, none, some (.iconst 0), some (.istore 4), none, some (.iload 4), none, some (.aload_n 0), some (.getfield 60), none, none, some (.if_icmp .ge 30), none, none, some (.aload_n 0), some (.getfield 41), none, none, some (.iload_n 3), some (.iload 4), none, some (.invokestatic 88), none, none, some (.aload_n 2), some (.iload_n 1), some (.iload_n 3), some (.iload 4), none, some (.invokevirtual 104), none, none, some (.invokevirtual 119), none, none, some (.iinc 4 1), none, none, some (.goto (-33)), none, none, some (.iinc 3 1), none, none, some (.goto (-68)), none, none, some (.return_)]
def xc23 : List (Option Instr) := [some (.iload_n 1), some (.ifCond .lt 32), none, none, some (.iload_n 1), some (.bipush 7), none, some (.if_icmp .ge 26), none, none, some (.iload_n 2), some (.ifCond .lt 22), none, none, some (.iload_n 2), some (.iconst 5), some (.if_icmp .ge 17), none, none, some (.aload_n 0), some (.iload_n 1), some (.iload_n 2), some (.iconst 0), some (.invokevirtual 51), none, none, some (.ifCond .eq 7), none, none, some (.iconst 1), some (.goto 4), none, none, some (.iconst 0), some (.ireturn)]
def xc24 : List (Option Instr) := [some (.aload_n 0), some (.getfield 14), none, none, some (.iload_n 1), some (.iconst 5), some (.imul), some (.iload_n 2), some (.iadd), some (.iload_n 3), some (.invokevirtual 55), none, none, some (.ireturn)]
def xc25 : List (Option Instr) := [some (.iload_n 1), some (.ifCond .lt 22), none, none, some (.iload_n 1), some (.aload_n 0), some (.getfield 7), none, none, some (.arraylength), some (.if_icmp .ge 13), none, none, some (.aload_n 0), some (.getfield 7), none, none, some (.iload_n 1), some (.dup2), some (.iaload), some (.iload_n 2), some (.iadd), some (.iastore), some (.return_)]
def xc26 : List (Option Instr) := [some (.iload_n 0), some (.bipush 8), none, some (.imul), some (.iload_n 1), some (.iadd), some (.ireturn)]
def xc27 : List (Option Instr) := [some (.aload_n 0), some (.getfield 14), none, none, some (.iload_n 1), some (.iload_n 2), some (.iconst 1), some (.invokevirtual 31), none, none, some (.return_)]
def xc28 : List (Option Instr) := [some (.iload_n 2), some (.ifCond .lt 22), none, none, some (.iload_n 2), some (.aload_n 0), some (.getfield 9), none, none, some (.if_icmp .ge 14), none, none, some (.iload_n 1), some (.aload_n 0), some (.getfield 9), none, none, some (.imul), some (.iload_n 2), some (.iadd), some (.goto 4), none, none, some (.iconst (-1)), some (.istore 4), none, some (.iload 4), none, some (.ifCond .lt 24), none, none, some (.iload 4), none, some (.aload_n 0), some (.getfield 15), none, none, some (.arraylength), some (.if_icmp .ge 14), none, none, some (.aload_n 0), some (.getfield 15), none, none, some (.iload 4), none, some (.dup2), some (.iaload), some (.iload_n 3), some (.iadd), some (.iastore), some (.return_)]
def xc29 : List (Option Instr) := [some (.iconst 0), some (.istore_n 3), some (.iload_n 3), some (.aload_n 0), some (.getfield 60), none, none, some (.if_icmp .ge 41), none, none, some (.aload_n 0), some (.getfield 41), none, none, some (.iload_n 1), some (.iload_n 3), some (.invokestatic 88), none, none, some (.invokevirtual 122), none, none, some (.aload_n 0), some (.getfield 48), none, none, some (.iload_n 3), some (.aload_n 0), some (.iload_n 1), some (.iload_n 3), some (.aload_n 2), some (.iload_n 3), some (.iload_n 1), some (.invokevirtual 125), none, none, some (.invokevirtual 128), none, none, some (.invokevirtual 132), none, none, some (.iinc 3 1), none, none, some (.goto (-43)), none, none, some (.iconst 0), some (.istore_n 3), some (.iload_n 3), some (.aload_n 0), some (.getfield 60), none, none, some (.if_icmp .ge 133), none, none, some (.iconst 0), some (.istore 4), none, some (.iconst 0), some (.istore 5), none, some (.iconst 0), some (.istore 6), none, some (.iload 6), none, some (.aload_n 0), some (.getfield 60), none, none, some (.if_icmp .ge 49), none, none, some (.aload_n 0), some (.iload_n 1), some (.iload 6), none, some (.iload_n 3), some (.invokevirtual 135), none, none, some (.istore 7), none, some (.iload 4), none, some (.iload 7), none, some (.ifCond .ge 7), none, none, some (.iconst 1), some (.goto 4), none, none, some (.iconst 0), some (.iadd), some (.istore 4), none, some (.iload 5), none, some (.iload 7), none, some (.ifCond .ne 7), none, none, some (.iconst 1), some (.goto 4), none, none, some (.iconst 0), some (.iadd), some (.istore 5), none, some (.iinc 6 1), none, none, some (.goto (-52)), none, none, some (.aload_n 0), some (.getfield 14), none, none, some (.iload_n 1), some (.iload_n 3), some (.iload 4), none, some (.iconst 1), some (.iadd), some (.iload 5), none, some (.invokestatic 138), none, none, some (.invokevirtual 141), none, none, some (.iload 5), none, some (.iconst 1), some (.if_icmp .le 7), none, none, some (.iconst 4), some (.goto 9), none, none, some (.aload_n 0), some (.iload_n 1), some (.iload_n 3), some (.invokevirtual 144), none, none, some (.istore 6), none, some (.aload_n 0), some (.getfield 20), none, none, some (.iload_n 1), some (.iload_n 3), some (.aload_n 2), some (.iload_n 3), some (.iload_n 1), some (.invokevirtual 125), none, none, some (.ifCond .eq 7), none, none, some (.iconst 5), some (.goto 5), none, none, some (.iload 6), none, some (.invokevirtual 141), none, none, some (.iinc 3 1), none, none, some (.goto (-135)), none, none, some (.return_)]
def xc30 : List (Option Instr) := [some (.iconst 0), some (.istore_n 2), some (.iconst 0), some (.istore_n 3), some (.iconst 1), some (.istore 4), none, some (.iload 4), none, some (.aload_n 0), some (.getfield 23), none, none, some (.if_icmp .gt 60), none, none, some (.aload_n 0), some (.getfield 14), none, none, some (.iload_n 1), some (.iload 4), none, some (.invokevirtual 35), none, none, some (.istore 5), none, some (.iload_n 2), some (.iload 5), none, some (.iadd), some (.istore_n 2), some (.iload_n 3), some (.iload 5), none, some (.sipush 1000), none, none, some (.iload 4), none, some (.isub), some (.imul), some (.iadd), some (.istore_n 3), some (.aload_n 0), some (.getfield 14), none, none, some (.iload_n 1), some (.iload 4), none, some (.iload_n 2), some (.invokevirtual 39), none, none, some (.aload_n 0), some (.getfield 20), none, none, some (.iload_n 1), some (.iload 4), none, some (.iload_n 3), some (.invokevirtual 39), none, none, some (.iinc 4 1), none, none, some (.goto (-63)), none, none, some (.return_)]
def xc31 : List (Option Instr) := [some (.iload_n 2), some (.ifCond .lt 22), none, none, some (.iload_n 2), some (.aload_n 0), some (.getfield 9), none, none, some (.if_icmp .ge 14), none, none, some (.iload_n 1), some (.aload_n 0), some (.getfield 9), none, none, some (.imul), some (.iload_n 2), some (.iadd), some (.goto 4), none, none, some (.iconst (-1)), some (.istore 4), none, some (.iload 4), none, some (.ifCond .lt 21), none, none, some (.iload 4), none, some (.aload_n 0), some (.getfield 15), none, none, some (.arraylength), some (.if_icmp .ge 11), none, none, some (.aload_n 0), some (.getfield 15), none, none, some (.iload 4), none, some (.iload_n 3), some (.iastore), some (.return_)]
def xc32 : List (Option Instr) := [some (.aload_n 0), some (.getfield 25), none, none, some (.iload_n 2), some (.invokevirtual 59), none, none, some (.iload_n 1), some (.invokestatic 40), none, none, some (.ireturn)]
def xc33 : List (Option Instr) := [some (.aload_n 0), some (.getfield 45), none, none, some (.iload_n 1), some (.invokevirtual 95), none, none, some (.iconst 2), some (.idiv), some (.iconst 1), some (.iadd), some (.istore 4), none, some (.iconst 1), some (.istore 5), none, some (.iload 5), none, some (.aload_n 0), some (.getfield 60), none, none, some (.if_icmp .gt 35), none, none, some (.iload_n 3), some (.ifCond .ne 31), none, none, some (.aload_n 0), some (.getfield 41), none, none, some (.iload_n 1), some (.iload_n 2), some (.invokestatic 88), none, none, some (.iload 5), none, some (.invokevirtual 92), none, none, some (.iload 4), none, some (.if_icmp .lt 6), none, none, some (.iload 5), none, some (.ireturn), some (.iinc 5 1), none, none, some (.goto (-38)), none, none, some (.aload_n 0), some (.getfield 60), none, none, some (.iconst 1), some (.iadd), some (.ireturn)]
def xc34 : List (Option Instr) := [some (.aload_n 0), some (.getfield 14), none, none, some (.iload_n 1), some (.iload_n 2), some (.invokevirtual 35), none, none, some (.ireturn)]
def xc35 : List (Option Instr) := [some (.iload_n 1), some (.ifCond .lt 19), none, none, some (.iload_n 1), some (.aload_n 0), some (.getfield 7), none, none, some (.arraylength), some (.if_icmp .ge 10), none, none, some (.aload_n 0), some (.getfield 7), none, none, some (.iload_n 1), some (.iload_n 2), some (.iastore), some (.return_)]
def xc36 : List (Option Instr) := [some (.aload_n 0), some (.getfield 48), none, none, some (.iload_n 2), some (.invokevirtual 95), none, none, some (.istore 4), none, some (.iload 4), none, some (.aload_n 0), some (.getfield 48), none, none, some (.iload_n 3), some (.invokevirtual 95), none, none, some (.isub), some (.istore 5), none, some (.iload 5), none, some (.ifCond .eq 8), none, none, some (.iload 5), none, some (.goto 22), none, none, some (.aload_n 0), some (.getfield 41), none, none, some (.iload_n 1), some (.iload_n 2), some (.invokestatic 88), none, none, some (.iload_n 1), some (.iload_n 3), some (.invokestatic 88), none, none, some (.iload 4), none, some (.invokevirtual 147), none, none, some (.ireturn)]
def xc37 : List (Option Instr) := [some (.iload_n 3), some (.istore 4), none, some (.iload 4), none, some (.aload_n 0), some (.getfield 23), none, none, some (.if_icmp .gt 40), none, none, some (.aload_n 0), some (.getfield 20), none, none, some (.iload_n 2), some (.iload 4), none, some (.invokevirtual 35), none, none, some (.aload_n 0), some (.getfield 20), none, none, some (.iload_n 1), some (.iload 4), none, some (.invokevirtual 35), none, none, some (.isub), some (.istore 5), none, some (.iload 5), none, some (.ifCond .eq 6), none, none, some (.iload 5), none, some (.ireturn), some (.iinc 4 1), none, none, some (.goto (-43)), none, none, some (.iconst 0), some (.ireturn)]
def xc38 : List (Option Instr) := [some (.iconst 2), some (.iload_n 0), some (.imul), some (.iload_n 1), some (.iadd), some (.iconst 1), some (.isub), some (.ireturn)]
def xc39 : List (Option Instr) := [some (.aload_n 0), some (.getfield 48), none, none, some (.iload_n 2), some (.invokevirtual 95), none, none, some (.istore_n 3), some (.iload_n 1), some (.iload_n 2), some (.invokestatic 88), none, none, some (.istore 4), none, some (.iconst 0), some (.istore 5), none, some (.iconst 0), some (.istore 6), none, some (.iload 6), none, some (.aload_n 0), some (.getfield 60), none, none, some (.if_icmp .ge 110), none, none, some (.iload_n 1), some (.iload 6), none, some (.invokestatic 88), none, none, some (.istore 7), none, some (.iload 6), none, some (.iload_n 2), some (.if_icmp .eq 90), none, none, some (.aload_n 0), some (.getfield 48), none, none, some (.iload 6), none, some (.invokevirtual 95), none, none, some (.iload_n 3), some (.if_icmp .eq 6), none, none, some (.goto 74), none, none, some (.aload_n 0), some (.getfield 41), none, none, some (.iload 7), none, some (.iload_n 3), some (.invokevirtual 150), none, none, some (.aload_n 0), some (.getfield 41), none, none, some (.iload 4), none, some (.iload_n 3), some (.invokevirtual 150), none, none, some (.if_icmp .ne 9), none, none, some (.iconst 3), some (.istore 5), none, some (.goto 45), none, none, some (.aload_n 0), some (.getfield 41), none, none, some (.iload 7), none, some (.iload_n 3), some (.invokevirtual 92), none, none, some (.aload_n 0), some (.getfield 41), none, none, some (.iload 4), none, some (.iload_n 3), some (.invokevirtual 92), none, none, some (.if_icmp .ne 14), none, none, some (.iload 5), none, some (.iconst 2), some (.invokestatic 153), none, none, some (.istore 5), none, some (.goto 11), none, none, some (.iload 5), none, some (.iconst 1), some (.invokestatic 153), none, none, some (.istore 5), none, some (.iinc 6 1), none, none, some (.goto (-113)), none, none, some (.iload 5), none, some (.ireturn)]
def xc40 : List (Option Instr) := [some (.aload_n 0), some (.getfield 20), none, none, some (.iload_n 1), some (.iload_n 2), some (.invokevirtual 35), none, none, some (.ireturn)]
def xc41 : List (Option Instr) := [some (.iconst 0), some (.istore_n 1), some (.iload_n 1), some (.aload_n 0), some (.getfield 60), none, none, some (.if_icmp .ge 48), none, none, some (.iconst 0), some (.istore_n 2), some (.iconst 0), some (.istore_n 3), some (.iload_n 3), some (.aload_n 0), some (.getfield 64), none, none, some (.if_icmp .ge 21), none, none, some (.iload_n 2), some (.aload_n 0), some (.getfield 14), none, none, some (.iload_n 3), some (.iload_n 1), some (.invokevirtual 108), none, none, some (.iadd), some (.istore_n 2), some (.iinc 3 1), none, none, some (.goto (-23)), none, none, some (.aload_n 0), some (.getfield 28), none, none, some (.iload_n 1), some (.iload_n 2), some (.invokevirtual 132), none, none, some (.iinc 1 1), none, none, some (.goto (-50)), none, none, some (.return_)]
def xc42 : List (Option Instr) := [some (.iconst 1), some (.aload_n 0), some (.getfield 60), none, none, some (.ishl), some (.iconst 1), some (.isub), some (.istore_n 1), some (.iconst 0), some (.istore_n 2), some (.iconst 1), some (.istore_n 3), some (.iconst 0), some (.istore 4), none, some (.iload 4), none, some (.aload_n 0), some (.getfield 60), none, none, some (.if_icmp .ge 119), none, none, some (.iload_n 1), some (.ifCond .eq 115), none, none, some (.aload_n 0), some (.iload_n 1), some (.invokevirtual 156), none, none, some (.istore 5), none, some (.iload 5), none, some (.invokestatic 159), none, none, some (.iconst 1), some (.if_icmp .le 8), none, none, some (.iload_n 2), some (.iload 5), none, some (.ior), some (.istore_n 2), some (.iload 5), none, some (.iload_n 2), some (.iand), some (.ifCond .ne 8), none, none, some (.bipush 9), none, some (.goto 5), none, none, some (.bipush 10), none, some (.istore 6), none, some (.aload_n 0), some (.iload 5), none, some (.iload_n 3), some (.invokevirtual 164), none, none, some (.istore 5), none, some (.iload 5), none, some (.invokestatic 159), none, none, some (.iconst 1), some (.if_icmp .le 30), none, none, some (.aload_n 0), some (.iload 5), none, some (.iload_n 3), some (.invokevirtual 167), none, none, some (.istore 5), none, some (.iload 5), none, some (.invokestatic 159), none, none, some (.iconst 1), some (.if_icmp .le 8), none, none, some (.bipush 12), none, some (.goto 5), none, none, some (.bipush 11), none, some (.istore 6), none, some (.aload_n 0), some (.iload 5), none, some (.iload_n 3), some (.iload 6), none, some (.invokevirtual 170), none, none, some (.iload_n 3), some (.iload 5), none, some (.invokestatic 159), none, none, some (.iadd), some (.istore_n 3), some (.iload_n 1), some (.iload 5), none, some (.iconst (-1)), some (.ixor), some (.iand), some (.istore_n 1), some (.iinc 4 1), none, none, some (.goto (-122)), none, none, some (.return_)]
def xc43 : List (Option Instr) := [some (.iconst 0), some (.istore_n 2), some (.iload_n 2), some (.aload_n 0), some (.getfield 60), none, none, some (.if_icmp .ge 26), none, none, some (.aload_n 0), some (.getfield 51), none, none, some (.iload_n 2), some (.aload_n 0), some (.getfield 28), none, none, some (.iload_n 2), some (.invokevirtual 95), none, none, some (.ineg), some (.invokevirtual 132), none, none, some (.iinc 2 1), none, none, some (.goto (-28)), none, none, some (.aload_n 0), some (.iload_n 1), some (.invokevirtual 173), none, none, some (.ireturn)]
def xc44 : List (Option Instr) := [some (.iconst 0), some (.istore_n 2), some (.iconst 0), some (.istore_n 3), some (.iconst 0), some (.istore 4), none, some (.iload 4), none, some (.aload_n 0), some (.getfield 60), none, none, some (.if_icmp .ge 66), none, none, some (.aload_n 0), some (.getfield 51), none, none, some (.iload 4), none, some (.invokevirtual 95), none, none, some (.istore 5), none, some (.iload_n 1), some (.iload 4), none, some (.invokestatic 71), none, none, some (.ifCond .eq 40), none, none, some (.iload_n 2), some (.ifCond .eq 9), none, none, some (.iload 5), none, some (.iload_n 3), some (.if_icmp .lt 30), none, none, some (.iload_n 2), some (.ifCond .eq 18), none, none, some (.iload 5), none, some (.iload_n 3), some (.if_icmp .ne 12), none, none, some (.iload_n 2), some (.iconst 1), some (.iload 4), none, some (.ishl), some (.ior), some (.goto 7), none, none, some (.iconst 1), some (.iload 4), none, some (.ishl), some (.istore_n 2), some (.iload 5), none, some (.istore_n 3), some (.iinc 4 1), none, none, some (.goto (-69)), none, none, some (.iload_n 2), some (.ireturn)]
def xc45 : List (Option Instr) := [some (.iconst 0), some (.istore_n 3), some (.iload_n 3), some (.aload_n 0), some (.getfield 60), none, none, some (.if_icmp .ge 75), none, none, some (.iconst 0), some (.istore 4), none, some (.iconst 0), some (.istore 5), none, some (.iload 5), none, some (.aload_n 0), some (.getfield 64), none, none, some (.if_icmp .ge 44), none, none, some (.aload_n 0), some (.getfield 14), none, none, some (.iload 5), none, some (.iload_n 3), some (.invokevirtual 108), none, none, some (.istore 6), none, some (.iload 4), none, some (.iload 6), none, some (.iconst 2), some (.iload_n 2), some (.imul), some (.if_icmp .gt 12), none, none, some (.sipush 1000), none, none, some (.iload 6), none, some (.isub), some (.goto 4), none, none, some (.iconst 0), some (.iadd), some (.istore 4), none, some (.iinc 5 1), none, none, some (.goto (-47)), none, none, some (.aload_n 0), some (.getfield 51), none, none, some (.iload_n 3), some (.iload 4), none, some (.invokevirtual 132), none, none, some (.iinc 3 1), none, none, some (.goto (-77)), none, none, some (.aload_n 0), some (.iload_n 1), some (.invokevirtual 173), none, none, some (.ireturn)]
def xc46 : List (Option Instr) := [some (.iload_n 1), some (.istore_n 3), some (.iload_n 2), some (.istore 4), none, some (.iload 4), none, some (.aload_n 0), some (.getfield 60), none, none, some (.if_icmp .gt 86), none, none, some (.iconst 0), some (.istore 5), none, some (.iload 5), none, some (.aload_n 0), some (.getfield 60), none, none, some (.if_icmp .ge 62), none, none, some (.iconst 0), some (.istore 6), none, some (.iconst 0), some (.istore 7), none, some (.iload 7), none, some (.aload_n 0), some (.getfield 64), none, none, some (.if_icmp .ge 30), none, none, some (.iload 6), none, some (.aload_n 0), some (.getfield 41), none, none, some (.iload 7), none, some (.iload 5), none, some (.invokestatic 88), none, none, some (.iload 4), none, some (.invokevirtual 150), none, none, some (.iadd), some (.istore 6), none, some (.iinc 7 1), none, none, some (.goto (-33)), none, none, some (.aload_n 0), some (.getfield 51), none, none, some (.iload 5), none, some (.iload 6), none, some (.invokevirtual 132), none, none, some (.iinc 5 1), none, none, some (.goto (-65)), none, none, some (.aload_n 0), some (.iload_n 3), some (.invokevirtual 173), none, none, some (.istore_n 3), some (.iinc 4 1), none, none, some (.goto (-89)), none, none, some (.iload_n 3), some (.ireturn)]
def xc47 : List (Option Instr) := [some (.iload_n 2), some (.iload_n 1), some (.invokestatic 159), none, none, some (.invokestatic 138), none, none, some (.istore 4), none, some (.iconst 0), some (.istore 5), none, some (.iload 5), none, some (.aload_n 0), some (.getfield 60), none, none, some (.if_icmp .ge 39), none, none, some (.iload_n 1), some (.iload 5), none, some (.invokestatic 71), none, none, some (.ifCond .eq 24), none, none, some (.aload_n 0), some (.getfield 32), none, none, some (.iload 5), none, some (.iload 4), none, some (.invokevirtual 132), none, none, some (.aload_n 0), some (.getfield 35), none, none, some (.iload 5), none, some (.iload_n 3), some (.invokevirtual 132), none, none, some (.iinc 5 1), none, none, some (.goto (-42)), none, none, some (.return_)]
def xc48 : List (Option Instr) := [some (.ldc2_w 337), none, none, some (.lstore_n 1), some (.iconst 0), some (.istore_n 3), some (.iload_n 3), some (.bipush 10), none, some (.if_icmp .gt 22), none, none, some (.lload_n 1), some (.ldc2_w 339), none, none, some (.lmul), some (.aload_n 0), some (.iload_n 3), some (.invokevirtual 341), none, none, some (.i2l), some (.ladd), some (.lstore_n 1), some (.iinc 3 1), none, none, some (.goto (-22)), none, none, some (.iconst 0), some (.istore_n 3), some (.iload_n 3), some (.aload_n 0), some (.getfield 10), none, none, some (.getfield 58), none, none, some (.if_icmp .ge 16), none, none, some (.aload_n 0), some (.lload_n 1), some (.iload_n 3), some (.invokevirtual 344), none, none, some (.lstore_n 1), some (.iinc 3 1), none, none, some (.goto (-21)), none, none, some (.iconst 0), some (.istore_n 3), some (.iload_n 3), some (.aload_n 0), some (.getfield 19), none, none, some (.getfield 73), none, none, some (.if_icmp .ge 39), none, none, some (.iconst 0), some (.istore 4), none, some (.iload 4), none, some (.iconst 3), some (.if_icmp .gt 24), none, none, some (.lload_n 1), some (.ldc2_w 339), none, none, some (.lmul), some (.aload_n 0), some (.iload_n 3), some (.iload 4), none, some (.invokevirtual 348), none, none, some (.i2l), some (.ladd), some (.lstore_n 1), some (.iinc 4 1), none, none, some (.goto (-24)), none, none, some (.iinc 3 1), none, none, some (.goto (-44)), none, none, some (.lload_n 1), some (.ldc2_w 339), none, none, some (.lmul), some (.aload_n 0), some (.invokevirtual 351), none, none, some (.i2l), some (.ladd), some (.lreturn)]
def xc49 : List (Option Instr) := [some (.iload_n 1), some (.tableswitch 160 0 10 #[59, 67, 75, 80, 96, 109, 117, 125, 133, 141, 152]), none, none, none, none, none, none, none, none, none, none, none, none, none, none, none, none, none, none, none, none, none, none, none, none, none, none, none, none, none, none, none, none, none, none, none, none, none, none, none, none, none, none, none, none, none, none, none, none, none, none, none, none, none, none, none, none, none, none, some (.aload_n 0), some (.getfield 10), none, none, some (.getfield 58), none, none, some (.ireturn), some (.aload_n 0), some (.getfield 19), none, none, some (.getfield 73), none, none, some (.ireturn), some (.aload_n 0), some (.getfield 243), none, none, some (.ireturn), some (.aload_n 0), some (.getfield 26), none, none, some (.getfield 74), none, none, some (.ifCond .eq 7), none, none, some (.iconst 1), some (.goto 4), none, none, some (.iconst 0), some (.ireturn), some (.aload_n 0), some (.getfield 111), none, none, some (.ifCond .eq 7), none, none, some (.iconst 1), some (.goto 4), none, none, some (.iconst 0), some (.ireturn), some (.aload_n 0), some (.getfield 26), none, none, some (.getfield 122), none, none, some (.ireturn), some (.aload_n 0), some (.getfield 26), none, none, some (.getfield 131), none, none, some (.ireturn), some (.aload_n 0), some (.getfield 33), none, none, some (.getfield 128), none, none, some (.ireturn), some (.aload_n 0), some (.getfield 26), none, none, some (.getfield 117), none, none, some (.ireturn), some (.aload_n 0), some (.getfield 26), none, none, some (.getfield 140), none, none, some (.invokestatic 85), none, none, some (.ireturn), some (.aload_n 0), some (.getfield 40), none, none, some (.invokevirtual 319), none, none, some (.ireturn), some (.new 90), none, none, some (.dup), some (.ldc_w 323), none, none, some (.invokespecial 94), none, none, some (.athrow)]
def xc50 : List (Option Instr) := [some (.iconst 0), some (.istore_n 1), some (.iconst 0), some (.istore_n 2), some (.iload_n 2), some (.aload_n 0), some (.getfield 33), none, none, some (.if_icmp .ge 17), none, none, some (.iload_n 1), some (.aload_n 0), some (.iload_n 2), some (.invokevirtual 67), none, none, some (.iadd), some (.istore_n 1), some (.iinc 2 1), none, none, some (.goto (-19)), none, none, some (.iload_n 1), some (.ireturn)]
def xc51 : List (Option Instr) := [some (.iconst 0), some (.istore_n 2), some (.iconst 0), some (.istore_n 3), some (.iload_n 3), some (.bipush 7), none, some (.if_icmp .ge 21), none, none, some (.aload_n 0), some (.iload_n 3), some (.iload_n 1), some (.invokevirtual 64), none, none, some (.ifCond .eq 6), none, none, some (.iinc 2 1), none, none, some (.iinc 3 1), none, none, some (.goto (-21)), none, none, some (.iload_n 2), some (.ireturn)]
def xc52 : List (Option Instr) := [some (.lload_n 1), some (.lstore 4), none, some (.iconst 0), some (.istore 6), none, some (.iload 6), none, some (.bipush 7), none, some (.if_icmp .gt 26), none, none, some (.lload 4), none, some (.ldc2_w 339), none, none, some (.lmul), some (.aload_n 0), some (.iload_n 3), some (.iload 6), none, some (.invokevirtual 354), none, none, some (.i2l), some (.ladd), some (.lstore 4), none, some (.iinc 6 1), none, none, some (.goto (-27)), none, none, some (.lload 4), none, some (.ldc2_w 339), none, none, some (.lmul), some (.aload_n 0), some (.iload_n 3), some (.iconst 0), some (.invokevirtual 357), none, none, some (.i2l), some (.ladd), some (.lstore 4), none, some (.aload_n 0), some (.getfield 111), none, none, some (.ifCond .eq 27), none, none, some (.aload_n 0), some (.getfield 26), none, none, some (.getfield 117), none, none, some (.iload_n 3), some (.invokestatic 143), none, none, some (.ifCond .eq 13), none, none, some (.aload_n 0), some (.lload 4), none, some (.iload_n 3), some (.invokevirtual 360), none, none, some (.goto 5), none, none, some (.lload 4), none, some (.lreturn)]
def xc53 : List (Option Instr) := [some (.aload_n 0), some (.iload_n 1), some (.invokevirtual 246), none, none, some (.iload_n 2), some (.tableswitch 152 0 7 #[46, 58, 70, 79, 99, 119, 131, 140]), none, none, none, none, none, none, none, none, none, none, none, none, none, none, none, none, none, none, none, none, none, none, none, none, none, none, none, none, none, none, none, none, none, none, none, none, none, none, none, none, none, none, none, none, none, some (.aload_n 0), some (.getfield 10), none, none, some (.getfield 249), none, none, some (.iload_n 1), some (.invokevirtual 253), none, none, some (.ireturn), some (.aload_n 0), some (.getfield 10), none, none, some (.getfield 258), none, none, some (.iload_n 1), some (.invokevirtual 253), none, none, some (.ireturn), some (.aload_n 0), some (.getfield 10), none, none, some (.iload_n 1), some (.invokevirtual 261), none, none, some (.ireturn), some (.aload_n 0), some (.getfield 26), none, none, some (.getfield 233), none, none, some (.iload_n 1), some (.invokestatic 143), none, none, some (.ifCond .eq 7), none, none, some (.iconst 1), some (.goto 4), none, none, some (.iconst 0), some (.ireturn), some (.aload_n 0), some (.getfield 26), none, none, some (.getfield 117), none, none, some (.iload_n 1), some (.invokestatic 143), none, none, some (.ifCond .eq 7), none, none, some (.iconst 1), some (.goto 4), none, none, some (.iconst 0), some (.ireturn), some (.aload_n 0), some (.getfield 26), none, none, some (.getfield 264), none, none, some (.iload_n 1), some (.invokevirtual 253), none, none, some (.ireturn), some (.aload_n 0), some (.getfield 33), none, none, some (.iload_n 1), some (.invokevirtual 267), none, none, some (.ireturn), some (.aload_n 0), some (.getfield 33), none, none, some (.getfield 270), none, none, some (.iload_n 1), some (.invokevirtual 253), none, none, some (.ireturn), some (.new 90), none, none, some (.dup), some (.ldc_w 273), none, none, some (.invokespecial 94), none, none, some (.athrow)]
def xc54 : List (Option Instr) := [some (.iload_n 1), some (.ifCond .lt 14), none, none, some (.iload_n 1), some (.aload_n 0), some (.getfield 10), none, none, some (.getfield 58), none, none, some (.if_icmp .lt 14), none, none, some (.new 147), none, none, some (.dup), some (.ldc_w 374), none, none, some (.invokespecial 151), none, none, some (.athrow), some (.return_)]
def xc55 : List (Option Instr) := [some (.iconst 0), some (.istore_n 2), some (.iconst 0), some (.istore_n 3), some (.iload_n 3), some (.iconst 5), some (.if_icmp .ge 20), none, none, some (.iload_n 2), some (.aload_n 0), some (.iload_n 3), some (.iconst 1), some (.iload_n 1), some (.ishl), some (.invokevirtual 87), none, none, some (.iadd), some (.istore_n 2), some (.iinc 3 1), none, none, some (.goto (-19)), none, none, some (.iload_n 2), some (.ireturn)]
def xc56 : List (Option Instr) := [some (.iconst 0), some (.istore_n 3), some (.iconst 0), some (.istore 4), none, some (.iload 4), none, some (.bipush 7), none, some (.if_icmp .ge 27), none, none, some (.iload_n 3), some (.aload_n 0), some (.getfield 14), none, none, some (.iload 4), none, some (.iload_n 1), some (.invokevirtual 85), none, none, some (.iload_n 2), some (.iand), some (.invokestatic 53), none, none, some (.iadd), some (.istore_n 3), some (.iinc 4 1), none, none, some (.goto (-28)), none, none, some (.iload_n 3), some (.ireturn)]
def xc57 : List (Option Instr) := [some (.aload_n 0), some (.iload_n 1), some (.invokevirtual 246), none, none, some (.aload_n 0), some (.iload_n 2), some (.invokevirtual 246), none, none, some (.aload_n 0), some (.getfield 10), none, none, some (.getfield 275), none, none, some (.iload_n 1), some (.iload_n 2), some (.invokevirtual 278), none, none, some (.ireturn)]
def xc58 : List (Option Instr) := [some (.lload_n 1), some (.lstore 4), none, some (.iconst 0), some (.istore 6), none, some (.iload 6), none, some (.iconst 2), some (.if_icmp .gt 26), none, none, some (.lload 4), none, some (.ldc2_w 339), none, none, some (.lmul), some (.aload_n 0), some (.iload_n 3), some (.iload 6), none, some (.invokevirtual 363), none, none, some (.i2l), some (.ladd), some (.lstore 4), none, some (.iinc 6 1), none, none, some (.goto (-26)), none, none, some (.iconst 0), some (.istore 6), none, some (.iload 6), none, some (.aload_n 0), some (.getfield 26), none, none, some (.getfield 131), none, none, some (.if_icmp .ge 63), none, none, some (.lload 4), none, some (.ldc2_w 339), none, none, some (.lmul), some (.aload_n 0), some (.iload_n 3), some (.iload 6), none, some (.iconst 0), some (.invokevirtual 366), none, none, some (.i2l), some (.ladd), some (.lstore 4), none, some (.lload 4), none, some (.ldc2_w 339), none, none, some (.lmul), some (.aload_n 0), some (.iload_n 3), some (.iload 6), none, some (.iconst 1), some (.invokevirtual 366), none, none, some (.i2l), some (.ladd), some (.lstore 4), none, some (.lload 4), none, some (.ldc2_w 339), none, none, some (.lmul), some (.aload_n 0), some (.iload_n 3), some (.iload 6), none, some (.iconst 1), some (.invokevirtual 369), none, none, some (.i2l), some (.ladd), some (.lstore 4), none, some (.iinc 6 1), none, none, some (.goto (-69)), none, none, some (.lload 4), none, some (.lreturn)]
def xc59 : List (Option Instr) := [some (.aload_n 0), some (.iload_n 1), some (.invokevirtual 212), none, none, some (.aload_n 0), some (.getfield 26), none, none, some (.iload_n 1), some (.invokevirtual 215), none, none, some (.istore_n 3), some (.iload_n 2), some (.tableswitch 61 0 2 #[25, 37, 49]), none, none, none, none, none, none, none, none, none, none, none, none, none, none, none, none, none, none, none, none, none, none, none, none, some (.aload_n 0), some (.getfield 47), none, none, some (.getfield 308), none, none, some (.iload_n 3), some (.invokevirtual 253), none, none, some (.ireturn), some (.aload_n 0), some (.getfield 47), none, none, some (.getfield 311), none, none, some (.iload_n 3), some (.invokevirtual 253), none, none, some (.ireturn), some (.aload_n 0), some (.getfield 47), none, none, some (.getfield 314), none, none, some (.iload_n 3), some (.invokevirtual 253), none, none, some (.ireturn), some (.new 90), none, none, some (.dup), some (.ldc_w 317), none, none, some (.invokespecial 94), none, none, some (.athrow)]
def xc60 : List (Option Instr) := [some (.aload_n 0), some (.getfield 111), none, none, some (.ifCond .eq 17), none, none, some (.aload_n 0), some (.getfield 26), none, none, some (.getfield 117), none, none, some (.iload_n 1), some (.invokestatic 143), none, none, some (.ifCond .ne 14), none, none, some (.new 147), none, none, some (.dup), some (.ldc_w 376), none, none, some (.invokespecial 151), none, none, some (.athrow), some (.return_)]
def xc61 : List (Option Instr) := [some (.aload_n 0), some (.getfield 28), none, none, some (.iconst 1), some (.iload_n 1), some (.ishl), some (.iconst 1), some (.isub), some (.iand), some (.invokestatic 55), none, none, some (.ireturn)]
def xc62 : List (Option Instr) := [some (.aload_n 0), some (.iload_n 1), some (.invokevirtual 212), none, none, some (.aload_n 0), some (.iload_n 2), some (.invokevirtual 192), none, none, some (.aload_n 0), some (.getfield 26), none, none, some (.iload_n 1), some (.invokevirtual 215), none, none, some (.istore 4), none, some (.iload_n 3), some (.lookupswitch 55 #[(0, 27), (1, 41)]), none, none, none, none, none, none, none, none, none, none, none, none, none, none, none, none, none, none, none, none, none, none, none, none, none, none, some (.aload_n 0), some (.getfield 47), none, none, some (.getfield 300), none, none, some (.iload_n 2), some (.iload 4), none, some (.invokevirtual 278), none, none, some (.ireturn), some (.aload_n 0), some (.getfield 47), none, none, some (.getfield 303), none, none, some (.iload_n 2), some (.iload 4), none, some (.invokevirtual 278), none, none, some (.ireturn), some (.new 90), none, none, some (.dup), some (.ldc_w 306), none, none, some (.invokespecial 94), none, none, some (.athrow)]
def xc63 : List (Option Instr) := [some (.iload_n 1), some (.ifCond .lt 14), none, none, some (.iload_n 1), some (.aload_n 0), some (.getfield 26), none, none, some (.getfield 131), none, none, some (.if_icmp .lt 14), none, none, some (.new 147), none, none, some (.dup), some (.ldc_w 378), none, none, some (.invokespecial 151), none, none, some (.athrow), some (.return_)]
def xc64 : List (Option Instr) := [some (.aload_n 0), some (.iload_n 1), some (.invokevirtual 212), none, none, some (.aload_n 0), some (.iload_n 2), some (.invokevirtual 192), none, none, some (.iload_n 3), some (.iconst 1), some (.if_icmp .lt 14), none, none, some (.iload_n 3), some (.aload_n 0), some (.getfield 40), none, none, some (.getfield 291), none, none, some (.if_icmp .le 14), none, none, some (.new 90), none, none, some (.dup), some (.ldc_w 294), none, none, some (.invokespecial 94), none, none, some (.athrow), some (.aload_n 0), some (.getfield 47), none, none, some (.iload_n 2), some (.aload_n 0), some (.getfield 26), none, none, some (.iload_n 1), some (.invokevirtual 215), none, none, some (.iload_n 3), some (.invokevirtual 296), none, none, some (.ireturn)]
def xc65 : List (Option Instr) := [some (.aload_n 0), some (.getfield 41), none, none, some (.iload_n 1), some (.iload_n 2), some (.invokestatic 88), none, none, some (.iload_n 3), some (.invokevirtual 92), none, none, some (.ireturn)]
def xc66 : List (Option Instr) := [some (.iload_n 1), some (.ifCond .lt 14), none, none, some (.iload_n 1), some (.aload_n 0), some (.getfield 19), none, none, some (.getfield 73), none, none, some (.if_icmp .lt 14), none, none, some (.new 147), none, none, some (.dup), some (.ldc_w 280), none, none, some (.invokespecial 151), none, none, some (.athrow), some (.iload_n 2), some (.tableswitch 82 0 3 #[29, 41, 61, 73]), none, none, none, none, none, none, none, none, none, none, none, none, none, none, none, none, none, none, none, none, none, none, none, none, none, none, none, none, some (.aload_n 0), some (.getfield 19), none, none, some (.getfield 282), none, none, some (.iload_n 1), some (.invokevirtual 253), none, none, some (.ireturn), some (.aload_n 0), some (.getfield 26), none, none, some (.getfield 140), none, none, some (.iload_n 1), some (.invokestatic 143), none, none, some (.ifCond .eq 7), none, none, some (.iconst 1), some (.goto 4), none, none, some (.iconst 0), some (.ireturn), some (.aload_n 0), some (.getfield 19), none, none, some (.getfield 283), none, none, some (.iload_n 1), some (.invokevirtual 253), none, none, some (.ireturn), some (.aload_n 0), some (.getfield 40), none, none, some (.iload_n 1), some (.invokevirtual 286), none, none, some (.ireturn), some (.new 90), none, none, some (.dup), some (.ldc_w 289), none, none, some (.invokespecial 94), none, none, some (.athrow)]
def xc67 : List (Option Instr) := [some (.iconst 0), some (.istore_n 2), some (.iconst 0), some (.istore_n 3), some (.iload_n 3), some (.aload_n 0), some (.getfield 33), none, none, some (.if_icmp .ge 21), none, none, some (.aload_n 0), some (.iload_n 1), some (.iload_n 3), some (.invokevirtual 64), none, none, some (.ifCond .eq 6), none, none, some (.iinc 2 1), none, none, some (.iinc 3 1), none, none, some (.goto (-23)), none, none, some (.iload_n 2), some (.ireturn)]
def xc68 : List (Option Instr) := [some (.aload_n 2), some (.iconst 0), some (.aload_n 0), some (.iload_n 1), some (.invokevirtual 7), none, none, some (.i2l), some (.lastore), some (.goto 9), none, none, some (.astore_n 3), some (.iconst 1), some (.ireturn), some (.astore_n 3), some (.iconst 2), some (.ireturn), some (.iconst 0), some (.ireturn)]
def xc69 : List (Option Instr) := [some (.iload_n 1), some (.invokestatic 54), none, none, some (.aload_n 0), some (.getfield 10), none, none, some (.getfield 58), none, none, some (.bipush 10), none, some (.if_icmp .lt 13), none, none, some (.new 62), none, none, some (.dup), some (.ldc 64), none, some (.invokespecial 66), none, none, some (.athrow), some (.aload_n 0), some (.getfield 10), none, none, some (.iload_n 1), some (.invokevirtual 69), none, none, some (.ireturn)]
def xc70 : List (Option Instr) := [some (.iload_n 0), some (.ifCond .lt 9), none, none, some (.iload_n 0), some (.bipush 6), none, some (.if_icmp .lt 14), none, none, some (.new 90), none, none, some (.dup), some (.ldc_w 372), none, none, some (.invokespecial 94), none, none, some (.athrow), some (.return_)]
def xc71 : List (Option Instr) := [some (.aload_n 0), some (.getfield 14), none, none, some (.aload_n 0), some (.getfield 35), none, none, some (.iload_n 1), some (.invokevirtual 39), none, none, some (.aload_n 0), some (.dup), some (.getfield 35), none, none, some (.iconst 1), some (.iadd), some (.putfield 35), none, none, some (.aload_n 0), some (.getfield 35), none, none, some (.iconst 1), some (.isub), some (.ireturn)]
def xc72 : List (Option Instr) := [some (.aload_n 2), some (.iconst 0), some (.aload_n 0), some (.iload_n 1), some (.invokevirtual 17), none, none, some (.i2l), some (.lastore), some (.goto 9), none, none, some (.astore_n 3), some (.iconst 1), some (.ireturn), some (.astore_n 3), some (.iconst 2), some (.ireturn), some (.iconst 0), some (.ireturn)]
def xc73 : List (Option Instr) := [some (.iload_n 1), some (.invokestatic 54), none, none, some (.aload_n 0), some (.getfield 19), none, none, some (.getfield 73), none, none, some (.bipush 7), none, some (.if_icmp .ge 13), none, none, some (.aload_n 0), some (.getfield 26), none, none, some (.getfield 74), none, none, some (.ifCond .eq 13), none, none, some (.new 62), none, none, some (.dup), some (.ldc 78), none, some (.invokespecial 66), none, none, some (.athrow), some (.aload_n 0), some (.getfield 19), none, none, some (.iload_n 1), some (.invokevirtual 80), none, none, some (.ireturn)]
def xc74 : List (Option Instr) := [some (.aload_n 0), some (.getfield 14), none, none, some (.aload_n 0), some (.getfield 23), none, none, some (.iload_n 1), some (.invokevirtual 27), none, none, some (.aload_n 0), some (.dup), some (.getfield 23), none, none, some (.iconst 1), some (.iadd), some (.putfield 23), none, none, some (.aload_n 0), some (.getfield 23), none, none, some (.iconst 1), some (.isub), some (.ireturn)]
def xc75 : List (Option Instr) := [some (.aload_n 3), some (.iconst 0), some (.aload_n 0), some (.iload_n 1), some (.iload_n 2), some (.invokevirtual 20), none, none, some (.i2l), some (.lastore), some (.goto 11), none, none, some (.astore 4), none, some (.iconst 1), some (.ireturn), some (.astore 4), none, some (.iconst 2), some (.ireturn), some (.iconst 0), some (.ireturn)]
def xc76 : List (Option Instr) := [some (.aload_n 0), some (.getfield 10), none, none, some (.iload_n 1), some (.invokevirtual 81), none, none, some (.ifCond .eq 11), none, none, some (.iload_n 1), some (.invokestatic 85), none, none, some (.iconst 3), some (.if_icmp .ge 13), none, none, some (.new 90), none, none, some (.dup), some (.ldc 92), none, some (.invokespecial 94), none, none, some (.athrow), some (.iload_n 2), some (.iconst 1), some (.if_icmp .lt 8), none, none, some (.iload_n 2), some (.iconst 5), some (.if_icmp .le 13), none, none, some (.new 90), none, none, some (.dup), some (.ldc 95), none, some (.invokespecial 94), none, none, some (.athrow), some (.aload_n 0), some (.getfield 19), none, none, some (.aload_n 0), some (.getfield 10), none, none, some (.iload_n 1), some (.invokevirtual 97), none, none, some (.invokevirtual 100), none, none, some (.istore_n 3), some (.aload_n 0), some (.getfield 26), none, none, some (.getfield 74), none, none, some (.ifCond .ne 11), none, none, some (.iload_n 3), some (.invokestatic 85), none, none, some (.iconst 3), some (.if_icmp .ge 13), none, none, some (.new 62), none, none, some (.dup), some (.ldc 103), none, some (.invokespecial 66), none, none, some (.athrow), some (.aload_n 0), some (.getfield 26), none, none, some (.iload_n 1), some (.iload_n 3), some (.iload_n 2), some (.invokevirtual 105), none, none, some (.iload_n 3), some (.invokestatic 85), none, none, some (.ireturn)]
def xc77 : List (Option Instr) := [some (.iload_n 1), some (.iconst 1), some (.aload_n 0), some (.getfield 35), none, none, some (.ishl), some (.iconst 1), some (.isub), some (.iconst (-1)), some (.ixor), some (.iand), some (.ifCond .ne 7), none, none, some (.iconst 1), some (.goto 4), none, none, some (.iconst 0), some (.ireturn)]
def xc78 : List (Option Instr) := [some (.iconst 0), some (.istore_n 2), some (.iconst 0), some (.istore_n 3), some (.iload_n 3), some (.aload_n 0), some (.getfield 35), none, none, some (.if_icmp .ge 30), none, none, some (.iload_n 1), some (.iload_n 3), some (.invokestatic 42), none, none, some (.ifCond .eq 16), none, none, some (.iload_n 2), some (.iconst 1), some (.aload_n 0), some (.getfield 14), none, none, some (.iload_n 3), some (.invokevirtual 46), none, none, some (.ishl), some (.ior), some (.istore_n 2), some (.iinc 3 1), none, none, some (.goto (-32)), none, none, some (.iload_n 2), some (.ireturn)]
def xc79 : List (Option Instr) := [some (.iconst 0), some (.istore_n 2), some (.iconst 0), some (.istore_n 3), some (.iconst 0), some (.istore 4), none, some (.iload 4), none, some (.aload_n 0), some (.getfield 23), none, none, some (.if_icmp .ge 34), none, none, some (.iload_n 1), some (.aload_n 0), some (.getfield 14), none, none, some (.iload 4), none, some (.invokevirtual 31), none, none, some (.invokestatic 35), none, none, some (.ifCond .ne 12), none, none, some (.iconst 1), some (.iload 4), none, some (.ishl), some (.istore_n 3), some (.iload_n 2), some (.iload_n 3), some (.ior), some (.istore_n 2), some (.iinc 4 1), none, none, some (.goto (-37)), none, none, some (.iload_n 2), some (.invokestatic 39), none, none, some (.iconst 2), some (.irem), some (.ifCond .ne 11), none, none, some (.iload_n 2), some (.iload_n 3), some (.iconst (-1)), some (.ixor), some (.iand), some (.goto 4), none, none, some (.iload_n 2), some (.ireturn)]
def xc80 : List (Option Instr) := [some (.aload_n 0), some (.iconst 1), some (.putfield 20), none, none, some (.aload_n 0), some (.iload_n 1), some (.putfield 24), none, none, some (.aload_n 0), some (.iload_n 1), some (.putfield 28), none, none, some (.aload_n 0), some (.iload_n 2), some (.putfield 31), none, none, some (.aload_n 0), some (.iload_n 3), some (.putfield 34), none, none, some (.aload_n 0), some (.iconst 0), some (.putfield 37), none, none, some (.aload_n 0), some (.getfield 14), none, none, some (.iconst 0), some (.invokevirtual 40), none, none, some (.return_)]
def xc81 : List (Option Instr) := [some (.aload_n 3), some (.iconst 0), some (.aload_n 0), some (.iload_n 1), some (.iload_n 2), some (.invokevirtual 24), none, none, some (.i2l), some (.lastore), some (.goto 11), none, none, some (.astore 4), none, some (.iconst 1), some (.ireturn), some (.astore 4), none, some (.iconst 2), some (.ireturn), some (.iconst 0), some (.ireturn)]
def xc82 : List (Option Instr) := [some (.iload_n 1), some (.iconst 2), some (.if_icmp .lt 14), none, none, some (.iload_n 2), some (.iconst 2), some (.if_icmp .lt 9), none, none, some (.iload_n 2), some (.bipush 6), none, some (.if_icmp .le 13), none, none, some (.new 90), none, none, some (.dup), some (.ldc 109), none, some (.invokespecial 94), none, none, some (.athrow), some (.aload_n 0), some (.getfield 26), none, none, some (.getfield 74), none, none, some (.ifCond .eq 34), none, none, some (.aload_n 0), some (.getfield 111), none, none, some (.ifCond .ne 27), none, none, some (.aload_n 0), some (.getfield 33), none, none, some (.getfield 114), none, none, some (.ifCond .ne 17), none, none, some (.iload_n 1), some (.aload_n 0), some (.getfield 26), none, none, some (.getfield 117), none, none, some (.invokestatic 85), none, none, some (.if_icmp .lt 13), none, none, some (.new 62), none, none, some (.dup), some (.ldc 120), none, some (.invokespecial 66), none, none, some (.athrow), some (.aload_n 0), some (.getfield 26), none, none, some (.dup), some (.getfield 122), none, none, some (.iconst 1), some (.iadd), some (.putfield 122), none, none, some (.aload_n 0), some (.getfield 33), none, none, some (.iload_n 1), some (.iload_n 2), some (.invokevirtual 125), none, none, some (.aload_n 0), some (.getfield 26), none, none, some (.getfield 122), none, none, some (.ireturn)]
def xc83 : List (Option Instr) := [some (.aload_n 0), some (.invokevirtual 36), none, none, some (.aload_n 0), some (.iconst 1), some (.putfield 39), none, none, some (.aload_n 0), some (.iload_n 1), some (.putfield 43), none, none, some (.aload_n 0), some (.iload_n 2), some (.putfield 47), none, none, some (.return_)]
def xc84 : List (Option Instr) := [some (.aload_n 0), some (.getfield 14), none, none, some (.iconst 0), some (.invokevirtual 35), none, none, some (.aload_n 0), some (.getfield 25), none, none, some (.iconst (-1)), some (.invokevirtual 32), none, none, some (.return_)]
def xc85 : List (Option Instr) := [some (.aload_n 1), some (.iconst 0), some (.aload_n 0), some (.invokevirtual 27), none, none, some (.i2l), some (.lastore), some (.goto 6), none, none, some (.astore_n 2), some (.iconst 1), some (.ireturn), some (.iconst 0), some (.ireturn)]
def xc86 : List (Option Instr) := [some (.aload_n 0), some (.getfield 33), none, none, some (.getfield 114), none, none, some (.ifCond .eq 20), none, none, some (.aload_n 0), some (.getfield 33), none, none, some (.getfield 128), none, none, some (.aload_n 0), some (.getfield 26), none, none, some (.getfield 131), none, none, some (.if_icmp .lt 13), none, none, some (.new 62), none, none, some (.dup), some (.ldc 134), none, some (.invokespecial 66), none, none, some (.athrow), some (.aload_n 0), some (.getfield 33), none, none, some (.aload_n 0), some (.getfield 26), none, none, some (.getfield 117), none, none, some (.aload_n 0), some (.getfield 10), none, none, some (.invokevirtual 136), none, none, some (.ireturn)]
def xc87 : List (Option Instr) := [some (.aload_n 0), some (.getfield 47), none, none, some (.ifCond .le 22), none, none, some (.iload_n 1), some (.invokestatic 53), none, none, some (.aload_n 0), some (.getfield 47), none, none, some (.iadd), some (.iconst 1), some (.isub), some (.aload_n 0), some (.getfield 47), none, none, some (.idiv), some (.goto 4), none, none, some (.iconst 0), some (.istore_n 3), some (.aload_n 0), some (.getfield 29), none, none, some (.iconst 0), some (.invokevirtual 32), none, none, some (.iconst 0), some (.istore 4), none, some (.iload 4), none, some (.bipush 10), none, some (.if_icmp .ge 52), none, none, some (.iload_n 1), some (.iload 4), none, some (.invokestatic 59), none, none, some (.ifCond .eq 37), none, none, some (.aload_n 0), some (.iload 4), none, some (.iload_n 3), some (.aload_n 2), some (.invokevirtual 63), none, none, some (.istore 5), none, some (.aload_n 0), some (.getfield 25), none, none, some (.iload 4), none, some (.iload 5), none, some (.invokevirtual 67), none, none, some (.aload_n 0), some (.getfield 29), none, none, some (.iload 5), none, some (.iconst 1), some (.iload 4), none, some (.ishl), some (.invokevirtual 70), none, none, some (.iinc 4 1), none, none, some (.goto (-53)), none, none, some (.iconst 0), some (.istore 4), none, some (.iload 4), none, some (.iload_n 3), some (.if_icmp .ge 22), none, none, some (.aload_n 2), some (.aload_n 0), some (.getfield 29), none, none, some (.iload 4), none, some (.invokevirtual 73), none, none, some (.invokevirtual 76), none, none, some (.iinc 4 1), none, none, some (.goto (-22)), none, none, some (.aload_n 0), some (.dup), some (.getfield 50), none, none, some (.iconst 1), some (.iadd), some (.putfield 50), none, none, some (.iload_n 3), some (.ireturn)]
def xc88 : List (Option Instr) := [some (.iconst (-1)), some (.istore 4), none, some (.iconst 0), some (.istore 5), none, some (.iconst 0), some (.istore 6), none, some (.iload 6), none, some (.iload_n 2), some (.if_icmp .ge 62), none, none, some (.aload_n 0), some (.getfield 29), none, none, some (.iload 6), none, some (.invokevirtual 73), none, none, some (.istore 7), none, some (.aload_n 3), some (.iload_n 1), some (.iload 7), none, some (.invokevirtual 81), none, none, some (.istore 8), none, some (.iload 7), none, some (.invokestatic 53), none, none, some (.aload_n 0), some (.getfield 47), none, none, some (.if_icmp .ge 24), none, none, some (.iload 4), none, some (.iconst (-1)), some (.if_icmp .eq 10), none, none, some (.iload 8), none, some (.iload 5), none, some (.if_icmp .ge 11), none, none, some (.iload 6), none, some (.istore 4), none, some (.iload 8), none, some (.istore 5), none, some (.iinc 6 1), none, none, some (.goto (-62)), none, none, some (.iload 4), none, some (.ireturn)]
def xc89 : List (Option Instr) := [some (.iconst 0), some (.istore_n 3), some (.iconst 0), some (.istore 4), none, some (.iload 4), none, some (.aload_n 0), some (.getfield 35), none, none, some (.if_icmp .ge 31), none, none, some (.iload_n 2), some (.iload 4), none, some (.invokestatic 42), none, none, some (.ifCond .eq 16), none, none, some (.iload_n 3), some (.aload_n 0), some (.getfield 28), none, none, some (.iload_n 1), some (.iload 4), none, some (.invokevirtual 50), none, none, some (.iadd), some (.istore_n 3), some (.iinc 4 1), none, none, some (.goto (-34)), none, none, some (.iload_n 3), some (.ireturn)]
def xc90 : List (Option Instr) := [some (.iconst 0), some (.istore_n 2), some (.iload_n 2), some (.aload_n 0), some (.getfield 35), none, none, some (.if_icmp .ge 56), none, none, some (.iconst 0), some (.istore_n 3), some (.iload_n 3), some (.aload_n 0), some (.getfield 35), none, none, some (.if_icmp .ge 40), none, none, some (.iload_n 2), some (.iload_n 3), some (.if_icmp .eq 29), none, none, some (.iload_n 1), some (.iload_n 2), some (.invokestatic 42), none, none, some (.ifCond .eq 21), none, none, some (.iload_n 1), some (.iload_n 3), some (.invokestatic 42), none, none, some (.ifCond .eq 13), none, none, some (.aload_n 0), some (.getfield 28), none, none, some (.iload_n 2), some (.iload_n 3), some (.iconst 1), some (.invokevirtual 53), none, none, some (.iinc 3 1), none, none, some (.goto (-42)), none, none, some (.iinc 2 1), none, none, some (.goto (-58)), none, none, some (.return_)]
def xc91 : List (Option Instr) := [some (.aload 4), none, some (.iconst 0), some (.aload_n 0), some (.iload_n 1), some (.iload_n 2), some (.iload_n 3), some (.invokevirtual 31), none, none, some (.i2l), some (.lastore), some (.goto 11), none, none, some (.astore 5), none, some (.iconst 1), some (.ireturn), some (.astore 5), none, some (.iconst 2), some (.ireturn), some (.iconst 0), some (.ireturn)]
def xc92 : List (Option Instr) := [some (.aload_n 0), some (.getfield 33), none, none, some (.getfield 114), none, none, some (.ifCond .eq 32), none, none, some (.aload_n 0), some (.getfield 26), none, none, some (.getfield 140), none, none, some (.iload_n 1), some (.invokestatic 143), none, none, some (.ifCond .eq 18), none, none, some (.iload_n 2), some (.ifCond .lt 14), none, none, some (.iload_n 2), some (.aload_n 0), some (.getfield 33), none, none, some (.getfield 128), none, none, some (.if_icmp .lt 13), none, none, some (.new 147), none, none, some (.dup), some (.ldc 149), none, some (.invokespecial 151), none, none, some (.athrow), some (.iload_n 3), some (.aload_n 0), some (.getfield 26), none, none, some (.getfield 117), none, none, some (.iconst (-1)), some (.ixor), some (.iand), some (.ifCond .ne 17), none, none, some (.iload_n 3), some (.invokestatic 85), none, none, some (.aload_n 0), some (.getfield 33), none, none, some (.getfield 152), none, none, some (.if_icmp .eq 13), none, none, some (.new 90), none, none, some (.dup), some (.ldc 155), none, some (.invokespecial 94), none, none, some (.athrow), some (.aload_n 0), some (.getfield 33), none, none, some (.getfield 157), none, none, some (.iload_n 1), some (.iload_n 2), some (.iload_n 3), some (.invokevirtual 161), none, none, some (.aload_n 0), some (.getfield 33), none, none, some (.iload_n 2), some (.iload_n 3), some (.invokevirtual 166), none, none, some (.ireturn)]
def xc93 : List (Option Instr) := [some (.aload_n 1), some (.iconst 0), some (.aload_n 0), some (.invokevirtual 37), none, none, some (.i2l), some (.lastore), some (.goto 6), none, none, some (.astore_n 2), some (.iconst 1), some (.ireturn), some (.iconst 0), some (.ireturn)]
def xc94 : List (Option Instr) := [some (.aload_n 0), some (.getfield 33), none, none, some (.getfield 114), none, none, some (.ifCond .eq 20), none, none, some (.aload_n 0), some (.getfield 33), none, none, some (.getfield 128), none, none, some (.aload_n 0), some (.getfield 26), none, none, some (.getfield 131), none, none, some (.if_icmp .ge 13), none, none, some (.new 62), none, none, some (.dup), some (.ldc 170), none, some (.invokespecial 66), none, none, some (.athrow), some (.aload_n 0), some (.getfield 33), none, none, some (.aload_n 0), some (.getfield 26), none, none, some (.getfield 117), none, none, some (.invokevirtual 172), none, none, some (.istore_n 1), some (.aload_n 0), some (.getfield 26), none, none, some (.iload_n 1), some (.invokevirtual 175), none, none, some (.aload_n 0), some (.getfield 33), none, none, some (.invokevirtual 178), none, none, some (.iload_n 1), some (.invokestatic 85), none, none, some (.ireturn)]
def xc95 : List (Option Instr) := [some (.iconst 0), some (.istore_n 2), some (.iconst 0), some (.istore_n 3), some (.iload_n 3), some (.bipush 10), none, some (.if_icmp .ge 36), none, none, some (.iload_n 1), some (.iload_n 3), some (.invokestatic 59), none, none, some (.ifCond .eq 22), none, none, some (.aload_n 0), some (.iload_n 3), some (.iload_n 1), some (.invokevirtual 90), none, none, some (.aload_n 0), some (.getfield 43), none, none, some (.if_icmp .ge 9), none, none, some (.iload_n 2), some (.iconst 1), some (.iload_n 3), some (.ishl), some (.ior), some (.istore_n 2), some (.iinc 3 1), none, none, some (.goto (-36)), none, none, some (.iload_n 2), some (.ireturn)]
def xc96 : List (Option Instr) := [some (.aload_n 0), some (.iload_n 1), some (.invokevirtual 93), none, none, some (.istore_n 3), some (.iconst 0), some (.istore 4), none, some (.iconst 0), some (.istore 5), none, some (.iload 5), none, some (.bipush 10), none, some (.if_icmp .ge 31), none, none, some (.iload_n 2), some (.iload 5), none, some (.invokestatic 59), none, none, some (.ifCond .eq 16), none, none, some (.aload_n 0), some (.iload 5), none, some (.invokevirtual 93), none, none, some (.iload_n 3), some (.if_icmp .le 6), none, none, some (.iinc 4 1), none, none, some (.iinc 5 1), none, none, some (.goto (-32)), none, none, some (.iload 4), none, some (.ireturn)]
def xc97 : List (Option Instr) := [some (.iconst 0), some (.istore_n 2), some (.iload_n 2), some (.bipush 10), none, some (.if_icmp .ge 40), none, none, some (.aload_n 0), some (.getfield 28), none, none, some (.iload_n 2), some (.invokestatic 47), none, none, some (.ifCond .eq 23), none, none, some (.iload_n 1), some (.iload_n 2), some (.invokestatic 47), none, none, some (.ifCond .ne 15), none, none, some (.aload_n 0), some (.getfield 14), none, none, some (.iload_n 2), some (.aload_n 0), some (.getfield 37), none, none, some (.invokevirtual 51), none, none, some (.iinc 2 1), none, none, some (.goto (-40)), none, none, some (.aload_n 0), some (.iload_n 1), some (.putfield 28), none, none, some (.return_)]
def xc98 : List (Option Instr) := [some (.aload_n 0), some (.iconst 0), some (.putfield 39), none, none, some (.aload_n 0), some (.iconst 0), some (.putfield 50), none, none, some (.return_)]
def xc99 : List (Option Instr) := [some (.aload_n 1), some (.iconst 0), some (.aload_n 0), some (.invokevirtual 40), none, none, some (.i2l), some (.lastore), some (.goto 6), none, none, some (.astore_n 2), some (.iconst 1), some (.ireturn), some (.iconst 0), some (.ireturn)]
def xc100 : List (Option Instr) := [some (.aload_n 0), some (.getfield 26), none, none, some (.getfield 117), none, none, some (.invokestatic 85), none, none, some (.istore_n 1), some (.aload_n 0), some (.getfield 26), none, none, some (.getfield 74), none, none, some (.ifCond .eq 26), none, none, some (.aload_n 0), some (.getfield 111), none, none, some (.ifCond .ne 19), none, none, some (.aload_n 0), some (.getfield 33), none, none, some (.getfield 114), none, none, some (.ifCond .ne 9), none, none, some (.iload_n 1), some (.bipush 8), none, some (.if_icmp .le 13), none, none, some (.new 62), none, none, some (.dup), some (.ldc 181), none, some (.invokespecial 66), none, none, some (.athrow), some (.aload_n 0), some (.iconst 1), some (.putfield 111), none, none, some (.aload_n 0), some (.getfield 40), none, none, some (.iload_n 1), some (.aload_n 0), some (.getfield 26), none, none, some (.getfield 131), none, none, some (.invokevirtual 183), none, none, some (.aload_n 0), some (.getfield 47), none, none, some (.aload_n 0), some (.getfield 40), none, none, some (.iconst 0), some (.invokevirtual 186), none, none, some (.iload_n 1), some (.ireturn)]
def xc101 : List (Option Instr) := [some (.aload_n 0), some (.iload_n 1), some (.putfield 29), none, none, some (.aload_n 0), some (.iload_n 2), some (.putfield 33), none, none, some (.aload_n 0), some (.getfield 14), none, none, some (.iconst 0), some (.invokevirtual 36), none, none, some (.aload_n 0), some (.getfield 25), none, none, some (.iconst 0), some (.invokevirtual 39), none, none, some (.return_)]
def xc102 : List (Option Instr) := [some (.aload 4), none, some (.iconst 0), some (.aload_n 0), some (.iload_n 1), some (.iload_n 2), some (.iload_n 3), some (.invokevirtual 43), none, none, some (.i2l), some (.lastore), some (.goto 11), none, none, some (.astore 5), none, some (.iconst 1), some (.ireturn), some (.astore 5), none, some (.iconst 2), some (.ireturn), some (.iconst 0), some (.ireturn)]
def xc103 : List (Option Instr) := [some (.aload_n 0), some (.getfield 111), none, none, some (.ifCond .eq 17), none, none, some (.aload_n 0), some (.getfield 26), none, none, some (.getfield 140), none, none, some (.iload_n 1), some (.invokestatic 143), none, none, some (.ifCond .ne 13), none, none, some (.new 147), none, none, some (.dup), some (.ldc 190), none, some (.invokespecial 151), none, none, some (.athrow), some (.aload_n 0), some (.iload_n 2), some (.invokevirtual 192), none, none, some (.aload_n 0), some (.getfield 40), none, none, some (.iload_n 3), some (.invokevirtual 195), none, none, some (.ifCond .ne 13), none, none, some (.new 90), none, none, some (.dup), some (.ldc 198), none, some (.invokespecial 94), none, none, some (.athrow), some (.aload_n 0), some (.getfield 40), none, none, some (.iload_n 1), some (.iload_n 2), some (.iload_n 3), some (.invokevirtual 200), none, none, some (.aload_n 0), some (.getfield 47), none, none, some (.aload_n 0), some (.getfield 40), none, none, some (.iconst 0), some (.invokevirtual 186), none, none, some (.aload_n 0), some (.getfield 40), none, none, some (.iload_n 2), some (.invokevirtual 203), none, none, some (.ireturn)]
def xc104 : List (Option Instr) := [some (.iload_n 1), some (.istore_n 2), some (.iconst 0), some (.istore_n 3), some (.iconst 0), some (.istore 4), none, some (.iload 4), none, some (.aload_n 0), some (.getfield 29), none, none, some (.if_icmp .ge 53), none, none, some (.iload_n 2), some (.bipush 10), none, some (.irem), some (.istore 5), none, some (.iload 5), none, some (.iconst 1), some (.if_icmp .lt 21), none, none, some (.iload 5), none, some (.aload_n 0), some (.getfield 29), none, none, some (.if_icmp .gt 12), none, none, some (.iload_n 3), some (.iload 5), none, some (.invokestatic 40), none, none, some (.ifCond .eq 5), none, none, some (.iconst 0), some (.ireturn), some (.iload_n 3), some (.iconst 1), some (.iload 5), none, some (.ishl), some (.ior), some (.istore_n 3), some (.iload_n 2), some (.bipush 10), none, some (.idiv), some (.istore_n 2), some (.iinc 4 1), none, none, some (.goto (-56)), none, none, some (.iload_n 2), some (.ifCond .ne 7), none, none, some (.iconst 1), some (.goto 4), none, none, some (.iconst 0), some (.ireturn)]
def xc105 : List (Option Instr) := [some (.iload_n 3), some (.istore 4), none, some (.iconst 0), some (.istore 5), none, some (.iload 5), none, some (.aload_n 0), some (.getfield 29), none, none, some (.if_icmp .ge 35), none, none, some (.aload_n 0), some (.getfield 14), none, none, some (.iload_n 1), some (.iconst 5), some (.imul), some (.iload_n 2), some (.iadd), some (.iload 5), none, some (.iload 4), none, some (.bipush 10), none, some (.irem), some (.invokevirtual 44), none, none, some (.iload 4), none, some (.bipush 10), none, some (.idiv), some (.istore 4), none, some (.iinc 5 1), none, none, some (.goto (-38)), none, none, some (.return_)]
def xc106 : List (Option Instr) := [some (.aload_n 3), some (.iconst 0), some (.aload_n 0), some (.iload_n 1), some (.iload_n 2), some (.invokevirtual 46), none, none, some (.i2l), some (.lastore), some (.goto 7), none, none, some (.astore 4), none, some (.iconst 1), some (.ireturn), some (.iconst 0), some (.ireturn)]
def xc107 : List (Option Instr) := [some (.aload_n 0), some (.iload_n 1), some (.iload_n 2), some (.invokevirtual 206), none, none, some (.aload_n 0), some (.getfield 40), none, none, some (.iload_n 1), some (.iload_n 2), some (.invokevirtual 209), none, none, some (.aload_n 0), some (.getfield 47), none, none, some (.aload_n 0), some (.getfield 40), none, none, some (.iconst 0), some (.invokevirtual 186), none, none, some (.aload_n 0), some (.getfield 40), none, none, some (.iload_n 2), some (.invokevirtual 203), none, none, some (.ireturn)]
def xc108 : List (Option Instr) := [some (.aload_n 0), some (.getfield 111), none, none, some (.ifCond .eq 15), none, none, some (.aload_n 0), some (.getfield 40), none, none, some (.iload_n 1), some (.iload_n 2), some (.invokevirtual 380), none, none, some (.ifCond .ne 14), none, none, some (.new 147), none, none, some (.dup), some (.ldc_w 383), none, none, some (.invokespecial 151), none, none, some (.athrow), some (.return_)]
def xc109 : List (Option Instr) := [some (.aload_n 0), some (.iload_n 1), some (.iload_n 2), some (.iconst 0), some (.invokevirtual 48), none, none, some (.return_)]
def xc110 : List (Option Instr) := [some (.aload 4), none, some (.iconst 0), some (.aload_n 0), some (.iload_n 1), some (.iload_n 2), some (.iload_n 3), some (.invokevirtual 49), none, none, some (.ifCond .eq 7), none, none, some (.lconst 1), some (.goto 4), none, none, some (.lconst 0), some (.lastore), some (.goto 7), none, none, some (.astore 5), none, some (.iconst 1), some (.ireturn), some (.iconst 0), some (.ireturn)]
def xc111 : List (Option Instr) := [some (.aload_n 0), some (.iload_n 1), some (.invokevirtual 212), none, none, some (.aload_n 0), some (.iload_n 2), some (.invokevirtual 192), none, none, some (.aload_n 0), some (.getfield 26), none, none, some (.iload_n 1), some (.invokevirtual 215), none, none, some (.istore 4), none, some (.aload_n 0), some (.getfield 40), none, none, some (.iload 4), none, some (.iload_n 2), some (.invokevirtual 218), none, none, some (.istore 5), none, some (.aload_n 0), some (.getfield 40), none, none, some (.iload 4), none, some (.iload_n 2), some (.iload_n 3), some (.invokevirtual 221), none, none, some (.aload_n 0), some (.getfield 47), none, none, some (.aload_n 0), some (.getfield 40), none, none, some (.iconst 0), some (.invokevirtual 186), none, none, some (.iload 5), none, some (.ireturn)]
def xc112 : List (Option Instr) := [some (.aload_n 0), some (.getfield 25), none, none, some (.iload_n 2), some (.invokevirtual 59), none, none, some (.iconst 1), some (.iload_n 1), some (.ishl), some (.iconst (-1)), some (.ixor), some (.iand), some (.istore 4), none, some (.aload_n 0), some (.getfield 25), none, none, some (.iload_n 2), some (.iload_n 3), some (.ifCond .eq 12), none, none, some (.iload 4), none, some (.iconst 1), some (.iload_n 1), some (.ishl), some (.ior), some (.goto 5), none, none, some (.iload 4), none, some (.invokevirtual 62), none, none, some (.return_)]
def xc113 : List (Option Instr) := [some (.aload_n 1), some (.iconst 0), some (.aload_n 0), some (.invokevirtual 53), none, none, some (.i2l), some (.lastore), some (.goto 6), none, none, some (.astore_n 2), some (.iconst 1), some (.ireturn), some (.iconst 0), some (.ireturn)]
def xc114 : List (Option Instr) := [some (.aload_n 0), some (.getfield 111), none, none, some (.ifCond .ne 13), none, none, some (.new 62), none, none, some (.dup), some (.ldc 225), none, some (.invokespecial 66), none, none, some (.athrow), some (.aload_n 0), some (.invokevirtual 227), none, none, some (.aload_n 0), some (.invokevirtual 230), none, none, some (.aload_n 0), some (.getfield 10), none, none, some (.aload_n 0), some (.getfield 26), none, none, some (.getfield 233), none, none, some (.invokevirtual 236), none, none, some (.aload_n 0), some (.iconst 0), some (.putfield 111), none, none, some (.aload_n 0), some (.getfield 40), none, none, some (.iconst 0), some (.iconst 0), some (.invokevirtual 183), none, none, some (.aload_n 0), some (.getfield 33), none, none, some (.invokevirtual 239), none, none, some (.aload_n 0), some (.getfield 26), none, none, some (.invokevirtual 242), none, none, some (.aload_n 0), some (.dup), some (.getfield 243), none, none, some (.iconst 1), some (.iadd), some (.putfield 243), none, none, some (.aload_n 0), some (.getfield 243), none, none, some (.iconst 1), some (.isub), some (.ireturn)]
def xc115 : List (Option Instr) := [some (.iconst 0), some (.istore_n 1), some (.iload_n 1), some (.aload_n 0), some (.getfield 19), none, none, some (.getfield 73), none, none, some (.if_icmp .ge 64), none, none, some (.iconst 0), some (.istore_n 2), some (.iload_n 2), some (.aload_n 0), some (.getfield 26), none, none, some (.getfield 131), none, none, some (.if_icmp .ge 45), none, none, some (.aload_n 0), some (.getfield 40), none, none, some (.iload_n 1), some (.iload_n 2), some (.invokevirtual 380), none, none, some (.ifCond .eq 27), none, none, some (.aload_n 0), some (.getfield 19), none, none, some (.getfield 283), none, none, some (.iload_n 1), some (.aload_n 0), some (.getfield 47), none, none, some (.aload_n 0), some (.getfield 40), none, none, some (.iload_n 1), some (.iload_n 2), some (.invokevirtual 388), none, none, some (.invokevirtual 392), none, none, some (.iinc 2 1), none, none, some (.goto (-50)), none, none, some (.iinc 1 1), none, none, some (.goto (-69)), none, none, some (.return_)]
def xc116 : List (Option Instr) := [some (.iconst 0), some (.istore 4), none, some (.iconst 0), some (.istore 5), none, some (.iload 5), none, some (.aload_n 0), some (.getfield 60), none, none, some (.if_icmp .ge 38), none, none, some (.iload 4), none, some (.iconst 2), some (.aload_n 1), some (.iload_n 2), some (.iload_n 3), some (.iload 5), none, some (.invokevirtual 104), none, none, some (.imul), some (.aload_n 0), some (.getfield 14), none, none, some (.iload_n 3), some (.iload 5), none, some (.invokevirtual 108), none, none, some (.isub), some (.invokestatic 110), none, none, some (.iadd), some (.istore 4), none, some (.iinc 5 1), none, none, some (.goto (-41)), none, none, some (.iload 4), none, some (.ireturn)]
def xc117 : List (Option Instr) := [some (.aload_n 0), some (.getfield 10), none, none, some (.invokevirtual 395), none, none, some (.iconst 2), some (.aload_n 0), some (.getfield 26), none, none, some (.getfield 233), none, none, some (.invokestatic 85), none, none, some (.imul), some (.iconst 2), some (.iadd), some (.istore_n 1), some (.iconst 0), some (.istore_n 2), some (.iload_n 2), some (.aload_n 0), some (.getfield 10), none, none, some (.getfield 58), none, none, some (.if_icmp .ge 97), none, none, some (.aload_n 0), some (.getfield 26), none, none, some (.getfield 117), none, none, some (.iload_n 2), some (.invokestatic 143), none, none, some (.ifCond .eq 38), none, none, some (.aload_n 0), some (.getfield 10), none, none, some (.getfield 398), none, none, some (.iload_n 2), some (.iconst 0), some (.iload_n 1), some (.aload_n 0), some (.getfield 47), none, none, some (.getfield 308), none, none, some (.aload_n 0), some (.getfield 26), none, none, some (.iload_n 2), some (.invokevirtual 215), none, none, some (.invokevirtual 253), none, none, some (.isub), some (.invokevirtual 161), none, none, some (.goto 42), none, none, some (.aload_n 0), some (.getfield 26), none, none, some (.getfield 233), none, none, some (.iload_n 2), some (.invokestatic 143), none, none, some (.ifCond .eq 28), none, none, some (.aload_n 0), some (.getfield 10), none, none, some (.getfield 398), none, none, some (.iload_n 2), some (.iconst 0), some (.aload_n 0), some (.getfield 26), none, none, some (.getfield 264), none, none, some (.iload_n 2), some (.invokevirtual 253), none, none, some (.iconst 1), some (.isub), some (.invokevirtual 161), none, none, some (.iinc 2 1), none, none, some (.goto (-102)), none, none, some (.return_)]
def xc118 : List (Option Instr) := [some (.iconst 0), some (.istore_n 1), some (.iload_n 1), some (.bipush 10), none, some (.if_icmp .ge 51), none, none, some (.iconst 4), some (.istore_n 2), some (.iload_n 2), some (.ifCond .le 29), none, none, some (.aload_n 0), some (.getfield 32), none, none, some (.iload_n 1), some (.iload_n 2), some (.aload_n 0), some (.getfield 32), none, none, some (.iload_n 1), some (.iload_n 2), some (.iconst 1), some (.isub), some (.invokevirtual 50), none, none, some (.invokevirtual 57), none, none, some (.iinc 2 (-1)), none, none, some (.goto (-27)), none, none, some (.aload_n 0), some (.getfield 32), none, none, some (.iload_n 1), some (.iconst 0), some (.iconst 0), some (.invokevirtual 57), none, none, some (.iinc 1 1), none, none, some (.goto (-51)), none, none, some (.return_)]
def xc119 : List (Option Instr) := [some (.iconst 0), some (.istore_n 2), some (.iload_n 2), some (.aload_n 0), some (.getfield 35), none, none, some (.if_icmp .ge 49), none, none, some (.iload_n 1), some (.iload_n 2), some (.invokestatic 42), none, none, some (.ifCond .eq 35), none, none, some (.aload_n 0), some (.iload_n 2), some (.invokevirtual 59), none, none, some (.bipush 60), none, some (.if_icmp .lt 25), none, none, some (.aload_n 0), some (.getfield 20), none, none, some (.iload_n 2), some (.aload_n 0), some (.getfield 20), none, none, some (.iload_n 2), some (.invokevirtual 46), none, none, some (.iconst 1), some (.iadd), some (.iconst 3), some (.invokestatic 62), none, none, some (.invokevirtual 39), none, none, some (.iinc 2 1), none, none, some (.goto (-51)), none, none, some (.return_)]
def xc120 : List (Option Instr) := [some (.aload_n 0), some (.iconst 0), some (.iconst 0), some (.iconst 0), some (.invokevirtual 43), none, none, some (.aload_n 0), some (.iconst 0), some (.putfield 20), none, none, some (.return_)]
def xc121 : List (Option Instr) := [some (.aload_n 3), some (.iconst 0), some (.aload_n 0), some (.iload_n 1), some (.iload_n 2), some (.invokevirtual 56), none, none, some (.i2l), some (.lastore), some (.goto 11), none, none, some (.astore 4), none, some (.iconst 1), some (.ireturn), some (.astore 4), none, some (.iconst 2), some (.ireturn), some (.iconst 0), some (.ireturn)]
def xc122 : List (Option Instr) := [some (.aload_n 3), some (.iconst 0), some (.aload_n 0), some (.iload_n 1), some (.iload_n 2), some (.invokevirtual 59), none, none, some (.i2l), some (.lastore), some (.goto 7), none, none, some (.astore 4), none, some (.iconst 1), some (.ireturn), some (.iconst 0), some (.ireturn)]
def xc123 : List (Option Instr) := [some (.aload_n 3), some (.iconst 0), some (.aload_n 0), some (.iload_n 1), some (.iload_n 2), some (.invokevirtual 62), none, none, some (.i2l), some (.lastore), some (.goto 11), none, none, some (.astore 4), none, some (.iconst 1), some (.ireturn), some (.astore 4), none, some (.iconst 2), some (.ireturn), some (.iconst 0), some (.ireturn)]
def xc124 : List (Option Instr) := [some (.aload 4), none, some (.iconst 0), some (.aload_n 0), some (.iload_n 1), some (.iload_n 2), some (.iload_n 3), some (.invokevirtual 65), none, none, some (.i2l), some (.lastore), some (.goto 11), none, none, some (.astore 5), none, some (.iconst 1), some (.ireturn), some (.astore 5), none, some (.iconst 2), some (.ireturn), some (.iconst 0), some (.ireturn)]
def xc125 : List (Option Instr) := [some (.aload 4), none, some (.iconst 0), some (.aload_n 0), some (.iload_n 1), some (.iload_n 2), some (.iload_n 3), some (.invokevirtual 68), none, none, some (.i2l), some (.lastore), some (.goto 11), none, none, some (.astore 5), none, some (.iconst 1), some (.ireturn), some (.astore 5), none, some (.iconst 2), some (.ireturn), some (.iconst 0), some (.ireturn)]
def xc126 : List (Option Instr) := [some (.aload_n 3), some (.iconst 0), some (.aload_n 0), some (.iload_n 1), some (.iload_n 2), some (.invokevirtual 71), none, none, some (.i2l), some (.lastore), some (.goto 11), none, none, some (.astore 4), none, some (.iconst 1), some (.ireturn), some (.astore 4), none, some (.iconst 2), some (.ireturn), some (.iconst 0), some (.ireturn)]
def xc127 : List (Option Instr) := [some (.aload_n 2), some (.iconst 0), some (.aload_n 0), some (.iload_n 1), some (.invokevirtual 74), none, none, some (.i2l), some (.lastore), some (.goto 6), none, none, some (.astore_n 3), some (.iconst 1), some (.ireturn), some (.iconst 0), some (.ireturn)]
def xc128 : List (Option Instr) := [some (.aload 6), none, some (.iconst 0), some (.aload_n 0), some (.iload_n 1), some (.iload_n 2), some (.iload_n 3), some (.iload 4), none, some (.iload 5), none, some (.invokevirtual 77), none, none, some (.i2l), some (.lastore), some (.goto 7), none, none, some (.astore 7), none, some (.iconst 1), some (.ireturn), some (.iconst 0), some (.ireturn)]
def xc129 : List (Option Instr) := [some (.aload_n 0), some (.iload_n 1), some (.iload_n 2), some (.invokevirtual 206), none, none, some (.aload_n 0), some (.iload_n 3), some (.invokevirtual 212), none, none, some (.aload_n 0), some (.iload 4), none, some (.invokevirtual 212), none, none, some (.aload_n 0), some (.iload 5), none, some (.invokevirtual 212), none, none, some (.aload_n 0), some (.iload_n 1), some (.iload_n 2), some (.aload_n 0), some (.getfield 26), none, none, some (.iload_n 3), some (.invokevirtual 215), none, none, some (.aload_n 0), some (.getfield 26), none, none, some (.iload 4), none, some (.invokevirtual 215), none, none, some (.invokevirtual 325), none, none, some (.aload_n 0), some (.getfield 51), none, none, some (.getfield 308), none, none, some (.aload_n 0), some (.getfield 26), none, none, some (.iload 5), none, some (.invokevirtual 215), none, none, some (.invokevirtual 253), none, none, some (.ireturn)]
def xc130 : List (Option Instr) := [some (.aload_n 0), some (.getfield 40), none, none, some (.iload_n 1), some (.iload_n 2), some (.iload_n 3), some (.iload 4), none, some (.invokevirtual 385), none, none, some (.aload_n 0), some (.getfield 51), none, none, some (.aload_n 0), some (.getfield 40), none, none, some (.iconst 0), some (.invokevirtual 186), none, none, some (.aload_n 0), some (.getfield 40), none, none, some (.iload_n 1), some (.iload_n 2), some (.iload_n 3), some (.iload 4), none, some (.invokevirtual 385), none, none, some (.return_)]
def xc131 : List (Option Instr) := [some (.aload_n 0), some (.iload_n 1), some (.iload_n 2), some (.iload_n 3), some (.invokevirtual 51), none, none, some (.istore 5), none, some (.aload_n 0), some (.getfield 14), none, none, some (.iload_n 1), some (.iconst 5), some (.imul), some (.iload_n 2), some (.iadd), some (.iload_n 3), some (.aload_n 0), some (.iload_n 1), some (.iload_n 2), some (.iload 4), none, some (.invokevirtual 51), none, none, some (.invokevirtual 44), none, none, some (.aload_n 0), some (.getfield 14), none, none, some (.iload_n 1), some (.iconst 5), some (.imul), some (.iload_n 2), some (.iadd), some (.iload 4), none, some (.iload 5), none, some (.invokevirtual 44), none, none, some (.return_)]
def xc132 : List (Option Instr) := [some (.aload 4), none, some (.iconst 0), some (.aload_n 0), some (.iload_n 1), some (.iload_n 2), some (.iload_n 3), some (.invokevirtual 81), none, none, some (.i2l), some (.lastore), some (.goto 7), none, none, some (.astore 5), none, some (.iconst 1), some (.ireturn), some (.iconst 0), some (.ireturn)]
def xc133 : List (Option Instr) := [some (.aload_n 0), some (.iload_n 1), some (.iload_n 2), some (.invokevirtual 206), none, none, some (.aload_n 0), some (.iload_n 3), some (.invokevirtual 212), none, none, some (.aload_n 0), some (.getfield 26), none, none, some (.iload_n 3), some (.invokevirtual 215), none, none, some (.istore 4), none, some (.aload_n 0), some (.getfield 47), none, none, some (.getfield 308), none, none, some (.iload 4), none, some (.invokevirtual 253), none, none, some (.istore 5), none, some (.iconst (-1)), some (.istore 6), none, some (.iconst 0), some (.istore 7), none, some (.iload 7), none, some (.aload_n 0), some (.getfield 40), none, none, some (.getfield 291), none, none, some (.if_icmp .ge 92), none, none, some (.iload 7), none, some (.iconst 1), some (.iadd), some (.istore 8), none, some (.iload 8), none, some (.aload_n 0), some (.getfield 40), none, none, some (.getfield 291), none, none, some (.if_icmp .ge 68), none, none, some (.aload_n 0), some (.iload_n 1), some (.iload_n 2), some (.iload 7), none, some (.iload 8), none, some (.invokevirtual 325), none, none, some (.aload_n 0), some (.getfield 51), none, none, some (.getfield 308), none, none, some (.iload 4), none, some (.invokevirtual 253), none, none, some (.istore 9), none, some (.iload 9), none, some (.iload 5), none, some (.if_icmp .ge 31), none, none, some (.iload 9), none, some (.istore 5), none, some (.bipush 10), none, some (.aload_n 0), some (.getfield 26), none, none, some (.iload 7), none, some (.invokevirtual 329), none, none, some (.imul), some (.aload_n 0), some (.getfield 26), none, none, some (.iload 8), none, some (.invokevirtual 329), none, none, some (.iadd), some (.istore 6), none, some (.iinc 8 1), none, none, some (.goto (-74)), none, none, some (.iinc 7 1), none, none, some (.goto (-98)), none, none, some (.iload 6), none, some (.ireturn)]
def xc134 : List (Option Instr) := [some (.iconst 0), some (.istore_n 2), some (.iload_n 2), some (.bipush 10), none, some (.if_icmp .ge 31), none, none, some (.aload_n 0), some (.getfield 28), none, none, some (.iload_n 2), some (.invokestatic 47), none, none, some (.ifCond .eq 14), none, none, some (.aload_n 0), some (.iload_n 2), some (.invokevirtual 61), none, none, some (.iload_n 1), some (.if_icmp .ne 5), none, none, some (.iload_n 2), some (.ireturn), some (.iinc 2 1), none, none, some (.goto (-31)), none, none, some (.iconst (-1)), some (.ireturn)]
def xc135 : List (Option Instr) := [some (.aload_n 3), some (.iconst 0), some (.aload_n 0), some (.iload_n 1), some (.iload_n 2), some (.invokevirtual 84), none, none, some (.i2l), some (.lastore), some (.goto 11), none, none, some (.astore 4), none, some (.iconst 1), some (.ireturn), some (.astore 4), none, some (.iconst 2), some (.ireturn), some (.iconst 0), some (.ireturn)]
def xc136 : List (Option Instr) := [some (.aload_n 0), some (.iload_n 2), some (.invokevirtual 212), none, none, some (.iload_n 1), some (.ifCond .lt 10), none, none, some (.iload_n 1), some (.sipush 128), none, none, some (.if_icmp .lt 14), none, none, some (.new 90), none, none, some (.dup), some (.ldc_w 332), none, none, some (.invokespecial 94), none, none, some (.athrow), some (.aload_n 0), some (.getfield 51), none, none, some (.aload_n 0), some (.getfield 40), none, none, some (.iload_n 1), some (.invokevirtual 186), none, none, some (.aload_n 0), some (.getfield 51), none, none, some (.getfield 308), none, none, some (.aload_n 0), some (.getfield 26), none, none, some (.iload_n 2), some (.invokevirtual 215), none, none, some (.invokevirtual 253), none, none, some (.ireturn)]
def xc137 : List (Option Instr) := [some (.aload_n 0), some (.invokespecial 1), none, none, some (.aload_n 0), some (.bipush 10), none, some (.newarray .int), none, some (.putfield 9), none, none, some (.aload_n 0), some (.bipush 10), none, some (.newarray .int), none, some (.putfield 13), none, none, some (.aload_n 0), some (.bipush 7), none, some (.newarray .int), none, some (.putfield 16), none, none, some (.aload_n 0), some (.bipush 7), none, some (.newarray .int), none, some (.putfield 19), none, none, some (.aload_n 0), some (.bipush 10), none, some (.bipush 10), none, some (.multianewarray 22 2), none, none, none, some (.putfield 24), none, none, some (.aload_n 0), some (.new 27), none, none, some (.dup), some (.invokespecial 29), none, none, some (.putfield 30), none, none, some (.aload_n 0), some (.bipush 10), none, some (.newarray .int), none, some (.putfield 34), none, none, some (.aload_n 0), some (.bipush 10), none, some (.newarray .int), none, some (.putfield 37), none, none, some (.aload_n 0), some (.bipush 7), none, some (.iconst 5), some (.multianewarray 22 2), none, none, none, some (.putfield 40), none, none, some (.aload_n 0), some (.iconst 0), some (.newarray .int), none, some (.putfield 43), none, none, some (.aload_n 0), some (.bipush 7), none, some (.iconst 5), some (.bipush 8), none, some (.multianewarray 46 3), none, none, none, some (.putfield 48), none, none, some (.aload_n 0), some (.bipush 8), none, some (.iconst 5), some (.multianewarray 51 2), none, none, none, some (.putfield 53), none, none, some (.return_)]
def xc138 : List (Option Instr) := [some (.aload_n 0), some (.invokespecial 1), none, none, some (.aload_n 0), some (.getstatic 39), none, none, some (.putfield 9), none, none, some (.return_)]
def xc139 : List (Option Instr) := [some (.aload_n 0), some (.invokespecial 1), none, none, some (.aload_n 0), some (.iconst 0), some (.putfield 7), none, none, some (.return_)]
def xc140 : List (Option Instr) := [some (.aload_n 0), some (.invokespecial 1), none, none, some (.return_)]
def xc141 : List (Option Instr) := [some (.aload_n 0), some (.getfield 56), none, none, some (.ireturn)]
def xc142 : List (Option Instr) := [some (.aload_n 0), some (.iconst 0), some (.putfield 56), none, none, some (.iload_n 1), some (.iconst 0), some (.iconst 5), some (.invokestatic 63), none, none, some (.ifCond .ne 9), none, none, some (.aload_n 0), some (.iconst 1), some (.invokevirtual 70), none, none, some (.ireturn), some (.aload_n 0), some (.getfield 60), none, none, some (.bipush 10), none, some (.if_icmp .ne 9), none, none, some (.aload_n 0), some (.iconst 2), some (.invokevirtual 70), none, none, some (.ireturn), some (.aload_n 0), some (.getfield 9), none, none, some (.aload_n 0), some (.getfield 60), none, none, some (.iload_n 1), some (.iastore), some (.aload_n 0), some (.dup), some (.getfield 60), none, none, some (.dup_x1), some (.iconst 1), some (.iadd), some (.putfield 60), none, none, some (.ireturn)]
def xc143 : List (Option Instr) := [some (.iload_n 0), some (.iload_n 1), some (.if_icmp .lt 12), none, none, some (.iload_n 0), some (.iload_n 2), some (.if_icmp .gt 7), none, none, some (.iconst 1), some (.goto 4), none, none, some (.iconst 0), some (.ireturn)]
def xc144 : List (Option Instr) := [some (.aload_n 0), some (.iload_n 1), some (.putfield 56), none, none, some (.iconst 0), some (.ireturn)]
def xc145 : List (Option Instr) := [some (.aload_n 0), some (.iconst 0), some (.putfield 56), none, none, some (.iload_n 1), some (.iconst 0), some (.iconst 5), some (.invokestatic 63), none, none, some (.ifCond .ne 9), none, none, some (.aload_n 0), some (.iconst 1), some (.invokevirtual 70), none, none, some (.ireturn), some (.aload_n 0), some (.getfield 67), none, none, some (.bipush 7), none, some (.if_icmp .eq 10), none, none, some (.aload_n 0), some (.getfield 74), none, none, some (.ifCond .eq 9), none, none, some (.aload_n 0), some (.iconst 2), some (.invokevirtual 70), none, none, some (.ireturn), some (.aload_n 0), some (.getfield 16), none, none, some (.aload_n 0), some (.getfield 67), none, none, some (.iload_n 1), some (.iastore), some (.aload_n 0), some (.dup), some (.getfield 67), none, none, some (.dup_x1), some (.iconst 1), some (.iadd), some (.putfield 67), none, none, some (.ireturn)]
def xc146 : List (Option Instr) := [some (.aload_n 0), some (.iconst 0), some (.putfield 56), none, none, some (.iload_n 1), some (.ifCond .lt 30), none, none, some (.iload_n 1), some (.iconst 1), some (.aload_n 0), some (.getfield 60), none, none, some (.ishl), some (.if_icmp .ge 20), none, none, some (.iload_n 1), some (.invokestatic 82), none, none, some (.iconst 3), some (.if_icmp .lt 12), none, none, some (.iload_n 2), some (.iconst 1), some (.iconst 5), some (.invokestatic 63), none, none, some (.ifCond .ne 9), none, none, some (.aload_n 0), some (.iconst 1), some (.invokevirtual 70), none, none, some (.ireturn), some (.aload_n 0), some (.getfield 74), none, none, some (.ifCond .ne 15), none, none, some (.aload_n 0), some (.iload_n 1), some (.invokevirtual 85), none, none, some (.invokestatic 82), none, none, some (.iconst 3), some (.if_icmp .ge 9), none, none, some (.aload_n 0), some (.iconst 2), some (.invokevirtual 70), none, none, some (.ireturn), some (.aload_n 0), some (.iconst 1), some (.putfield 74), none, none, some (.aload_n 0), some (.iload_n 1), some (.putfield 88), none, none, some (.aload_n 0), some (.iload_n 1), some (.putfield 91), none, none, some (.aload_n 0), some (.iload_n 2), some (.putfield 93), none, none, some (.aload_n 0), some (.aload_n 0), some (.iload_n 1), some (.invokevirtual 85), none, none, some (.putfield 96), none, none, some (.aload_n 0), some (.iconst 0), some (.putfield 99), none, none, some (.aload_n 0), some (.bipush 10), none, some (.newarray .int), none, some (.putfield 34), none, none, some (.aload_n 0), some (.invokevirtual 102), none, none, some (.aload_n 0), some (.bipush 7), none, some (.iconst 5), some (.multianewarray 22 2), none, none, none, some (.putfield 40), none, none, some (.aload_n 0), some (.getfield 96), none, none, some (.invokestatic 82), none, none, some (.ireturn)]
def xc147 : List (Option Instr) := [some (.iconst 0), some (.istore_n 1), some (.iconst 0), some (.istore_n 2), some (.iload_n 2), some (.bipush 10), none, some (.if_icmp .ge 17), none, none, some (.iload_n 1), some (.iload_n 0), some (.iload_n 2), some (.ishr), some (.iconst 1), some (.iand), some (.iadd), some (.istore_n 1), some (.iinc 2 1), none, none, some (.goto (-17)), none, none, some (.iload_n 1), some (.ireturn)]
def xc148 : List (Option Instr) := [some (.iconst 0), some (.istore_n 2), some (.iconst 0), some (.istore_n 3), some (.iconst 0), some (.istore 4), none, some (.iload 4), none, some (.aload_n 0), some (.getfield 67), none, none, some (.if_icmp .ge 86), none, none, some (.iconst 1), some (.istore 5), none, some (.iconst 0), some (.istore 6), none, some (.iload 6), none, some (.aload_n 0), some (.getfield 60), none, none, some (.if_icmp .ge 45), none, none, some (.iload 5), none, some (.iload_n 1), some (.iload 6), none, some (.invokestatic 78), none, none, some (.ifCond .eq 20), none, none, some (.aload_n 0), some (.getfield 9), none, none, some (.iload 6), none, some (.iaload), some (.aload_n 0), some (.getfield 16), none, none, some (.iload 4), none, some (.iaload), some (.if_icmp .eq 7), none, none, some (.iconst 1), some (.goto 4), none, none, some (.iconst 0), some (.iand), some (.istore 5), none, some (.iinc 6 1), none, none, some (.goto (-48)), none, none, some (.iload 5), none, some (.ifCond .ne 6), none, none, some (.goto 15), none, none, some (.iload_n 2), some (.iconst 1), some (.iload 4), none, some (.ishl), some (.ior), some (.istore_n 2), some (.iconst 1), some (.iload 4), none, some (.ishl), some (.istore_n 3), some (.iinc 4 1), none, none, some (.goto (-89)), none, none, some (.iload_n 2), some (.invokestatic 82), none, none, some (.iconst 2), some (.irem), some (.ifCond .ne 11), none, none, some (.iload_n 2), some (.iload_n 3), some (.iconst (-1)), some (.ixor), some (.iand), some (.goto 4), none, none, some (.iload_n 2), some (.ireturn)]
def xc149 : List (Option Instr) := [some (.iload_n 0), some (.iload_n 1), some (.ishr), some (.iconst 1), some (.iand), some (.iconst 1), some (.if_icmp .ne 7), none, none, some (.iconst 1), some (.goto 4), none, none, some (.iconst 0), some (.ireturn)]
def xc150 : List (Option Instr) := [some (.iconst 0), some (.istore_n 1), some (.iload_n 1), some (.bipush 10), none, some (.if_icmp .ge 16), none, none, some (.aload_n 0), some (.getfield 37), none, none, some (.iload_n 1), some (.iconst (-1)), some (.iastore), some (.iinc 1 1), none, none, some (.goto (-16)), none, none, some (.return_)]
def xc151 : List (Option Instr) := [some (.aload_n 0), some (.iconst 0), some (.putfield 56), none, none, some (.iload_n 1), some (.iconst 2), some (.if_icmp .lt 13), none, none, some (.iload_n 2), some (.iconst 2), some (.bipush 6), none, some (.invokestatic 63), none, none, some (.ifCond .ne 9), none, none, some (.aload_n 0), some (.iconst 1), some (.invokevirtual 70), none, none, some (.ireturn), some (.aload_n 0), some (.getfield 74), none, none, some (.ifCond .eq 28), none, none, some (.aload_n 0), some (.getfield 105), none, none, some (.ifCond .ne 21), none, none, some (.aload_n 0), some (.getfield 108), none, none, some (.ifCond .ne 14), none, none, some (.iload_n 1), some (.aload_n 0), some (.getfield 91), none, none, some (.invokestatic 82), none, none, some (.if_icmp .lt 9), none, none, some (.aload_n 0), some (.iconst 2), some (.invokevirtual 70), none, none, some (.ireturn), some (.aload_n 0), some (.iconst 1), some (.putfield 108), none, none, some (.aload_n 0), some (.iload_n 1), some (.putfield 111), none, none, some (.aload_n 0), some (.iload_n 2), some (.putfield 114), none, none, some (.aload_n 0), some (.iconst 0), some (.putfield 116), none, none, some (.aload_n 0), some (.bipush 7), none, some (.iconst 5), some (.multianewarray 22 2), none, none, none, some (.putfield 40), none, none, some (.aload_n 0), some (.invokevirtual 102), none, none, some (.aload_n 0), some (.dup), some (.getfield 99), none, none, some (.iconst 1), some (.iadd), some (.dup_x1), some (.putfield 99), none, none, some (.ireturn)]
def xc152 : List (Option Instr) := [some (.aload_n 0), some (.iconst 0), some (.putfield 56), none, none, some (.aload_n 0), some (.getfield 108), none, none, some (.ifCond .eq 14), none, none, some (.aload_n 0), some (.getfield 116), none, none, some (.aload_n 0), some (.getfield 93), none, none, some (.if_icmp .ne 9), none, none, some (.aload_n 0), some (.iconst 1), some (.invokevirtual 70), none, none, some (.ireturn), some (.aload_n 0), some (.getfield 91), none, none, some (.invokestatic 82), none, none, some (.aload_n 0), some (.getfield 114), none, none, some (.iadd), some (.iconst 1), some (.isub), some (.aload_n 0), some (.getfield 114), none, none, some (.idiv), some (.istore_n 1), some (.iload_n 1), some (.newarray .int), none, some (.astore_n 2), some (.aload_n 0), some (.invokevirtual 102), none, none, some (.iconst 0), some (.istore_n 3), some (.iload_n 3), some (.aload_n 0), some (.getfield 60), none, none, some (.if_icmp .ge 148), none, none, some (.aload_n 0), some (.getfield 91), none, none, some (.iload_n 3), some (.invokestatic 78), none, none, some (.ifCond .ne 6), none, none, some (.goto 128), none, none, some (.iconst (-1)), some (.istore 4), none, some (.iconst 0), some (.istore 5), none, some (.iconst 0), some (.istore 6), none, some (.iload 6), none, some (.iload_n 1), some (.if_icmp .ge 95), none, none, some (.iconst 0), some (.istore 7), none, some (.iconst 0), some (.istore 8), none, some (.iload 8), none, some (.iload_n 3), some (.if_icmp .ge 39), none, none, some (.iload 7), none, some (.aload_n 2), some (.iload 6), none, some (.iaload), some (.iload 8), none, some (.invokestatic 78), none, none, some (.ifCond .eq 15), none, none, some (.aload_n 0), some (.getfield 24), none, none, some (.iload_n 3), some (.aaload), some (.iload 8), none, some (.iaload), some (.goto 4), none, none, some (.iconst 0), some (.iadd), some (.istore 7), none, some (.iinc 8 1), none, none, some (.goto (-39)), none, none, some (.aload_n 2), some (.iload 6), none, some (.iaload), some (.invokestatic 82), none, none, some (.aload_n 0), some (.getfield 114), none, none, some (.if_icmp .eq 27), none, none, some (.iload 4), none, some (.iconst (-1)), some (.if_icmp .eq 13), none, none, some (.iload 7), none, some (.iload 5), none, some (.if_icmp .lt 6), none, none, some (.goto 11), none, none, some (.iload 6), none, some (.istore 4), none, some (.iload 7), none, some (.istore 5), none, some (.iinc 6 1), none, none, some (.goto (-95)), none, none, some (.aload_n 2), some (.iload 4), none, some (.dup2), some (.iaload), some (.iconst 1), some (.iload_n 3), some (.ishl), some (.ior), some (.iastore), some (.aload_n 0), some (.getfield 37), none, none, some (.iload_n 3), some (.iload 4), none, some (.iastore), some (.iinc 3 1), none, none, some (.goto (-150)), none, none, some (.iconst 0), some (.istore_n 3), some (.iload_n 3), some (.aload_n 0), some (.getfield 60), none, none, some (.if_icmp .ge 76), none, none, some (.iconst 0), some (.istore 4), none, some (.iload 4), none, some (.aload_n 0), some (.getfield 60), none, none, some (.if_icmp .ge 58), none, none, some (.aload_n 0), some (.getfield 24), none, none, some (.iload_n 3), some (.aaload), some (.iload 4), none, some (.dup2), some (.iaload), some (.iload_n 3), some (.iload 4), none, some (.if_icmp .eq 33), none, none, some (.aload_n 0), some (.getfield 37), none, none, some (.iload_n 3), some (.iaload), some (.iconst (-1)), some (.if_icmp .eq 23), none, none, some (.aload_n 0), some (.getfield 37), none, none, some (.iload_n 3), some (.iaload), some (.aload_n 0), some (.getfield 37), none, none, some (.iload 4), none, some (.iaload), some (.if_icmp .ne 7), none, none, some (.iconst 1), some (.goto 4), none, none, some (.iconst 0), some (.iadd), some (.iastore), some (.iinc 4 1), none, none, some (.goto (-61)), none, none, some (.iinc 3 1), none, none, some (.goto (-78)), none, none, some (.aload_n 0), some (.dup), some (.getfield 116), none, none, some (.iconst 1), some (.iadd), some (.putfield 116), none, none, some (.iload_n 1), some (.ireturn)]
def xc153 : List (Option Instr) := [some (.aload_n 0), some (.iconst 0), some (.putfield 56), none, none, some (.aload_n 0), some (.getfield 108), none, none, some (.ifCond .eq 36), none, none, some (.aload_n 0), some (.iload_n 1), some (.invokevirtual 119), none, none, some (.ifCond .eq 28), none, none, some (.aload_n 0), some (.getfield 96), none, none, some (.iload_n 1), some (.invokestatic 78), none, none, some (.ifCond .eq 17), none, none, some (.iload_n 2), some (.iconst 0), some (.aload_n 0), some (.getfield 116), none, none, some (.iconst 1), some (.isub), some (.invokestatic 63), none, none, some (.ifCond .ne 9), none, none, some (.aload_n 0), some (.iconst 1), some (.invokevirtual 70), none, none, some (.ireturn), some (.iload_n 3), some (.ifCond .lt 25), none, none, some (.iload_n 3), some (.aload_n 0), some (.getfield 91), none, none, some (.iconst (-1)), some (.ixor), some (.iand), some (.ifCond .ne 14), none, none, some (.iload_n 3), some (.invokestatic 82), none, none, some (.aload_n 0), some (.getfield 111), none, none, some (.if_icmp .eq 9), none, none, some (.aload_n 0), some (.iconst 2), some (.invokevirtual 70), none, none, some (.ireturn), some (.aload_n 0), some (.getfield 40), none, none, some (.iload_n 1), some (.aaload), some (.iload_n 2), some (.iload_n 3), some (.iastore), some (.iconst 0), some (.istore 4), none, some (.iconst 0), some (.istore 5), none, some (.iload 5), none, some (.aload_n 0), some (.getfield 67), none, none, some (.if_icmp .ge 28), none, none, some (.iload 4), none, some (.aload_n 0), some (.getfield 40), none, none, some (.iload 5), none, some (.aaload), some (.iload_n 2), some (.iaload), some (.iload_n 3), some (.iand), some (.invokestatic 82), none, none, some (.iadd), some (.istore 4), none, some (.iinc 5 1), none, none, some (.goto (-31)), none, none, some (.iload 4), none, some (.ireturn)]
def xc154 : List (Option Instr) := [some (.iload_n 1), some (.iconst 0), some (.aload_n 0), some (.getfield 67), none, none, some (.iconst 1), some (.isub), some (.invokestatic 63), none, none, some (.ireturn)]
def xc155 : List (Option Instr) := [some (.aload_n 0), some (.iconst 0), some (.putfield 56), none, none, some (.aload_n 0), some (.getfield 108), none, none, some (.ifCond .eq 14), none, none, some (.aload_n 0), some (.getfield 116), none, none, some (.aload_n 0), some (.getfield 93), none, none, some (.if_icmp .ge 9), none, none, some (.aload_n 0), some (.iconst 1), some (.invokevirtual 70), none, none, some (.ireturn), some (.iconst 0), some (.istore_n 1), some (.iconst 0), some (.istore_n 2), some (.iload_n 2), some (.aload_n 0), some (.getfield 60), none, none, some (.if_icmp .ge 88), none, none, some (.iconst 0), some (.istore_n 3), some (.iconst 0), some (.istore 4), none, some (.iload 4), none, some (.aload_n 0), some (.getfield 60), none, none, some (.if_icmp .ge 43), none, none, some (.iload_n 3), some (.aload_n 0), some (.getfield 91), none, none, some (.iload 4), none, some (.invokestatic 78), none, none, some (.ifCond .eq 21), none, none, some (.aload_n 0), some (.iload 4), none, some (.invokevirtual 123), none, none, some (.aload_n 0), some (.iload_n 2), some (.invokevirtual 123), none, none, some (.if_icmp .le 7), none, none, some (.iconst 1), some (.goto 4), none, none, some (.iconst 0), some (.iadd), some (.istore_n 3), some (.iinc 4 1), none, none, some (.goto (-46)), none, none, some (.aload_n 0), some (.getfield 91), none, none, some (.iload_n 2), some (.invokestatic 78), none, none, some (.ifCond .eq 17), none, none, some (.iload_n 3), some (.aload_n 0), some (.getfield 111), none, none, some (.if_icmp .ge 9), none, none, some (.iload_n 1), some (.iconst 1), some (.iload_n 2), some (.ishl), some (.ior), some (.istore_n 1), some (.iinc 2 1), none, none, some (.goto (-90)), none, none, some (.iconst 0), some (.istore_n 2), some (.iload_n 2), some (.aload_n 0), some (.getfield 60), none, none, some (.if_icmp .ge 38), none, none, some (.aload_n 0), some (.getfield 91), none, none, some (.iload_n 2), some (.invokestatic 78), none, none, some (.ifCond .eq 21), none, none, some (.iload_n 1), some (.iload_n 2), some (.invokestatic 78), none, none, some (.ifCond .ne 13), none, none, some (.aload_n 0), some (.getfield 34), none, none, some (.iload_n 2), some (.aload_n 0), some (.getfield 99), none, none, some (.iastore), some (.iinc 2 1), none, none, some (.goto (-40)), none, none, some (.aload_n 0), some (.iload_n 1), some (.putfield 91), none, none, some (.aload_n 0), some (.iconst 0), some (.putfield 108), none, none, some (.aload_n 0), some (.getfield 91), none, none, some (.invokestatic 82), none, none, some (.ireturn)]
def xc156 : List (Option Instr) := [some (.iconst 0), some (.istore_n 2), some (.iconst 0), some (.istore_n 3), some (.iload_n 3), some (.aload_n 0), some (.getfield 67), none, none, some (.if_icmp .ge 48), none, none, some (.iconst 0), some (.istore 4), none, some (.iload 4), none, some (.iconst 5), some (.if_icmp .ge 33), none, none, some (.iload_n 2), some (.aload_n 0), some (.getfield 40), none, none, some (.iload_n 3), some (.aaload), some (.iload 4), none, some (.iaload), some (.iload_n 1), some (.invokestatic 78), none, none, some (.ifCond .eq 7), none, none, some (.iconst 1), some (.goto 4), none, none, some (.iconst 0), some (.iadd), some (.istore_n 2), some (.iinc 4 1), none, none, some (.goto (-33)), none, none, some (.iinc 3 1), none, none, some (.goto (-50)), none, none, some (.iload_n 2), some (.ireturn)]
def xc157 : List (Option Instr) := [some (.aload_n 0), some (.iconst 0), some (.putfield 56), none, none, some (.aload_n 0), some (.getfield 74), none, none, some (.ifCond .eq 29), none, none, some (.aload_n 0), some (.getfield 105), none, none, some (.ifCond .ne 22), none, none, some (.aload_n 0), some (.getfield 108), none, none, some (.ifCond .ne 15), none, none, some (.aload_n 0), some (.getfield 91), none, none, some (.invokestatic 82), none, none, some (.bipush 8), none, some (.if_icmp .le 9), none, none, some (.aload_n 0), some (.iconst 1), some (.invokevirtual 70), none, none, some (.ireturn), some (.aload_n 0), some (.iconst 1), some (.putfield 105), none, none, some (.aload_n 0), some (.aload_n 0), some (.getfield 91), none, none, some (.invokestatic 82), none, none, some (.newarray .int), none, some (.putfield 43), none, none, some (.iconst 0), some (.istore_n 1), some (.iconst 0), some (.istore_n 2), some (.iload_n 2), some (.aload_n 0), some (.getfield 60), none, none, some (.if_icmp .ge 30), none, none, some (.aload_n 0), some (.getfield 91), none, none, some (.iload_n 2), some (.invokestatic 78), none, none, some (.ifCond .eq 13), none, none, some (.aload_n 0), some (.getfield 43), none, none, some (.iload_n 1), some (.iinc 1 1), none, none, some (.iload_n 2), some (.iastore), some (.iinc 2 1), none, none, some (.goto (-32)), none, none, some (.aload_n 0), some (.bipush 7), none, some (.iconst 5), some (.bipush 8), none, some (.multianewarray 46 3), none, none, none, some (.putfield 48), none, none, some (.aload_n 0), some (.bipush 8), none, some (.iconst 5), some (.multianewarray 51 2), none, none, none, some (.putfield 53), none, none, some (.aload_n 0), some (.getfield 43), none, none, some (.arraylength), some (.ireturn)]
def xc158 : List (Option Instr) := [some (.aload_n 0), some (.iconst 0), some (.putfield 56), none, none, some (.aload_n 0), some (.getfield 105), none, none, some (.ifCond .eq 30), none, none, some (.aload_n 0), some (.iload_n 1), some (.invokevirtual 119), none, none, some (.ifCond .eq 22), none, none, some (.aload_n 0), some (.getfield 96), none, none, some (.iload_n 1), some (.invokestatic 78), none, none, some (.ifCond .eq 11), none, none, some (.aload_n 0), some (.iload_n 2), some (.invokevirtual 126), none, none, some (.ifCond .ne 9), none, none, some (.aload_n 0), some (.iconst 1), some (.invokevirtual 70), none, none, some (.ireturn), some (.bipush 8), none, some (.newarray .int), none, some (.astore 4), none, some (.iload_n 3), some (.istore 5), none, some (.iconst 0), some (.istore 6), none, some (.iconst 0), some (.istore 7), none, some (.iload 7), none, some (.aload_n 0), some (.getfield 43), none, none, some (.arraylength), some (.if_icmp .ge 69), none, none, some (.iload 5), none, some (.bipush 10), none, some (.irem), some (.istore 8), none, some (.iload 8), none, some (.iconst 1), some (.aload_n 0), some (.getfield 43), none, none, some (.arraylength), some (.invokestatic 63), none, none, some (.ifCond .eq 13), none, none, some (.iload 6), none, some (.iload 8), none, some (.invokestatic 78), none, none, some (.ifCond .eq 9), none, none, some (.aload_n 0), some (.iconst 2), some (.invokevirtual 70), none, none, some (.ireturn), some (.aload 4), none, some (.iload 7), none, some (.iload 8), none, some (.iastore), some (.iload 6), none, some (.iconst 1), some (.iload 8), none, some (.ishl), some (.ior), some (.istore 6), none, some (.iload 5), none, some (.bipush 10), none, some (.idiv), some (.istore 5), none, some (.iinc 7 1), none, none, some (.goto (-73)), none, none, some (.iload 5), none, some (.ifCond .eq 9), none, none, some (.aload_n 0), some (.iconst 2), some (.invokevirtual 70), none, none, some (.ireturn), some (.aload_n 0), some (.getfield 48), none, none, some (.iload_n 1), some (.aaload), some (.iload_n 2), some (.aload 4), none, some (.aastore), some (.aload_n 0), some (.iload_n 2), some (.invokevirtual 129), none, none, some (.ireturn)]
def xc159 : List (Option Instr) := [some (.iload_n 1), some (.iconst 0), some (.aload_n 0), some (.getfield 93), none, none, some (.iconst 1), some (.isub), some (.invokestatic 63), none, none, some (.ireturn)]
def xc160 : List (Option Instr) := [some (.iconst 0), some (.istore_n 2), some (.iconst 0), some (.istore_n 3), some (.iload_n 3), some (.aload_n 0), some (.getfield 67), none, none, some (.if_icmp .ge 30), none, none, some (.iload_n 2), some (.aload_n 0), some (.getfield 48), none, none, some (.iload_n 3), some (.aaload), some (.iload_n 1), some (.aaload), some (.iconst 0), some (.iaload), some (.ifCond .le 7), none, none, some (.iconst 1), some (.goto 4), none, none, some (.iconst 0), some (.iadd), some (.istore_n 2), some (.iinc 3 1), none, none, some (.goto (-32)), none, none, some (.iload_n 2), some (.ireturn)]
def xc161 : List (Option Instr) := [some (.aload_n 0), some (.iconst 0), some (.putfield 56), none, none, some (.aload_n 0), some (.iload_n 1), some (.iload_n 2), some (.invokevirtual 132), none, none, some (.ifCond .ne 9), none, none, some (.aload_n 0), some (.iconst 1), some (.invokevirtual 70), none, none, some (.ireturn), some (.aload_n 0), some (.getfield 48), none, none, some (.iload_n 1), some (.aaload), some (.iload_n 2), some (.bipush 8), none, some (.newarray .int), none, some (.aastore), some (.aload_n 0), some (.iload_n 2), some (.invokevirtual 129), none, none, some (.ireturn)]
def xc162 : List (Option Instr) := [some (.aload_n 0), some (.getfield 105), none, none, some (.ifCond .eq 36), none, none, some (.aload_n 0), some (.iload_n 1), some (.invokevirtual 119), none, none, some (.ifCond .eq 28), none, none, some (.aload_n 0), some (.iload_n 2), some (.invokevirtual 126), none, none, some (.ifCond .eq 20), none, none, some (.aload_n 0), some (.getfield 48), none, none, some (.iload_n 1), some (.aaload), some (.iload_n 2), some (.aaload), some (.iconst 0), some (.iaload), some (.ifCond .le 7), none, none, some (.iconst 1), some (.goto 4), none, none, some (.iconst 0), some (.ireturn)]
def xc163 : List (Option Instr) := [some (.aload_n 0), some (.iconst 0), some (.putfield 56), none, none, some (.aload_n 0), some (.iload_n 1), some (.invokevirtual 135), none, none, some (.istore 4), none, some (.iload 4), none, some (.iconst (-1)), some (.if_icmp .eq 11), none, none, some (.aload_n 0), some (.iload_n 2), some (.invokevirtual 126), none, none, some (.ifCond .ne 17), none, none, some (.aload_n 0), some (.iconst 1), some (.invokevirtual 70), none, none, some (.ifCond .le 7), none, none, some (.iconst 1), some (.goto 4), none, none, some (.iconst 0), some (.ireturn), some (.aload_n 0), some (.getfield 53), none, none, some (.iload 4), none, some (.aaload), some (.iload_n 2), some (.baload), some (.istore 5), none, some (.aload_n 0), some (.getfield 53), none, none, some (.iload 4), none, some (.aaload), some (.iload_n 2), some (.iload_n 3), some (.bastore), some (.iload 5), none, some (.ireturn)]
def xc164 : List (Option Instr) := [some (.iconst 0), some (.istore_n 2), some (.iload_n 2), some (.aload_n 0), some (.getfield 43), none, none, some (.arraylength), some (.if_icmp .ge 28), none, none, some (.aload_n 0), some (.getfield 105), none, none, some (.ifCond .eq 21), none, none, some (.aload_n 0), some (.getfield 43), none, none, some (.iload_n 2), some (.iaload), some (.iload_n 1), some (.if_icmp .ne 5), none, none, some (.iload_n 2), some (.ireturn), some (.iinc 2 1), none, none, some (.goto (-31)), none, none, some (.iconst (-1)), some (.ireturn)]
def xc165 : List (Option Instr) := [some (.aload_n 0), some (.iconst 0), some (.putfield 56), none, none, some (.aload_n 0), some (.getfield 105), none, none, some (.ifCond .ne 9), none, none, some (.aload_n 0), some (.iconst 1), some (.invokevirtual 70), none, none, some (.ireturn), some (.new 138), none, none, some (.dup), some (.aload_n 0), some (.iconst 0), some (.invokespecial 140), none, none, some (.astore_n 1), some (.bipush 10), none, some (.newarray .int), none, some (.astore_n 2), some (.iconst 0), some (.istore_n 3), some (.iload_n 3), some (.aload_n 0), some (.getfield 60), none, none, some (.if_icmp .ge 69), none, none, some (.aload_n 0), some (.getfield 88), none, none, some (.iload_n 3), some (.invokestatic 78), none, none, some (.ifCond .ne 6), none, none, some (.goto 49), none, none, some (.aload_n 0), some (.iload_n 3), some (.invokevirtual 135), none, none, some (.istore 4), none, some (.aload_n 2), some (.iload_n 3), some (.iload 4), none, some (.iconst (-1)), some (.if_icmp .ne 14), none, none, some (.aload_n 0), some (.getfield 34), none, none, some (.iload_n 3), some (.iaload), some (.iconst 1), some (.isub), some (.goto 22), none, none, some (.iconst 2), some (.aload_n 0), some (.getfield 88), none, none, some (.invokestatic 82), none, none, some (.imul), some (.iconst 2), some (.iadd), some (.aload_n 1), some (.getfield 143), none, none, some (.iload 4), none, some (.iaload), some (.isub), some (.iastore), some (.iinc 3 1), none, none, some (.goto (-71)), none, none, some (.iconst 0), some (.istore_n 3), some (.iload_n 3), some (.aload_n 0), some (.getfield 67), none, none, some (.if_icmp .ge 100), none, none, some (.iconst 0), some (.istore 4), none, some (.iload 4), none, some (.aload_n 0), some (.getfield 93), none, none, some (.if_icmp .ge 82), none, none, some (.aload_n 0), some (.getfield 48), none, none, some (.iload_n 3), some (.aaload), some (.iload 4), none, some (.aaload), some (.iconst 0), some (.iaload), some (.ifCond .ne 6), none, none, some (.goto 59), none, none, some (.iconst 0), some (.istore 5), none, some (.iload 5), none, some (.aload_n 0), some (.getfield 43), none, none, some (.arraylength), some (.if_icmp .ge 46), none, none, some (.aload_n 0), some (.getfield 19), none, none, some (.iload_n 3), some (.dup2), some (.iaload), some (.iconst 2), some (.aload_n 0), some (.getfield 48), none, none, some (.iload_n 3), some (.aaload), some (.iload 4), none, some (.aaload), some (.iload 5), none, some (.iaload), some (.imul), some (.aload_n 1), some (.getfield 146), none, none, some (.iload 5), none, some (.aaload), some (.iload 4), none, some (.iaload), some (.isub), some (.invokestatic 149), none, none, some (.iadd), some (.iastore), some (.iinc 5 1), none, none, some (.goto (-50)), none, none, some (.iinc 4 1), none, none, some (.goto (-85)), none, none, some (.iinc 3 1), none, none, some (.goto (-102)), none, none, some (.aload_n 0), some (.getfield 30), none, none, some (.aload_n 2), some (.invokeinterface 154 2), none, none, none, none, some (.pop), some (.iconst 0), some (.istore_n 3), some (.iload_n 3), some (.aload_n 0), some (.getfield 60), none, none, some (.if_icmp .ge 48), none, none, some (.aload_n 0), some (.getfield 88), none, none, some (.iload_n 3), some (.invokestatic 78), none, none, some (.ifCond .eq 31), none, none, some (.aload_n 0), some (.iload_n 3), some (.invokevirtual 160), none, none, some (.bipush 60), none, some (.if_icmp .lt 21), none, none, some (.aload_n 0), some (.getfield 13), none, none, some (.iload_n 3), some (.iconst 3), some (.aload_n 0), some (.getfield 13), none, none, some (.iload_n 3), some (.iaload), some (.iconst 1), some (.iadd), some (.invokestatic 163), none, none, some (.iastore), some (.iinc 3 1), none, none, some (.goto (-50)), none, none, some (.aload_n 0), some (.iconst 0), some (.putfield 74), none, none, some (.aload_n 0), some (.iconst 0), some (.putfield 105), none, none, some (.aload_n 0), some (.getfield 30), none, none, some (.invokeinterface 167 1), none, none, none, none, some (.iconst 1), some (.isub), some (.ireturn)]
def xc166 : List (Option Instr) := [some (.aload_n 0), some (.aload_n 1), some (.putfield 3), none, none, some (.aload_n 0), some (.invokespecial 9), none, none, some (.aload_n 0), some (.aload_n 0), some (.getfield 3), none, none, some (.getfield 15), none, none, some (.arraylength), some (.putfield 19), none, none, some (.aload_n 0), some (.aload_n 0), some (.getfield 19), none, none, some (.iconst 5), some (.multianewarray 23 2), none, none, none, some (.putfield 25), none, none, some (.aload_n 0), some (.aload_n 0), some (.getfield 19), none, none, some (.iconst 5), some (.multianewarray 23 2), none, none, none, some (.putfield 28), none, none, some (.aload_n 0), some (.aload_n 0), some (.getfield 19), none, none, some (.newarray .int), none, some (.putfield 31), none, none, some (.aload_n 0), some (.aload_n 0), some (.getfield 19), none, none, some (.newarray .int), none, some (.putfield 34), none, none, some (.aload_n 0), some (.aload_n 0), some (.getfield 19), none, none, some (.newarray .int), none, some (.putfield 37), none, none, some (.aload_n 0), some (.iload_n 2), some (.putfield 40), none, none, some (.iconst 0), some (.istore_n 3), some (.iload_n 3), some (.aload_n 1), some (.getfield 43), none, none, some (.if_icmp .ge 14), none, none, some (.aload_n 0), some (.iload_n 3), some (.invokevirtual 46), none, none, some (.iinc 3 1), none, none, some (.goto (-16)), none, none, some (.iconst 0), some (.istore_n 3), some (.iload_n 3), some (.aload_n 0), some (.getfield 19), none, none, some (.if_icmp .ge 45), none, none, some (.iconst 0), some (.istore 4), none, some (.iload 4), none, some (.aload_n 1), some (.getfield 43), none, none, some (.if_icmp .ge 27), none, none, some (.aload_n 0), some (.getfield 31), none, none, some (.iload_n 3), some (.dup2), some (.iaload), some (.aload_n 0), some (.getfield 25), none, none, some (.iload_n 3), some (.aaload), some (.iload 4), none, some (.iaload), some (.iadd), some (.iastore), some (.iinc 4 1), none, none, some (.goto (-30)), none, none, some (.iinc 3 1), none, none, some (.goto (-47)), none, none, some (.iconst 1), some (.istore_n 3), some (.iload_n 3), some (.aload_n 0), some (.getfield 19), none, none, some (.if_icmp .gt 12), none, none, some (.aload_n 0), some (.iload_n 3), some (.invokevirtual 50), none, none, some (.istore_n 3), some (.goto (-14)), none, none, some (.return_)]
def xc167_0 : List (Option Instr) := [some (.iconst 0), some (.istore_n 2), some (.iconst 0), some (.istore_n 3), some (.iload_n 3), some (.aload_n 0), some (.getfield 3), none, none, some (.getfield 54), none, none, some (.if_icmp .ge 44), none, none, some (.iload_n 2), some (.aload_n 0), some (.getfield 40), none, none, some (.iload_n 3), some (.invokestatic 57), none, none, some (.ifCond .ne 23), none, none, some (.aload_n 0), some (.getfield 3), none, none, some (.getfield 61), none, none, some (.iload_n 3), some (.aaload), some (.iload_n 1), some (.aaload), some (.iconst 0), some (.iaload), some (.ifCond .le 7), none, none, some (.iconst 1), some (.goto 4), none, none, some (.iconst 0), some (.iadd), some (.istore_n 2), some (.iinc 3 1), none, none, some (.goto (-49)), none, none, some (.iconst 0), some (.istore_n 3), some (.iconst 0), some (.istore 4), none, some (.iload 4), none, some (.aload_n 0), some (.getfield 19), none, none, some (.if_icmp .ge 32), none, none, some (.iload_n 3), some (.aload_n 0), some (.getfield 3), none, none, some (.getfield 69), none, none, some (.iload 4), none, some (.aaload), some (.iload_n 1), some (.baload), some (.ifCond .eq 7), none, none, some (.iconst 0), some (.goto 4), none, none, some (.iconst 1), some (.iadd), some (.istore_n 3), some (.iinc 4 1), none, none, some (.goto (-35)), none, none, some (.iconst 0)]
def xc167_1 : List (Option Instr) := [some (.istore 4), none, some (.iload 4), none, some (.aload_n 0), some (.getfield 19), none, none, some (.if_icmp .ge 87), none, none, some (.aload_n 0), some (.getfield 28), none, none, some (.iload 4), none, some (.aaload), some (.iload_n 1), some (.aload_n 0), some (.getfield 3), none, none, some (.getfield 69), none, none, some (.iload 4), none, some (.aaload), some (.iload_n 1), some (.baload), some (.ifCond .eq 7), none, none, some (.iconst 5), some (.goto 4), none, none, some (.iconst 4), some (.iastore), some (.aload_n 0), some (.getfield 25), none, none, some (.iload 4), none, some (.aaload), some (.iload_n 1), some (.iload_n 2), some (.ifCond .ne 12), none, none, some (.aload_n 0), some (.getfield 19), none, none, some (.iconst 1), some (.iadd), some (.goto 30), none, none, some (.aload_n 0), some (.getfield 3), none, none, some (.getfield 69), none, none, some (.iload 4), none, some (.aaload), some (.iload_n 1), some (.baload), some (.ifCond .eq 14), none, none, some (.iload_n 3), some (.iconst 1), some (.iadd), some (.aload_n 0), some (.getfield 19), none, none, some (.iadd), some (.goto 4), none, none, some (.iconst 0), some (.iastore), some (.iinc 4 1), none, none, some (.goto (-90)), none, none, some (.iconst 1), some (.istore 4), none, some (.iconst 1), some (.istore 5)]
def xc167_2 : List (Option Instr) := [none, some (.iload 5), none, some (.aload_n 0), some (.getfield 19), none, none, some (.if_icmp .gt 357), none, none, some (.iload_n 2), some (.ifCond .le 353), none, none, some (.iconst 0), some (.istore 6), none, some (.iconst 0), some (.istore 7), none, some (.iload 7), none, some (.aload_n 0), some (.getfield 19), none, none, some (.if_icmp .ge 46), none, none, some (.aload_n 0), some (.getfield 25), none, none, some (.iload 7), none, some (.aaload), some (.iload_n 1), some (.iaload), some (.ifCond .ne 28), none, none, some (.aload_n 0), some (.iload 7), none, some (.iload_n 1), some (.iload 5), none, some (.iconst 0), some (.invokevirtual 65), none, none, some (.iload_n 2), some (.iconst 2), some (.idiv), some (.if_icmp .le 12), none, none, some (.iload 6), none, some (.iconst 1), some (.iload 7), none, some (.ishl), some (.ior), some (.istore 6), none, some (.iinc 7 1), none, none, some (.goto (-49)), none, none, some (.iconst 0), some (.istore 7), none, some (.iload 7), none, some (.aload_n 0), some (.getfield 19), none, none, some (.if_icmp .ge 267), none, none, some (.iload 6), none, some (.iload 7), none, some (.invokestatic 57), none, none, some (.ifCond .ne 6), none, none, some (.goto 248), none, none, some (.iconst 0), some (.istore 8), none]
def xc167_3 : List (Option Instr) := [some (.iconst 0), some (.istore 9), none, some (.iconst 0), some (.istore 10), none, some (.iconst 0), some (.istore 11), none, some (.iconst 0), some (.istore 12), none, some (.iload 12), none, some (.aload_n 0), some (.getfield 19), none, none, some (.if_icmp .ge 155), none, none, some (.iload 6), none, some (.iload 12), none, some (.invokestatic 57), none, none, some (.ifCond .eq 139), none, none, some (.iload 12), none, some (.iload 7), none, some (.if_icmp .ne 6), none, none, some (.goto 129), none, none, some (.aload_n 0), some (.iload 12), none, some (.iload 7), none, some (.iload_n 1), some (.iload 5), none, some (.invokevirtual 73), none, none, some (.istore 13), none, some (.iload 8), none, some (.iload 13), none, some (.ifCond .le 7), none, none, some (.iconst 1), some (.goto 4), none, none, some (.iconst 0), some (.iadd), some (.istore 8), none, some (.iload 9), none, some (.iload 13), none, some (.ifCond .ne 7), none, none, some (.iconst 1), some (.goto 4), none, none, some (.iconst 0), some (.iadd), some (.istore 9), none, some (.aload_n 0), some (.iload 12), none, some (.iload_n 1), some (.iload 5), none, some (.iconst 0), some (.invokevirtual 65), none, none, some (.aload_n 0), some (.iload 7), none, some (.iload_n 1), some (.iload 5), none]
def xc167_4 : List (Option Instr) := [some (.iconst 0), some (.invokevirtual 65), none, none, some (.if_icmp .ne 7), none, none, some (.iconst 1), some (.goto 4), none, none, some (.iconst 0), some (.istore 14), none, some (.iload 10), none, some (.iload 14), none, some (.ifCond .eq 7), none, none, some (.iconst 1), some (.goto 4), none, none, some (.iconst 0), some (.iadd), some (.istore 10), none, some (.iload 11), none, some (.iload 14), none, some (.ifCond .eq 30), none, none, some (.aload_n 0), some (.iload 12), none, some (.iload_n 1), some (.iload 5), none, some (.iconst 1), some (.invokevirtual 65), none, none, some (.aload_n 0), some (.iload 7), none, some (.iload_n 1), some (.iload 5), none, some (.iconst 1), some (.invokevirtual 65), none, none, some (.if_icmp .ne 7), none, none, some (.iconst 1), some (.goto 4), none, none, some (.iconst 0), some (.iadd), some (.istore 11), none, some (.iinc 12 1), none, none, some (.goto (-158)), none, none, some (.aload_n 0), some (.getfield 25), none, none, some (.iload 7), none, some (.aaload), some (.iload_n 1), some (.iconst 2), some (.iload 4), none, some (.iload 8), none, some (.iadd), some (.imul), some (.iload 9), none, some (.iadd), some (.iastore), some (.aload_n 0), some (.getfield 28), none, none, some (.iload 7), none, some (.aaload), some (.iload_n 1)]
def xc167_5 : List (Option Instr) := [some (.iload 9), none, some (.ifCond .le 7), none, none, some (.iconst 4), some (.goto 35), none, none, some (.iload 6), none, some (.invokestatic 77), none, none, some (.iconst 1), some (.if_icmp .ne 7), none, none, some (.iconst 0), some (.goto 22), none, none, some (.iload 10), none, some (.ifCond .ne 7), none, none, some (.iconst 1), some (.goto 13), none, none, some (.iload 11), none, some (.ifCond .ne 7), none, none, some (.iconst 2), some (.goto 4), none, none, some (.iconst 3), some (.iastore), some (.iinc 7 1), none, none, some (.goto (-270)), none, none, some (.iload 4), none, some (.iload 6), none, some (.invokestatic 77), none, none, some (.iadd), some (.istore 4), none, some (.iinc 5 1), none, none, some (.goto (-360)), none, none, some (.return_)]
def xc167 : List (Option Instr) := xc167_0 ++ (xc167_1 ++ (xc167_2 ++ (xc167_3 ++ (xc167_4 ++ (xc167_5)))))
def xc168 : List (Option Instr) := [some (.iconst 0), some (.istore 5), none, some (.iconst 0), some (.istore 6), none, some (.iload 6), none, some (.aload_n 0), some (.getfield 3), none, none, some (.getfield 54), none, none, some (.if_icmp .ge 68), none, none, some (.aload_n 0), some (.getfield 40), none, none, some (.iload 6), none, some (.invokestatic 57), none, none, some (.ifCond .eq 7), none, none, some (.iconst 0), some (.goto 17), none, none, some (.aload_n 0), some (.getfield 3), none, none, some (.getfield 61), none, none, some (.iload 6), none, some (.aaload), some (.iload_n 2), some (.aaload), some (.iload_n 1), some (.iaload), some (.istore 7), none, some (.iload 7), none, some (.ifCond .le 25), none, none, some (.iload 7), none, some (.iload_n 3), some (.if_icmp .gt 19), none, none, some (.iload 5), none, some (.iload 4), none, some (.ifCond .eq 8), none, none, some (.iload 7), none, some (.goto 4), none, none, some (.iconst 1), some (.iadd), some (.istore 5), none, some (.iinc 6 1), none, none, some (.goto (-74)), none, none, some (.iload 5), none, some (.ireturn)]
def xc169 : List (Option Instr) := [some (.iload 4), none, some (.istore 5), none, some (.iload 5), none, some (.aload_n 0), some (.getfield 19), none, none, some (.if_icmp .gt 83), none, none, some (.aload_n 0), some (.iload_n 1), some (.iload_n 3), some (.iload 5), none, some (.iconst 0), some (.invokevirtual 65), none, none, some (.aload_n 0), some (.iload_n 2), some (.iload_n 3), some (.iload 5), none, some (.iconst 0), some (.invokevirtual 65), none, none, some (.isub), some (.istore 6), none, some (.iload 6), none, some (.ifCond .eq 14), none, none, some (.iload 6), none, some (.ifCond .le 7), none, none, some (.iconst 1), some (.goto 4), none, none, some (.iconst (-1)), some (.ireturn), some (.aload_n 0), some (.iload_n 2), some (.iload_n 3), some (.iload 5), none, some (.iconst 1), some (.invokevirtual 65), none, none, some (.aload_n 0), some (.iload_n 1), some (.iload_n 3), some (.iload 5), none, some (.iconst 1), some (.invokevirtual 65), none, none, some (.isub), some (.istore 7), none, some (.iload 7), none, some (.ifCond .eq 14), none, none, some (.iload 7), none, some (.ifCond .le 7), none, none, some (.iconst 1), some (.goto 4), none, none, some (.iconst (-1)), some (.ireturn), some (.iinc 5 1), none, none, some (.goto (-86)), none, none, some (.iconst 0), some (.ireturn)]
def xc170 : List (Option Instr) := [some (.iconst 0), some (.istore_n 2), some (.iconst 0), some (.istore_n 3), some (.iload_n 3), some (.aload_n 0), some (.getfield 19), none, none, some (.if_icmp .ge 39), none, none, some (.aload_n 0), some (.getfield 34), none, none, some (.iload_n 3), some (.iaload), some (.ifCond .ne 24), none, none, some (.iload_n 2), some (.ifCond .eq 13), none, none, some (.aload_n 0), some (.getfield 31), none, none, some (.iload_n 3), some (.iaload), some (.iload_n 2), some (.if_icmp .ge 10), none, none, some (.aload_n 0), some (.getfield 31), none, none, some (.iload_n 3), some (.iaload), some (.istore_n 2), some (.iinc 3 1), none, none, some (.goto (-41)), none, none, some (.iconst 0), some (.istore_n 3), some (.iconst 0), some (.istore 4), none, some (.iload 4), none, some (.aload_n 0), some (.getfield 19), none, none, some (.if_icmp .ge 37), none, none, some (.aload_n 0), some (.getfield 34), none, none, some (.iload 4), none, some (.iaload), some (.ifCond .ne 21), none, none, some (.aload_n 0), some (.getfield 31), none, none, some (.iload 4), none, some (.iaload), some (.iload_n 2), some (.if_icmp .ne 10), none, none, some (.iload_n 3), some (.iconst 1), some (.iload 4), none, some (.ishl), some (.ior), some (.istore_n 3), some (.iinc 4 1), none, none, some (.goto (-40)), none, none, some (.iload_n 1), some (.istore 4), none, some (.iload_n 3), some (.invokestatic 77), none, none, some (.iconst 1), some (.if_icmp .ne 17), none, none, some (.aload_n 0), some (.iload_n 3), some (.iload 4), none, some (.bipush 9), none, some (.invokevirtual 80), none, none, some (.iload 4), none, some (.iconst 1), some (.iadd), some (.ireturn), some (.iload_n 3), some (.ifCond .le 95), none, none, some (.iload_n 3), some (.invokestatic 77), none, none, some (.iconst 1), some (.if_icmp .ne 7), none, none, some (.iload_n 3), some (.goto 10), none, none, some (.aload_n 0), some (.iload_n 3), some (.iload 4), none, some (.invokevirtual 84), none, none, some (.istore 5), none, some (.bipush 10), none, some (.istore 6), none, some (.iload 5), none, some (.invokestatic 77), none, none, some (.iconst 1), some (.if_icmp .le 17), none, none, some (.aload_n 0), some (.iload 5), none, some (.iload 4), none, some (.invokevirtual 88), none, none, some (.istore 5), none, some (.bipush 11), none, some (.istore 6), none, some (.aload_n 0), some (.iload 5), none, some (.iload 4), none, some (.iload 5), none, some (.invokestatic 77), none, none, some (.iconst 1), some (.if_icmp .le 8), none, none, some (.bipush 12), none, some (.goto 5), none, none, some (.iload 6), none, some (.invokevirtual 80), none, none, some (.iload 4), none, some (.iload 5), none, some (.invokestatic 77), none, none, some (.iadd), some (.istore 4), none, some (.iload_n 3), some (.iload 5), none, some (.iconst (-1)), some (.ixor), some (.iand), some (.istore_n 3), some (.goto (-93)), none, none, some (.iload 4), none, some (.ireturn)]
def xc171 : List (Option Instr) := [some (.iconst 0), some (.istore 4), none, some (.iload 4), none, some (.aload_n 0), some (.getfield 19), none, none, some (.if_icmp .ge 46), none, none, some (.iload_n 1), some (.iload 4), none, some (.invokestatic 57), none, none, some (.ifCond .ne 6), none, none, some (.goto 28), none, none, some (.aload_n 0), some (.getfield 34), none, none, some (.iload 4), none, some (.iconst 2), some (.iload_n 2), some (.imul), some (.iload_n 1), some (.invokestatic 77), none, none, some (.iadd), some (.iconst 1), some (.isub), some (.iastore), some (.aload_n 0), some (.getfield 37), none, none, some (.iload 4), none, some (.iload_n 3), some (.iastore), some (.iinc 4 1), none, none, some (.goto (-49)), none, none, some (.return_)]
def xc172 : List (Option Instr) := [some (.iconst 0), some (.istore_n 3), some (.iconst 0), some (.istore 4), none, some (.iconst 0), some (.istore 5), none, some (.iconst 0), some (.istore 6), none, some (.iload 6), none, some (.aload_n 0), some (.getfield 19), none, none, some (.if_icmp .ge 147), none, none, some (.iload_n 1), some (.iload 6), none, some (.invokestatic 57), none, none, some (.ifCond .ne 6), none, none, some (.goto 129), none, none, some (.iconst 0), some (.istore 7), none, some (.iconst 0), some (.istore 8), none, some (.iconst 0), some (.istore 9), none, some (.iload 9), none, some (.aload_n 0), some (.getfield 3), none, none, some (.getfield 43), none, none, some (.if_icmp .ge 46), none, none, some (.aload_n 0), some (.getfield 25), none, none, some (.iload 6), none, some (.aaload), some (.iload 9), none, some (.iaload), some (.iconst 2), some (.iload_n 2), some (.imul), some (.if_icmp .le 6), none, none, some (.goto 21), none, none, some (.iinc 7 1), none, none, some (.iload 8), none, some (.aload_n 0), some (.getfield 25), none, none, some (.iload 6), none, some (.aaload), some (.iload 9), none, some (.iaload), some (.iadd), some (.istore 8), none, some (.iinc 9 1), none, none, some (.goto (-52)), none, none, some (.iload_n 3), some (.ifCond .eq 24), none, none, some (.iload 7), none, some (.iload 4), none, some (.if_icmp .gt 17), none, none, some (.iload 7), none, some (.iload 4), none, some (.if_icmp .ne 15), none, none, some (.iload 8), none, some (.iload 5), none, some (.if_icmp .ge 8), none, none, some (.iconst 0), some (.istore_n 3), some (.goto 20), none, none, some (.iload 7), none, some (.iload 4), none, some (.if_icmp .ne 28), none, none, some (.iload 8), none, some (.iload 5), none, some (.if_icmp .eq 6), none, none, some (.goto 18), none, none, some (.iload_n 3), some (.iconst 1), some (.iload 6), none, some (.ishl), some (.ior), some (.istore_n 3), some (.iload 7), none, some (.istore 4), none, some (.iload 8), none, some (.istore 5), none, some (.iinc 6 1), none, none, some (.goto (-150)), none, none, some (.iload_n 3), some (.ireturn)]
def xc173 : List (Option Instr) := [some (.iload_n 1), some (.istore_n 3), some (.iload_n 2), some (.istore 4), none, some (.iload 4), none, some (.aload_n 0), some (.getfield 19), none, none, some (.if_icmp .gt 184), none, none, some (.iload_n 3), some (.invokestatic 77), none, none, some (.iconst 1), some (.if_icmp .le 176), none, none, some (.iconst 0), some (.istore 5), none, some (.iconst 0), some (.istore 6), none, some (.iconst 0), some (.istore 7), none, some (.iconst 0), some (.istore 8), none, some (.iload 8), none, some (.aload_n 0), some (.getfield 19), none, none, some (.if_icmp .ge 146), none, none, some (.iload_n 3), some (.iload 8), none, some (.invokestatic 57), none, none, some (.ifCond .ne 6), none, none, some (.goto 128), none, none, some (.iconst 0), some (.istore 9), none, some (.iconst 0), some (.istore 10), none, some (.iconst 0), some (.istore 11), none, some (.iload 11), none, some (.aload_n 0), some (.getfield 3), none, none, some (.getfield 43), none, none, some (.if_icmp .ge 41), none, none, some (.iload 9), none, some (.aload_n 0), some (.iload 8), none, some (.iload 11), none, some (.iload 4), none, some (.iconst 0), some (.invokevirtual 65), none, none, some (.iadd), some (.istore 9), none, some (.iload 10), none, some (.aload_n 0), some (.iload 8), none, some (.iload 11), none, some (.iload 4), none, some (.iconst 1), some (.invokevirtual 65), none, none, some (.iadd), some (.istore 10), none, some (.iinc 11 1), none, none, some (.goto (-47)), none, none, some (.iload 5), none, some (.ifCond .eq 24), none, none, some (.iload 9), none, some (.iload 6), none, some (.if_icmp .gt 17), none, none, some (.iload 9), none, some (.iload 6), none, some (.if_icmp .ne 16), none, none, some (.iload 10), none, some (.iload 7), none, some (.if_icmp .ge 9), none, none, some (.iconst 0), some (.istore 5), none, some (.goto 20), none, none, some (.iload 9), none, some (.iload 6), none, some (.if_icmp .ne 30), none, none, some (.iload 10), none, some (.iload 7), none, some (.if_icmp .eq 6), none, none, some (.goto 20), none, none, some (.iload 5), none, some (.iconst 1), some (.iload 8), none, some (.ishl), some (.ior), some (.istore 5), none, some (.iload 9), none, some (.istore 6), none, some (.iload 10), none, some (.istore 7), none, some (.iinc 8 1), none, none, some (.goto (-149)), none, none, some (.iload 5), none, some (.istore_n 3), some (.iinc 4 1), none, none, some (.goto (-187)), none, none, some (.iload_n 3), some (.ireturn)]
def xc174 : List (Option Instr) := [some (.iconst 0), some (.istore_n 2), some (.iconst 0), some (.istore_n 3), some (.iconst 0), some (.istore 4), none, some (.iconst 0), some (.istore 5), none, some (.iload 5), none, some (.iconst 5), some (.if_icmp .ge 99), none, none, some (.iload 5), none, some (.aload_n 0), some (.getfield 30), none, none, some (.invokeinterface 167 1), none, none, none, none, some (.if_icmp .ge 85), none, none, some (.aload_n 0), some (.getfield 30), none, none, some (.aload_n 0), some (.getfield 30), none, none, some (.invokeinterface 167 1), none, none, none, none, some (.iconst 1), some (.isub), some (.iload 5), none, some (.isub), some (.invokeinterface 170 2), none, none, none, none, some (.checkcast 174), none, none, some (.iload_n 1), some (.iaload), some (.iconst 5), some (.iload 5), none, some (.isub), some (.imul), some (.istore 6), none, some (.iload 6), none, some (.iload_n 2), some (.if_icmp .le 14), none, none, some (.iload_n 3), some (.istore 4), none, some (.iload_n 2), some (.istore_n 3), some (.iload 6), none, some (.istore_n 2), some (.goto 27), none, none, some (.iload 6), none, some (.iload_n 3), some (.if_icmp .le 12), none, none, some (.iload_n 3), some (.istore 4), none, some (.iload 6), none, some (.istore_n 3), some (.goto 12), none, none, some (.iload 4), none, some (.iload 6), none, some (.invokestatic 175), none, none, some (.istore 4), none, some (.iinc 5 1), none, none, some (.goto (-99)), none, none, some (.iload_n 2), some (.iload_n 3), some (.iadd), some (.iload 4), none, some (.iadd), some (.ireturn)]
def xc175 : List (Option Instr) := [some (.aload_n 0), some (.getfield 48), none, none, some (.ireturn)]
def xc176 : List (Option Instr) := [some (.aload_n 0), some (.iconst 0), some (.putfield 56), none, none, some (.aload_n 0), some (.iload_n 1), some (.invokevirtual 178), none, none, some (.ifCond .ne 9), none, none, some (.aload_n 0), some (.iconst 1), some (.invokevirtual 70), none, none, some (.ireturn), some (.iload_n 2), some (.iconst 0), some (.bipush 7), none, some (.invokestatic 63), none, none, some (.ifCond .ne 9), none, none, some (.aload_n 0), some (.iconst 2), some (.invokevirtual 70), none, none, some (.ireturn), some (.aload_n 0), some (.iload_n 1), some (.iload_n 2), some (.invokevirtual 181), none, none, some (.ireturn)]
def xc177 : List (Option Instr) := [some (.iload_n 1), some (.iconst 0), some (.aload_n 0), some (.getfield 60), none, none, some (.iconst 1), some (.isub), some (.invokestatic 63), none, none, some (.ireturn)]
def xc178 : List (Option Instr) := [some (.bipush 8), none, some (.newarray .int), none, some (.dup), some (.iconst 0), some (.aload_n 0), some (.getfield 9), none, none, some (.iload_n 1), some (.iaload), some (.iastore), some (.dup), some (.iconst 1), some (.aload_n 0), some (.getfield 13), none, none, some (.iload_n 1), some (.iaload), some (.iastore), some (.dup), some (.iconst 2), some (.aload_n 0), some (.iload_n 1), some (.invokevirtual 160), none, none, some (.iastore), some (.dup), some (.iconst 3), some (.iconst 0), some (.iastore), some (.dup), some (.iconst 4), some (.iconst 0), some (.iastore), some (.dup), some (.iconst 5), some (.iconst 0), some (.iastore), some (.dup), some (.bipush 6), none, some (.iconst 0), some (.iastore), some (.dup), some (.bipush 7), none, some (.iconst (-1)), some (.iastore), some (.astore_n 3), some (.aload_n 0), some (.getfield 74), none, none, some (.ifCond .eq 69), none, none, some (.aload_n 3), some (.iconst 3), some (.aload_n 0), some (.getfield 88), none, none, some (.iload_n 1), some (.invokestatic 78), none, none, some (.ifCond .eq 7), none, none, some (.iconst 1), some (.goto 4), none, none, some (.iconst 0), some (.iastore), some (.aload_n 3), some (.iconst 4), some (.aload_n 0), some (.getfield 91), none, none, some (.iload_n 1), some (.invokestatic 78), none, none, some (.ifCond .eq 7), none, none, some (.iconst 1), some (.goto 4), none, none, some (.iconst 0), some (.iastore), some (.aload_n 3), some (.iconst 5), some (.aload_n 0), some (.getfield 34), none, none, some (.iload_n 1), some (.iaload), some (.iastore), some (.aload_n 3), some (.bipush 6), none, some (.aload_n 0), some (.iload_n 1), some (.invokevirtual 123), none, none, some (.iastore), some (.aload_n 3), some (.bipush 7), none, some (.aload_n 0), some (.getfield 37), none, none, some (.iload_n 1), some (.iaload), some (.iastore), some (.aload_n 3), some (.iload_n 2), some (.iaload), some (.ireturn)]
def xc179 : List (Option Instr) := [some (.aload_n 0), some (.iconst 0), some (.putfield 56), none, none, some (.aload_n 0), some (.iload_n 1), some (.invokevirtual 178), none, none, some (.ifCond .eq 11), none, none, some (.aload_n 0), some (.iload_n 2), some (.invokevirtual 178), none, none, some (.ifCond .ne 9), none, none, some (.aload_n 0), some (.iconst 1), some (.invokevirtual 70), none, none, some (.ireturn), some (.aload_n 0), some (.getfield 24), none, none, some (.iload_n 1), some (.aaload), some (.iload_n 2), some (.iaload), some (.ireturn)]
def xc180 : List (Option Instr) := [some (.aload_n 0), some (.iconst 0), some (.putfield 56), none, none, some (.aload_n 0), some (.iload_n 1), some (.invokevirtual 119), none, none, some (.ifCond .ne 9), none, none, some (.aload_n 0), some (.iconst 1), some (.invokevirtual 70), none, none, some (.ireturn), some (.iload_n 2), some (.iconst 0), some (.iconst 3), some (.invokestatic 63), none, none, some (.ifCond .ne 9), none, none, some (.aload_n 0), some (.iconst 2), some (.invokevirtual 70), none, none, some (.ireturn), some (.aload_n 0), some (.iload_n 1), some (.iload_n 2), some (.invokevirtual 184), none, none, some (.ireturn)]
def xc181 : List (Option Instr) := [some (.iconst 0), some (.istore_n 3), some (.iconst 0), some (.istore 4), none, some (.iload 4), none, some (.aload_n 0), some (.getfield 93), none, none, some (.if_icmp .ge 38), none, none, some (.aload_n 0), some (.getfield 105), none, none, some (.ifCond .eq 31), none, none, some (.iload_n 3), some (.aload_n 0), some (.getfield 48), none, none, some (.iload_n 1), some (.aaload), some (.iload 4), none, some (.aaload), some (.iconst 0), some (.iaload), some (.ifCond .le 7), none, none, some (.iconst 1), some (.goto 4), none, none, some (.iconst 0), some (.iadd), some (.istore_n 3), some (.iinc 4 1), none, none, some (.goto (-41)), none, none, some (.iload_n 2), some (.ifCond .ne 12), none, none, some (.aload_n 0), some (.getfield 16), none, none, some (.iload_n 1), some (.iaload), some (.goto 49), none, none, some (.iload_n 2), some (.iconst 1), some (.if_icmp .ne 29), none, none, some (.aload_n 0), some (.getfield 74), none, none, some (.ifCond .eq 18), none, none, some (.aload_n 0), some (.getfield 96), none, none, some (.iload_n 1), some (.invokestatic 78), none, none, some (.ifCond .eq 7), none, none, some (.iconst 1), some (.goto 22), none, none, some (.iconst 0), some (.goto 18), none, none, some (.iload_n 2), some (.iconst 2), some (.if_icmp .ne 12), none, none, some (.aload_n 0), some (.getfield 19), none, none, some (.iload_n 1), some (.iaload), some (.goto 4), none, none, some (.iload_n 3), some (.ireturn)]
def xc182 : List (Option Instr) := [some (.aload_n 0), some (.iconst 0), some (.putfield 56), none, none, some (.aload_n 0), some (.iload_n 1), some (.invokevirtual 135), none, none, some (.istore 4), none, some (.iload 4), none, some (.iconst (-1)), some (.if_icmp .eq 11), none, none, some (.aload_n 0), some (.iload_n 2), some (.invokevirtual 126), none, none, some (.ifCond .ne 9), none, none, some (.aload_n 0), some (.iconst 1), some (.invokevirtual 70), none, none, some (.ireturn), some (.iload_n 3), some (.iconst 1), some (.aload_n 0), some (.getfield 43), none, none, some (.arraylength), some (.invokestatic 63), none, none, some (.ifCond .ne 9), none, none, some (.aload_n 0), some (.iconst 2), some (.invokevirtual 70), none, none, some (.ireturn), some (.iconst 0), some (.istore 5), none, some (.iconst 0), some (.istore 6), none, some (.iload 6), none, some (.aload_n 0), some (.getfield 67), none, none, some (.if_icmp .ge 39), none, none, some (.iload 5), none, some (.aload_n 0), some (.getfield 48), none, none, some (.iload 6), none, some (.aaload), some (.iload_n 2), some (.aaload), some (.iload 4), none, some (.iaload), some (.iconst 1), some (.iload_n 3), some (.invokestatic 63), none, none, some (.ifCond .eq 7), none, none, some (.iconst 1), some (.goto 4), none, none, some (.iconst 0), some (.iadd), some (.istore 5), none, some (.iinc 6 1), none, none, some (.goto (-42)), none, none, some (.iload 5), none, some (.ireturn)]
def xc183 : List (Option Instr) := [some (.aload_n 0), some (.iconst 0), some (.putfield 56), none, none, some (.aload_n 0), some (.iload_n 1), some (.invokevirtual 135), none, none, some (.istore 4), none, some (.iload 4), none, some (.iconst (-1)), some (.if_icmp .eq 11), none, none, some (.aload_n 0), some (.iload_n 2), some (.invokevirtual 126), none, none, some (.ifCond .ne 9), none, none, some (.aload_n 0), some (.iconst 1), some (.invokevirtual 70), none, none, some (.ireturn), some (.iload_n 3), some (.iconst 0), some (.iconst 1), some (.invokestatic 63), none, none, some (.ifCond .ne 9), none, none, some (.aload_n 0), some (.iconst 2), some (.invokevirtual 70), none, none, some (.ireturn), some (.new 138), none, none, some (.dup), some (.aload_n 0), some (.iconst 0), some (.invokespecial 140), none, none, some (.astore 5), none, some (.iload_n 3), some (.ifCond .ne 16), none, none, some (.aload 5), none, some (.getfield 146), none, none, some (.iload 4), none, some (.aaload), some (.iload_n 2), some (.iaload), some (.goto 13), none, none, some (.aload 5), none, some (.getfield 187), none, none, some (.iload 4), none, some (.aaload), some (.iload_n 2), some (.iaload), some (.ireturn)]
def xc184 : List (Option Instr) := [some (.aload_n 0), some (.iconst 0), some (.putfield 56), none, none, some (.aload_n 0), some (.iload_n 1), some (.invokevirtual 135), none, none, some (.istore_n 3), some (.iload_n 3), some (.iconst (-1)), some (.if_icmp .ne 9), none, none, some (.aload_n 0), some (.iconst 1), some (.invokevirtual 70), none, none, some (.ireturn), some (.iload_n 2), some (.iconst 0), some (.iconst 2), some (.invokestatic 63), none, none, some (.ifCond .ne 9), none, none, some (.aload_n 0), some (.iconst 2), some (.invokevirtual 70), none, none, some (.ireturn), some (.new 138), none, none, some (.dup), some (.aload_n 0), some (.iconst 0), some (.invokespecial 140), none, none, some (.astore 4), none, some (.iload_n 2), some (.ifCond .ne 13), none, none, some (.aload 4), none, some (.getfield 143), none, none, some (.iload_n 3), some (.iaload), some (.goto 25), none, none, some (.iload_n 2), some (.iconst 1), some (.if_icmp .ne 13), none, none, some (.aload 4), none, some (.getfield 190), none, none, some (.iload_n 3), some (.iaload), some (.goto 10), none, none, some (.aload 4), none, some (.getfield 193), none, none, some (.iload_n 3), some (.iaload), some (.ireturn)]
def xc185 : List (Option Instr) := [some (.aload_n 0), some (.iconst 0), some (.putfield 56), none, none, some (.iload_n 1), some (.iconst 0), some (.bipush 10), none, some (.invokestatic 63), none, none, some (.ifCond .ne 9), none, none, some (.aload_n 0), some (.iconst 1), some (.invokevirtual 70), none, none, some (.ireturn), some (.aload_n 0), some (.iload_n 1), some (.invokevirtual 196), none, none, some (.ireturn)]
def xc186 : List (Option Instr) := [some (.iconst 0), some (.istore_n 2), some (.iconst 0), some (.istore_n 3), some (.iload_n 3), some (.aload_n 0), some (.getfield 93), none, none, some (.if_icmp .ge 24), none, none, some (.aload_n 0), some (.getfield 105), none, none, some (.ifCond .eq 17), none, none, some (.iload_n 2), some (.aload_n 0), some (.iload_n 3), some (.invokevirtual 129), none, none, some (.iadd), some (.istore_n 2), some (.iinc 3 1), none, none, some (.goto (-26)), none, none, some (.bipush 11), none, some (.newarray .int), none, some (.dup), some (.iconst 0), some (.aload_n 0), some (.getfield 60), none, none, some (.iastore), some (.dup), some (.iconst 1), some (.aload_n 0), some (.getfield 67), none, none, some (.iastore), some (.dup), some (.iconst 2), some (.aload_n 0), some (.getfield 30), none, none, some (.invokeinterface 167 1), none, none, none, none, some (.iastore), some (.dup), some (.iconst 3), some (.aload_n 0), some (.getfield 74), none, none, some (.ifCond .eq 7), none, none, some (.iconst 1), some (.goto 4), none, none, some (.iconst 0), some (.iastore), some (.dup), some (.iconst 4), some (.aload_n 0), some (.getfield 105), none, none, some (.ifCond .eq 7), none, none, some (.iconst 1), some (.goto 4), none, none, some (.iconst 0), some (.iastore), some (.dup), some (.iconst 5), some (.aload_n 0), some (.getfield 99), none, none, some (.iastore), some (.dup), some (.bipush 6), none, some (.aload_n 0), some (.getfield 93), none, none, some (.iastore), some (.dup), some (.bipush 7), none, some (.aload_n 0), some (.getfield 108), none, none, some (.ifCond .eq 10), none, none, some (.aload_n 0), some (.getfield 116), none, none, some (.goto 4), none, none, some (.iconst 0), some (.iastore), some (.dup), some (.bipush 8), none, some (.aload_n 0), some (.getfield 91), none, none, some (.iastore), some (.dup), some (.bipush 9), none, some (.aload_n 0), some (.getfield 96), none, none, some (.invokestatic 82), none, none, some (.iastore), some (.dup), some (.bipush 10), none, some (.iload_n 2), some (.iastore), some (.astore_n 3), some (.iload_n 1), some (.iconst 3), some (.if_icmp .le 14), none, none, some (.aload_n 0), some (.getfield 74), none, none, some (.ifCond .ne 7), none, none, some (.iconst 0), some (.goto 6), none, none, some (.aload_n 3), some (.iload_n 1), some (.iaload), some (.ireturn)]
def xc187 : List (Option Instr) := [some (.aload_n 0), some (.iconst 0), some (.putfield 56), none, none, some (.iconst 0), some (.istore_n 1), some (.iconst 0), some (.istore_n 2), some (.iload_n 2), some (.aload_n 0), some (.getfield 60), none, none, some (.if_icmp .ge 17), none, none, some (.iload_n 1), some (.aload_n 0), some (.iload_n 2), some (.invokevirtual 160), none, none, some (.iadd), some (.istore_n 1), some (.iinc 2 1), none, none, some (.goto (-19)), none, none, some (.aload_n 0), some (.getfield 60), none, none, some (.ifCond .ne 7), none, none, some (.dconst 0), some (.goto 11), none, none, some (.iload_n 1), some (.i2d), some (.aload_n 0), some (.getfield 60), none, none, some (.i2d), some (.ddiv), some (.dreturn)]
def xc188 : List (Option Instr) := [some (.aload_n 0), some (.iconst 0), some (.putfield 56), none, none, some (.aload_n 0), some (.iload_n 1), some (.iload_n 2), some (.invokevirtual 132), none, none, some (.ifCond .eq 32), none, none, some (.aload_n 0), some (.iload_n 3), some (.invokevirtual 135), none, none, some (.iconst (-1)), some (.if_icmp .eq 23), none, none, some (.aload_n 0), some (.iload 4), none, some (.invokevirtual 135), none, none, some (.iconst (-1)), some (.if_icmp .eq 13), none, none, some (.aload_n 0), some (.iload 5), none, some (.invokevirtual 135), none, none, some (.iconst (-1)), some (.if_icmp .ne 9), none, none, some (.aload_n 0), some (.iconst 1), some (.invokevirtual 70), none, none, some (.ireturn), some (.aload_n 0), some (.aload_n 0), some (.getfield 48), none, none, some (.iload_n 1), some (.aaload), some (.iload_n 2), some (.aaload), some (.aload_n 0), some (.iload_n 3), some (.invokevirtual 135), none, none, some (.aload_n 0), some (.iload 4), none, some (.invokevirtual 135), none, none, some (.aload_n 0), some (.iload 5), none, some (.invokevirtual 135), none, none, some (.invokevirtual 203), none, none, some (.ireturn)]
def xc189 : List (Option Instr) := [some (.aload_n 0), some (.aload_n 1), some (.iload_n 2), some (.iload_n 3), some (.invokevirtual 199), none, none, some (.new 138), none, none, some (.dup), some (.aload_n 0), some (.iconst 0), some (.invokespecial 140), none, none, some (.getfield 143), none, none, some (.iload 4), none, some (.iaload), some (.istore 5), none, some (.aload_n 0), some (.aload_n 1), some (.iload_n 2), some (.iload_n 3), some (.invokevirtual 199), none, none, some (.iload 5), none, some (.ireturn)]
def xc190 : List (Option Instr) := [some (.aload_n 1), some (.iload_n 2), some (.iaload), some (.istore 4), none, some (.aload_n 1), some (.iload_n 2), some (.aload_n 1), some (.iload_n 3), some (.iaload), some (.iastore), some (.aload_n 1), some (.iload_n 3), some (.iload 4), none, some (.iastore), some (.return_)]
def xc191 : List (Option Instr) := [some (.aload_n 0), some (.iconst 0), some (.putfield 56), none, none, some (.aload_n 0), some (.iload_n 1), some (.iload_n 2), some (.invokevirtual 132), none, none, some (.ifCond .eq 12), none, none, some (.aload_n 0), some (.iload_n 3), some (.invokevirtual 135), none, none, some (.iconst (-1)), some (.if_icmp .ne 9), none, none, some (.aload_n 0), some (.iconst 1), some (.invokevirtual 70), none, none, some (.ireturn), some (.iconst (-1)), some (.istore 4), none, some (.new 138), none, none, some (.dup), some (.aload_n 0), some (.iconst 0), some (.invokespecial 140), none, none, some (.getfield 143), none, none, some (.aload_n 0), some (.iload_n 3), some (.invokevirtual 135), none, none, some (.iaload), some (.istore 5), none, some (.iconst 0), some (.istore 6), none, some (.iload 6), none, some (.aload_n 0), some (.getfield 43), none, none, some (.arraylength), some (.if_icmp .ge 88), none, none, some (.iload 6), none, some (.iconst 1), some (.iadd), some (.istore 7), none, some (.iload 7), none, some (.aload_n 0), some (.getfield 43), none, none, some (.arraylength), some (.if_icmp .ge 66), none, none, some (.aload_n 0), some (.aload_n 0), some (.getfield 48), none, none, some (.iload_n 1), some (.aaload), some (.iload_n 2), some (.aaload), some (.iload 6), none, some (.iload 7), none, some (.aload_n 0), some (.iload_n 3), some (.invokevirtual 135), none, none, some (.invokevirtual 203), none, none, some (.istore 8), none, some (.iload 8), none, some (.iload 5), none, some (.if_icmp .lt 6), none, none, some (.goto 27), none, none, some (.iload 8), none, some (.istore 5), none, some (.bipush 10), none, some (.aload_n 0), some (.getfield 43), none, none, some (.iload 6), none, some (.iaload), some (.imul), some (.aload_n 0), some (.getfield 43), none, none, some (.iload 7), none, some (.iaload), some (.iadd), some (.istore 4), none, some (.iinc 7 1), none, none, some (.goto (-70)), none, none, some (.iinc 6 1), none, none, some (.goto (-92)), none, none, some (.iload 4), none, some (.ireturn)]
def xc192 : List (Option Instr) := [some (.aload_n 0), some (.iconst 0), some (.putfield 56), none, none, some (.aload_n 0), some (.iload_n 2), some (.invokevirtual 135), none, none, some (.iconst (-1)), some (.if_icmp .ne 9), none, none, some (.aload_n 0), some (.iconst 1), some (.invokevirtual 70), none, none, some (.ireturn), some (.iload_n 1), some (.iconst 0), some (.bipush 127), none, some (.invokestatic 63), none, none, some (.ifCond .ne 9), none, none, some (.aload_n 0), some (.iconst 2), some (.invokevirtual 70), none, none, some (.ireturn), some (.new 138), none, none, some (.dup), some (.aload_n 0), some (.iload_n 1), some (.invokespecial 140), none, none, some (.getfield 143), none, none, some (.aload_n 0), some (.iload_n 2), some (.invokevirtual 135), none, none, some (.iaload), some (.ireturn)]
def xc193 : List (Option Instr) := [some (.aload_n 0), some (.iconst 0), some (.putfield 56), none, none, some (.aload_n 0), some (.invokevirtual 210), none, none, some (.ireturn)]
def xc194 : List (Option Instr) := [some (.aload_n 0), some (.getfield 105), none, none, some (.ifCond .ne 5), none, none, some (.iconst (-1)), some (.ireturn), some (.new 138), none, none, some (.dup), some (.aload_n 0), some (.iconst 0), some (.invokespecial 140), none, none, some (.invokevirtual 207), none, none, some (.istore_n 1), some (.iconst (-1)), some (.istore_n 2), some (.iconst 1), some (.istore_n 3), some (.iload_n 3), some (.sipush 128), none, none, some (.if_icmp .ge 65), none, none, some (.iload_n 3), some (.aload_n 0), some (.getfield 96), none, none, some (.iconst (-1)), some (.ixor), some (.iand), some (.ifCond .ne 48), none, none, some (.iload_n 3), some (.aload_n 0), some (.getfield 96), none, none, some (.if_icmp .eq 40), none, none, some (.iload_n 2), some (.iconst (-1)), some (.if_icmp .eq 14), none, none, some (.iload_n 3), some (.invokestatic 82), none, none, some (.iload_n 2), some (.if_icmp .lt 6), none, none, some (.goto 24), none, none, some (.new 138), none, none, some (.dup), some (.aload_n 0), some (.iload_n 3), some (.invokespecial 140), none, none, some (.invokevirtual 207), none, none, some (.iload_n 1), some (.if_icmp .eq 8), none, none, some (.iload_n 3), some (.invokestatic 82), none, none, some (.istore_n 2), some (.iinc 3 1), none, none, some (.goto (-66)), none, none, some (.iload_n 2), some (.ireturn)]
def xc195 : List (Option Instr) := [some (.bipush 99), none, some (.istore_n 1), some (.iconst 0), some (.istore_n 2), some (.iconst 0), some (.istore_n 3), some (.iload_n 3), some (.aload_n 0), some (.getfield 19), none, none, some (.if_icmp .ge 20), none, none, some (.iload_n 1), some (.aload_n 0), some (.getfield 34), none, none, some (.iload_n 3), some (.iaload), some (.invokestatic 91), none, none, some (.istore_n 1), some (.iinc 3 1), none, none, some (.goto (-22)), none, none, some (.iconst 0), some (.istore_n 3), some (.iload_n 3), some (.aload_n 0), some (.getfield 19), none, none, some (.if_icmp .ge 25), none, none, some (.aload_n 0), some (.getfield 34), none, none, some (.iload_n 3), some (.iaload), some (.iload_n 1), some (.if_icmp .ne 9), none, none, some (.iload_n 2), some (.iconst 1), some (.iload_n 3), some (.ishl), some (.ior), some (.istore_n 2), some (.iinc 3 1), none, none, some (.goto (-27)), none, none, some (.iload_n 2), some (.ireturn)]
def xc196 : List (Option Instr) := [some (.aload_n 0), some (.iconst 0), some (.putfield 56), none, none, some (.ldc2_w 213), none, none, some (.lstore_n 1), some (.iconst 0), some (.istore_n 3), some (.iload_n 3), some (.bipush 10), none, some (.if_icmp .gt 22), none, none, some (.lload_n 1), some (.ldc2_w 215), none, none, some (.lmul), some (.aload_n 0), some (.iload_n 3), some (.invokevirtual 196), none, none, some (.i2l), some (.ladd), some (.lstore_n 1), some (.iinc 3 1), none, none, some (.goto (-22)), none, none, some (.new 138), none, none, some (.dup), some (.aload_n 0), some (.iconst 0), some (.invokespecial 140), none, none, some (.astore_n 3), some (.iconst 0), some (.istore 4), none, some (.iload 4), none, some (.aload_n 0), some (.getfield 60), none, none, some (.if_icmp .ge 182), none, none, some (.iconst 0), some (.istore 5), none, some (.iload 5), none, some (.bipush 7), none, some (.if_icmp .gt 25), none, none, some (.lload_n 1), some (.ldc2_w 215), none, none, some (.lmul), some (.aload_n 0), some (.iload 4), none, some (.iload 5), none, some (.invokevirtual 181), none, none, some (.i2l), some (.ladd), some (.lstore_n 1), some (.iinc 5 1), none, none, some (.goto (-26)), none, none, some (.lload_n 1), some (.ldc2_w 215), none, none, some (.lmul), some (.aload_n 0), some (.getfield 24), none, none, some (.iload 4), none, some (.aaload), some (.iconst 0), some (.iaload), some (.i2l), some (.ladd), some (.lstore_n 1), some (.aload_n 0), some (.iload 4), none, some (.invokevirtual 135), none, none, some (.istore 5), none, some (.iload 5), none, some (.iconst (-1)), some (.if_icmp .ne 6), none, none, some (.goto 110), none, none, some (.lload_n 1), some (.ldc2_w 215), none, none, some (.lmul), some (.aload_n 3), some (.getfield 143), none, none, some (.iload 5), none, some (.iaload), some (.i2l), some (.ladd), some (.ldc2_w 215), none, none, some (.lmul), some (.aload_n 3), some (.getfield 190), none, none, some (.iload 5), none, some (.iaload), some (.i2l), some (.ladd), some (.ldc2_w 215), none, none, some (.lmul), some (.aload_n 3), some (.getfield 193), none, none, some (.iload 5), none, some (.iaload), some (.i2l), some (.ladd), some (.lstore_n 1), some (.iconst 0), some (.istore 6), none, some (.iload 6), none, some (.aload_n 0), some (.getfield 93), none, none, some (.if_icmp .ge 57), none, none, some (.lload_n 1), some (.ldc2_w 215), none, none, some (.lmul), some (.aload_n 3), some (.getfield 146), none, none, some (.iload 5), none, some (.aaload), some (.iload 6), none, some (.iaload), some (.i2l), some (.ladd), some (.ldc2_w 215), none, none, some (.lmul), some (.aload_n 3), some (.getfield 187), none, none, some (.iload 5), none, some (.aaload), some (.iload 6), none, some (.iaload), some (.i2l), some (.ladd), some (.ldc2_w 215), none, none, some (.lmul), some (.aload_n 0), some (.iload 5), none, some (.iload 6), none, some (.invokevirtual 217), none, none, some (.i2l), some (.ladd), some (.lstore_n 1), some (.iinc 6 1), none, none, some (.goto (-60)), none, none, some (.iinc 4 1), none, none, some (.goto (-185)), none, none, some (.iconst 0), some (.istore 4), none, some (.iload 4), none, some (.aload_n 0), some (.getfield 67), none, none, some (.if_icmp .ge 40), none, none, some (.iconst 0), some (.istore 5), none, some (.iload 5), none, some (.iconst 3), some (.if_icmp .gt 25), none, none, some (.lload_n 1), some (.ldc2_w 215), none, none, some (.lmul), some (.aload_n 0), some (.iload 4), none, some (.iload 5), none, some (.invokevirtual 184), none, none, some (.i2l), some (.ladd), some (.lstore_n 1), some (.iinc 5 1), none, none, some (.goto (-25)), none, none, some (.iinc 4 1), none, none, some (.goto (-43)), none, none, some (.lload_n 1), some (.ldc2_w 215), none, none, some (.lmul), some (.aload_n 0), some (.invokevirtual 210), none, none, some (.i2l), some (.ladd), some (.lreturn)]
def xc197 : List (Option Instr) := [some (.iconst 0), some (.istore_n 3), some (.iconst 0), some (.istore 4), none, some (.iload 4), none, some (.aload_n 0), some (.getfield 67), none, none, some (.if_icmp .ge 32), none, none, some (.iload_n 3), some (.aload_n 0), some (.getfield 48), none, none, some (.iload 4), none, some (.aaload), some (.iload_n 2), some (.aaload), some (.iload_n 1), some (.iaload), some (.iconst 1), some (.if_icmp .ne 7), none, none, some (.iconst 1), some (.goto 4), none, none, some (.iconst 0), some (.iadd), some (.istore_n 3), some (.iinc 4 1), none, none, some (.goto (-35)), none, none, some (.iload_n 3), some (.ireturn)]
def xc198_0 : List (Option Instr) := [some (.new 8), none, none, some (.dup), some (.invokespecial 87), none, none, some (.astore_n 1), some (.new 88), none, none, some (.dup), some (.invokespecial 90), none, none, some (.astore_n 2), some (.iconst 1), some (.newarray .long), none, some (.astore_n 3), some (.iconst 0), some (.istore 4), none, some (.iload 4), none, some (.aload_n 0), some (.arraylength), some (.bipush 6), none, some (.isub), some (.if_icmp .gt 1695), none, none, some (.aload_n 0), some (.iload 4), none, some (.iaload), some (.bipush 31), none, some (.iand), some (.tableswitch 1679 0 24 #[116, 172, 228, 296, 364, 408, 488, 532, 576, 656, 724, 827, 871, 939, 1007, 1075, 1155, 1235, 1303, 1359, 1400, 1504, 1584, 1652, 1665]), none, none, none, none, none, none, none, none, none, none, none, none, none, none, none, none, none, none, none, none, none, none, none, none, none, none, none, none, none, none, none, none, none, none, none, none, none, none, none, none, none, none, none, none, none, none, none, none, none, none, none, none, none, none, none, none, none, none, none]
def xc198_1 : List (Option Instr) := [none, none, none, none, none, none, none, none, none, none, none, none, none, none, none, none, none, none, none, none, none, none, none, none, none, none, none, none, none, none, none, none, none, none, none, none, none, none, none, none, none, none, none, none, none, none, none, none, none, none, none, none, none, none, none, none, some (.aload_n 1), some (.aload_n 0), some (.iload 4), none, some (.iconst 1), some (.iadd), some (.iaload), some (.aload_n 3), some (.invokestatic 91), none, none, some (.istore 5), none, some (.aload_n 2), some (.aload_n 0), some (.iload 4), none, some (.iconst 1), some (.iadd), some (.iaload), some (.invokevirtual 96), none, none, some (.istore 6), none, some (.aload_n 2), some (.invokevirtual 97), none, none, some (.iload 5), none, some (.if_icmp .eq 5), none, none, some (.iconst 0), some (.ireturn), some (.iload 5), none, some (.ifCond .ne 15), none, none, some (.aload_n 3), some (.iconst 0), some (.laload)]
def xc198_2 : List (Option Instr) := [some (.iload 6), none, some (.i2l), some (.lcmp), some (.ifCond .eq 5), none, none, some (.iconst 0), some (.ireturn), some (.goto 1510), none, none, some (.aload_n 1), some (.aload_n 0), some (.iload 4), none, some (.iconst 1), some (.iadd), some (.iaload), some (.aload_n 3), some (.invokestatic 100), none, none, some (.istore 5), none, some (.aload_n 2), some (.aload_n 0), some (.iload 4), none, some (.iconst 1), some (.iadd), some (.iaload), some (.invokevirtual 102), none, none, some (.istore 6), none, some (.aload_n 2), some (.invokevirtual 97), none, none, some (.iload 5), none, some (.if_icmp .eq 5), none, none, some (.iconst 0), some (.ireturn), some (.iload 5), none, some (.ifCond .ne 15), none, none, some (.aload_n 3), some (.iconst 0), some (.laload), some (.iload 6), none, some (.i2l), some (.lcmp), some (.ifCond .eq 5), none, none, some (.iconst 0), some (.ireturn), some (.goto 1454), none, none, some (.aload_n 1), some (.aload_n 0), some (.iload 4), none, some (.iconst 1), some (.iadd), some (.iaload), some (.aload_n 0), some (.iload 4), none, some (.iconst 2), some (.iadd), some (.iaload), some (.aload_n 3), some (.invokestatic 103), none, none, some (.istore 5), none, some (.aload_n 2), some (.aload_n 0), some (.iload 4), none, some (.iconst 1), some (.iadd), some (.iaload), some (.aload_n 0), some (.iload 4), none, some (.iconst 2), some (.iadd), some (.iaload)]
def xc198_3 : List (Option Instr) := [some (.invokevirtual 106), none, none, some (.istore 6), none, some (.aload_n 2), some (.invokevirtual 97), none, none, some (.iload 5), none, some (.if_icmp .eq 5), none, none, some (.iconst 0), some (.ireturn), some (.iload 5), none, some (.ifCond .ne 15), none, none, some (.aload_n 3), some (.iconst 0), some (.laload), some (.iload 6), none, some (.i2l), some (.lcmp), some (.ifCond .eq 5), none, none, some (.iconst 0), some (.ireturn), some (.goto 1386), none, none, some (.aload_n 1), some (.aload_n 0), some (.iload 4), none, some (.iconst 1), some (.iadd), some (.iaload), some (.aload_n 0), some (.iload 4), none, some (.iconst 2), some (.iadd), some (.iaload), some (.aload_n 3), some (.invokestatic 107), none, none, some (.istore 5), none, some (.aload_n 2), some (.aload_n 0), some (.iload 4), none, some (.iconst 1), some (.iadd), some (.iaload), some (.aload_n 0), some (.iload 4), none, some (.iconst 2), some (.iadd), some (.iaload), some (.invokevirtual 109), none, none, some (.istore 6), none, some (.aload_n 2), some (.invokevirtual 97), none, none, some (.iload 5), none, some (.if_icmp .eq 5), none, none, some (.iconst 0), some (.ireturn), some (.iload 5), none, some (.ifCond .ne 15), none, none, some (.aload_n 3), some (.iconst 0), some (.laload), some (.iload 6), none, some (.i2l), some (.lcmp), some (.ifCond .eq 5), none, none, some (.iconst 0)]
def xc198_4 : List (Option Instr) := [some (.ireturn), some (.goto 1318), none, none, some (.aload_n 1), some (.aload_n 3), some (.invokestatic 110), none, none, some (.istore 5), none, some (.aload_n 2), some (.invokevirtual 113), none, none, some (.istore 6), none, some (.aload_n 2), some (.invokevirtual 97), none, none, some (.iload 5), none, some (.if_icmp .eq 5), none, none, some (.iconst 0), some (.ireturn), some (.iload 5), none, some (.ifCond .ne 15), none, none, some (.aload_n 3), some (.iconst 0), some (.laload), some (.iload 6), none, some (.i2l), some (.lcmp), some (.ifCond .eq 5), none, none, some (.iconst 0), some (.ireturn), some (.goto 1274), none, none, some (.aload_n 1), some (.aload_n 0), some (.iload 4), none, some (.iconst 1), some (.iadd), some (.iaload), some (.aload_n 0), some (.iload 4), none, some (.iconst 2), some (.iadd), some (.iaload), some (.aload_n 0), some (.iload 4), none, some (.iconst 3), some (.iadd), some (.iaload), some (.aload_n 3), some (.invokestatic 114), none, none, some (.istore 5), none, some (.aload_n 2), some (.aload_n 0), some (.iload 4), none, some (.iconst 1), some (.iadd), some (.iaload), some (.aload_n 0), some (.iload 4), none, some (.iconst 2), some (.iadd), some (.iaload), some (.aload_n 0), some (.iload 4), none, some (.iconst 3), some (.iadd), some (.iaload), some (.invokevirtual 117), none, none, some (.istore 6), none, some (.aload_n 2), some (.invokevirtual 97), none]
def xc198_5 : List (Option Instr) := [none, some (.iload 5), none, some (.if_icmp .eq 5), none, none, some (.iconst 0), some (.ireturn), some (.iload 5), none, some (.ifCond .ne 15), none, none, some (.aload_n 3), some (.iconst 0), some (.laload), some (.iload 6), none, some (.i2l), some (.lcmp), some (.ifCond .eq 5), none, none, some (.iconst 0), some (.ireturn), some (.goto 1194), none, none, some (.aload_n 1), some (.aload_n 3), some (.invokestatic 118), none, none, some (.istore 5), none, some (.aload_n 2), some (.invokevirtual 120), none, none, some (.istore 6), none, some (.aload_n 2), some (.invokevirtual 97), none, none, some (.iload 5), none, some (.if_icmp .eq 5), none, none, some (.iconst 0), some (.ireturn), some (.iload 5), none, some (.ifCond .ne 15), none, none, some (.aload_n 3), some (.iconst 0), some (.laload), some (.iload 6), none, some (.i2l), some (.lcmp), some (.ifCond .eq 5), none, none, some (.iconst 0), some (.ireturn), some (.goto 1150), none, none, some (.aload_n 1), some (.aload_n 3), some (.invokestatic 121), none, none, some (.istore 5), none, some (.aload_n 2), some (.invokevirtual 123), none, none, some (.istore 6), none, some (.aload_n 2), some (.invokevirtual 97), none, none, some (.iload 5), none, some (.if_icmp .eq 5), none, none, some (.iconst 0), some (.ireturn), some (.iload 5), none, some (.ifCond .ne 15), none]
def xc198_6 : List (Option Instr) := [none, some (.aload_n 3), some (.iconst 0), some (.laload), some (.iload 6), none, some (.i2l), some (.lcmp), some (.ifCond .eq 5), none, none, some (.iconst 0), some (.ireturn), some (.goto 1106), none, none, some (.aload_n 1), some (.aload_n 0), some (.iload 4), none, some (.iconst 1), some (.iadd), some (.iaload), some (.aload_n 0), some (.iload 4), none, some (.iconst 2), some (.iadd), some (.iaload), some (.aload_n 0), some (.iload 4), none, some (.iconst 3), some (.iadd), some (.iaload), some (.aload_n 3), some (.invokestatic 124), none, none, some (.istore 5), none, some (.aload_n 2), some (.aload_n 0), some (.iload 4), none, some (.iconst 1), some (.iadd), some (.iaload), some (.aload_n 0), some (.iload 4), none, some (.iconst 2), some (.iadd), some (.iaload), some (.aload_n 0), some (.iload 4), none, some (.iconst 3), some (.iadd), some (.iaload), some (.invokevirtual 126), none, none, some (.istore 6), none, some (.aload_n 2), some (.invokevirtual 97), none, none, some (.iload 5), none, some (.if_icmp .eq 5), none, none, some (.iconst 0), some (.ireturn), some (.iload 5), none, some (.ifCond .ne 15), none, none, some (.aload_n 3), some (.iconst 0), some (.laload), some (.iload 6), none, some (.i2l), some (.lcmp), some (.ifCond .eq 5), none, none, some (.iconst 0), some (.ireturn), some (.goto 1026), none, none, some (.aload_n 1), some (.aload_n 0), some (.iload 4), none]
def xc198_7 : List (Option Instr) := [some (.iconst 1), some (.iadd), some (.iaload), some (.aload_n 0), some (.iload 4), none, some (.iconst 2), some (.iadd), some (.iaload), some (.aload_n 3), some (.invokestatic 127), none, none, some (.istore 5), none, some (.aload_n 2), some (.aload_n 0), some (.iload 4), none, some (.iconst 1), some (.iadd), some (.iaload), some (.aload_n 0), some (.iload 4), none, some (.iconst 2), some (.iadd), some (.iaload), some (.invokevirtual 129), none, none, some (.istore 6), none, some (.aload_n 2), some (.invokevirtual 97), none, none, some (.iload 5), none, some (.if_icmp .eq 5), none, none, some (.iconst 0), some (.ireturn), some (.iload 5), none, some (.ifCond .ne 15), none, none, some (.aload_n 3), some (.iconst 0), some (.laload), some (.iload 6), none, some (.i2l), some (.lcmp), some (.ifCond .eq 5), none, none, some (.iconst 0), some (.ireturn), some (.goto 958), none, none, some (.aload_n 1), some (.aload_n 0), some (.iload 4), none, some (.iconst 1), some (.iadd), some (.iaload), some (.aload_n 0), some (.iload 4), none, some (.iconst 2), some (.iadd), some (.iaload), some (.aload_n 0), some (.iload 4), none, some (.iconst 3), some (.iadd), some (.iaload), some (.ifCond .eq 7), none, none, some (.iconst 1), some (.goto 4), none, none, some (.iconst 0), some (.aload_n 3), some (.invokestatic 130), none, none, some (.istore 5), none, some (.aload_n 2), some (.aload_n 0), some (.iload 4)]
def xc198_8 : List (Option Instr) := [none, some (.iconst 1), some (.iadd), some (.iaload), some (.aload_n 0), some (.iload 4), none, some (.iconst 2), some (.iadd), some (.iaload), some (.aload_n 0), some (.iload 4), none, some (.iconst 3), some (.iadd), some (.iaload), some (.ifCond .eq 7), none, none, some (.iconst 1), some (.goto 4), none, none, some (.iconst 0), some (.invokevirtual 133), none, none, some (.istore 6), none, some (.aload_n 2), some (.invokevirtual 97), none, none, some (.iload 5), none, some (.if_icmp .eq 5), none, none, some (.iconst 0), some (.ireturn), some (.iload 5), none, some (.ifCond .ne 22), none, none, some (.aload_n 3), some (.iconst 0), some (.laload), some (.iload 6), none, some (.ifCond .eq 7), none, none, some (.lconst 1), some (.goto 4), none, none, some (.lconst 0), some (.lcmp), some (.ifCond .eq 5), none, none, some (.iconst 0), some (.ireturn), some (.goto 855), none, none, some (.aload_n 1), some (.aload_n 3), some (.invokestatic 134), none, none, some (.istore 5), none, some (.aload_n 2), some (.invokevirtual 136), none, none, some (.istore 6), none, some (.aload_n 2), some (.invokevirtual 97), none, none, some (.iload 5), none, some (.if_icmp .eq 5), none, none, some (.iconst 0), some (.ireturn), some (.iload 5), none, some (.ifCond .ne 15), none, none, some (.aload_n 3), some (.iconst 0), some (.laload), some (.iload 6)]
def xc198_9 : List (Option Instr) := [none, some (.i2l), some (.lcmp), some (.ifCond .eq 5), none, none, some (.iconst 0), some (.ireturn), some (.goto 811), none, none, some (.aload_n 1), some (.aload_n 0), some (.iload 4), none, some (.iconst 1), some (.iadd), some (.iaload), some (.aload_n 0), some (.iload 4), none, some (.iconst 2), some (.iadd), some (.iaload), some (.aload_n 3), some (.invokestatic 137), none, none, some (.istore 5), none, some (.aload_n 2), some (.aload_n 0), some (.iload 4), none, some (.iconst 1), some (.iadd), some (.iaload), some (.aload_n 0), some (.iload 4), none, some (.iconst 2), some (.iadd), some (.iaload), some (.invokevirtual 139), none, none, some (.istore 6), none, some (.aload_n 2), some (.invokevirtual 97), none, none, some (.iload 5), none, some (.if_icmp .eq 5), none, none, some (.iconst 0), some (.ireturn), some (.iload 5), none, some (.ifCond .ne 15), none, none, some (.aload_n 3), some (.iconst 0), some (.laload), some (.iload 6), none, some (.i2l), some (.lcmp), some (.ifCond .eq 5), none, none, some (.iconst 0), some (.ireturn), some (.goto 743), none, none, some (.aload_n 1), some (.aload_n 0), some (.iload 4), none, some (.iconst 1), some (.iadd), some (.iaload), some (.aload_n 0), some (.iload 4), none, some (.iconst 2), some (.iadd), some (.iaload), some (.aload_n 3), some (.invokestatic 140), none, none, some (.istore 5), none, some (.aload_n 2), some (.aload_n 0)]
def xc198_10 : List (Option Instr) := [some (.iload 4), none, some (.iconst 1), some (.iadd), some (.iaload), some (.aload_n 0), some (.iload 4), none, some (.iconst 2), some (.iadd), some (.iaload), some (.invokevirtual 142), none, none, some (.istore 6), none, some (.aload_n 2), some (.invokevirtual 97), none, none, some (.iload 5), none, some (.if_icmp .eq 5), none, none, some (.iconst 0), some (.ireturn), some (.iload 5), none, some (.ifCond .ne 15), none, none, some (.aload_n 3), some (.iconst 0), some (.laload), some (.iload 6), none, some (.i2l), some (.lcmp), some (.ifCond .eq 5), none, none, some (.iconst 0), some (.ireturn), some (.goto 675), none, none, some (.aload_n 1), some (.aload_n 0), some (.iload 4), none, some (.iconst 1), some (.iadd), some (.iaload), some (.aload_n 0), some (.iload 4), none, some (.iconst 2), some (.iadd), some (.iaload), some (.aload_n 3), some (.invokestatic 143), none, none, some (.istore 5), none, some (.aload_n 2), some (.aload_n 0), some (.iload 4), none, some (.iconst 1), some (.iadd), some (.iaload), some (.aload_n 0), some (.iload 4), none, some (.iconst 2), some (.iadd), some (.iaload), some (.invokevirtual 145), none, none, some (.istore 6), none, some (.aload_n 2), some (.invokevirtual 97), none, none, some (.iload 5), none, some (.if_icmp .eq 5), none, none, some (.iconst 0), some (.ireturn), some (.iload 5), none, some (.ifCond .ne 15), none, none]
def xc198_11 : List (Option Instr) := [some (.aload_n 3), some (.iconst 0), some (.laload), some (.iload 6), none, some (.i2l), some (.lcmp), some (.ifCond .eq 5), none, none, some (.iconst 0), some (.ireturn), some (.goto 607), none, none, some (.aload_n 1), some (.aload_n 0), some (.iload 4), none, some (.iconst 1), some (.iadd), some (.iaload), some (.aload_n 0), some (.iload 4), none, some (.iconst 2), some (.iadd), some (.iaload), some (.aload_n 0), some (.iload 4), none, some (.iconst 3), some (.iadd), some (.iaload), some (.aload_n 3), some (.invokestatic 146), none, none, some (.istore 5), none, some (.aload_n 2), some (.aload_n 0), some (.iload 4), none, some (.iconst 1), some (.iadd), some (.iaload), some (.aload_n 0), some (.iload 4), none, some (.iconst 2), some (.iadd), some (.iaload), some (.aload_n 0), some (.iload 4), none, some (.iconst 3), some (.iadd), some (.iaload), some (.invokevirtual 148), none, none, some (.istore 6), none, some (.aload_n 2), some (.invokevirtual 97), none, none, some (.iload 5), none, some (.if_icmp .eq 5), none, none, some (.iconst 0), some (.ireturn), some (.iload 5), none, some (.ifCond .ne 15), none, none, some (.aload_n 3), some (.iconst 0), some (.laload), some (.iload 6), none, some (.i2l), some (.lcmp), some (.ifCond .eq 5), none, none, some (.iconst 0), some (.ireturn), some (.goto 527), none, none, some (.aload_n 1), some (.aload_n 0), some (.iload 4), none, some (.iconst 1)]
def xc198_12 : List (Option Instr) := [some (.iadd), some (.iaload), some (.aload_n 0), some (.iload 4), none, some (.iconst 2), some (.iadd), some (.iaload), some (.aload_n 0), some (.iload 4), none, some (.iconst 3), some (.iadd), some (.iaload), some (.aload_n 3), some (.invokestatic 149), none, none, some (.istore 5), none, some (.aload_n 2), some (.aload_n 0), some (.iload 4), none, some (.iconst 1), some (.iadd), some (.iaload), some (.aload_n 0), some (.iload 4), none, some (.iconst 2), some (.iadd), some (.iaload), some (.aload_n 0), some (.iload 4), none, some (.iconst 3), some (.iadd), some (.iaload), some (.invokevirtual 151), none, none, some (.istore 6), none, some (.aload_n 2), some (.invokevirtual 97), none, none, some (.iload 5), none, some (.if_icmp .eq 5), none, none, some (.iconst 0), some (.ireturn), some (.iload 5), none, some (.ifCond .ne 15), none, none, some (.aload_n 3), some (.iconst 0), some (.laload), some (.iload 6), none, some (.i2l), some (.lcmp), some (.ifCond .eq 5), none, none, some (.iconst 0), some (.ireturn), some (.goto 447), none, none, some (.aload_n 1), some (.aload_n 0), some (.iload 4), none, some (.iconst 1), some (.iadd), some (.iaload), some (.aload_n 0), some (.iload 4), none, some (.iconst 2), some (.iadd), some (.iaload), some (.aload_n 3), some (.invokestatic 152), none, none, some (.istore 5), none, some (.aload_n 2), some (.aload_n 0), some (.iload 4), none, some (.iconst 1), some (.iadd)]
def xc198_13 : List (Option Instr) := [some (.iaload), some (.aload_n 0), some (.iload 4), none, some (.iconst 2), some (.iadd), some (.iaload), some (.invokevirtual 154), none, none, some (.istore 6), none, some (.aload_n 2), some (.invokevirtual 97), none, none, some (.iload 5), none, some (.if_icmp .eq 5), none, none, some (.iconst 0), some (.ireturn), some (.iload 5), none, some (.ifCond .ne 15), none, none, some (.aload_n 3), some (.iconst 0), some (.laload), some (.iload 6), none, some (.i2l), some (.lcmp), some (.ifCond .eq 5), none, none, some (.iconst 0), some (.ireturn), some (.goto 379), none, none, some (.aload_n 1), some (.aload_n 0), some (.iload 4), none, some (.iconst 1), some (.iadd), some (.iaload), some (.aload_n 3), some (.invokestatic 155), none, none, some (.istore 5), none, some (.aload_n 2), some (.aload_n 0), some (.iload 4), none, some (.iconst 1), some (.iadd), some (.iaload), some (.invokevirtual 157), none, none, some (.istore 6), none, some (.aload_n 2), some (.invokevirtual 97), none, none, some (.iload 5), none, some (.if_icmp .eq 5), none, none, some (.iconst 0), some (.ireturn), some (.iload 5), none, some (.ifCond .ne 15), none, none, some (.aload_n 3), some (.iconst 0), some (.laload), some (.iload 6), none, some (.i2l), some (.lcmp), some (.ifCond .eq 5), none, none, some (.iconst 0), some (.ireturn), some (.goto 323), none, none, some (.aload_n 1)]
def xc198_14 : List (Option Instr) := [some (.invokevirtual 158), none, none, some (.dstore 5), none, some (.aload_n 2), some (.invokevirtual 162), none, none, some (.dstore 7), none, some (.dload 5), none, some (.dload 7), none, some (.dcmp .l), some (.ifCond .eq 21), none, none, some (.dload 5), none, some (.dload 5), none, some (.dcmp .l), some (.ifCond .eq 11), none, none, some (.dload 7), none, some (.dload 7), none, some (.dcmp .l), some (.ifCond .ne 5), none, none, some (.iconst 0), some (.ireturn), some (.goto 282), none, none, some (.aload_n 1), some (.aload_n 0), some (.iload 4), none, some (.iconst 1), some (.iadd), some (.iaload), some (.aload_n 0), some (.iload 4), none, some (.iconst 2), some (.iadd), some (.iaload), some (.aload_n 0), some (.iload 4), none, some (.iconst 3), some (.iadd), some (.iaload), some (.aload_n 0), some (.iload 4), none, some (.iconst 4), some (.iadd), some (.iaload), some (.aload_n 0), some (.iload 4), none, some (.iconst 5), some (.iadd), some (.iaload), some (.aload_n 3), some (.invokestatic 163), none, none, some (.istore 5), none, some (.aload_n 2), some (.aload_n 0), some (.iload 4), none, some (.iconst 1), some (.iadd), some (.iaload), some (.aload_n 0), some (.iload 4), none, some (.iconst 2), some (.iadd), some (.iaload), some (.aload_n 0), some (.iload 4), none, some (.iconst 3), some (.iadd), some (.iaload), some (.aload_n 0), some (.iload 4), none, some (.iconst 4)]
def xc198_15 : List (Option Instr) := [some (.iadd), some (.iaload), some (.aload_n 0), some (.iload 4), none, some (.iconst 5), some (.iadd), some (.iaload), some (.invokevirtual 166), none, none, some (.istore 6), none, some (.aload_n 2), some (.invokevirtual 97), none, none, some (.iload 5), none, some (.if_icmp .eq 5), none, none, some (.iconst 0), some (.ireturn), some (.iload 5), none, some (.ifCond .ne 15), none, none, some (.aload_n 3), some (.iconst 0), some (.laload), some (.iload 6), none, some (.i2l), some (.lcmp), some (.ifCond .eq 5), none, none, some (.iconst 0), some (.ireturn), some (.goto 178), none, none, some (.aload_n 1), some (.aload_n 0), some (.iload 4), none, some (.iconst 1), some (.iadd), some (.iaload), some (.aload_n 0), some (.iload 4), none, some (.iconst 2), some (.iadd), some (.iaload), some (.aload_n 0), some (.iload 4), none, some (.iconst 3), some (.iadd), some (.iaload), some (.aload_n 3), some (.invokestatic 167), none, none, some (.istore 5), none, some (.aload_n 2), some (.aload_n 0), some (.iload 4), none, some (.iconst 1), some (.iadd), some (.iaload), some (.aload_n 0), some (.iload 4), none, some (.iconst 2), some (.iadd), some (.iaload), some (.aload_n 0), some (.iload 4), none, some (.iconst 3), some (.iadd), some (.iaload), some (.invokevirtual 169), none, none, some (.istore 6), none, some (.aload_n 2), some (.invokevirtual 97), none, none, some (.iload 5), none, some (.if_icmp .eq 5)]
def xc198_16 : List (Option Instr) := [none, none, some (.iconst 0), some (.ireturn), some (.iload 5), none, some (.ifCond .ne 15), none, none, some (.aload_n 3), some (.iconst 0), some (.laload), some (.iload 6), none, some (.i2l), some (.lcmp), some (.ifCond .eq 5), none, none, some (.iconst 0), some (.ireturn), some (.goto 98), none, none, some (.aload_n 1), some (.aload_n 0), some (.iload 4), none, some (.iconst 1), some (.iadd), some (.iaload), some (.aload_n 0), some (.iload 4), none, some (.iconst 2), some (.iadd), some (.iaload), some (.aload_n 3), some (.invokestatic 170), none, none, some (.istore 5), none, some (.aload_n 2), some (.aload_n 0), some (.iload 4), none, some (.iconst 1), some (.iadd), some (.iaload), some (.aload_n 0), some (.iload 4), none, some (.iconst 2), some (.iadd), some (.iaload), some (.invokevirtual 172), none, none, some (.istore 6), none, some (.aload_n 2), some (.invokevirtual 97), none, none, some (.iload 5), none, some (.if_icmp .eq 5), none, none, some (.iconst 0), some (.ireturn), some (.iload 5), none, some (.ifCond .ne 15), none, none, some (.aload_n 3), some (.iconst 0), some (.laload), some (.iload 6), none, some (.i2l), some (.lcmp), some (.ifCond .eq 5), none, none, some (.iconst 0), some (.ireturn), some (.goto 30), none, none, some (.aload_n 1), some (.invokevirtual 173), none, none, some (.aload_n 2), some (.invokevirtual 176), none, none]
def xc198_17 : List (Option Instr) := [some (.if_icmp .eq 19), none, none, some (.iconst 0), some (.ireturn), some (.aload_n 1), some (.invokevirtual 177), none, none, some (.aload_n 2), some (.invokevirtual 181), none, none, some (.lcmp), some (.ifCond .eq 5), none, none, some (.iconst 0), some (.ireturn), some (.iinc 4 6), none, none, some (.goto (-1699)), none, none, some (.iconst 1), some (.ireturn)]
def xc198 : List (Option Instr) := xc198_0 ++ (xc198_1 ++ (xc198_2 ++ (xc198_3 ++ (xc198_4 ++ (xc198_5 ++ (xc198_6 ++ (xc198_7 ++ (xc198_8 ++ (xc198_9 ++ (xc198_10 ++ (xc198_11 ++ (xc198_12 ++ (xc198_13 ++ (xc198_14 ++ (xc198_15 ++ (xc198_16 ++ (xc198_17)))))))))))))))))
def xmc : Nat → List (Option Instr)
  | 0 => xc0
  | 1 => xc1
  | 2 => xc2
  | 3 => xc3
  | 4 => xc4
  | 5 => xc5
  | 6 => xc6
  | 7 => xc7
  | 8 => xc8
  | 9 => xc9
  | 10 => xc10
  | 11 => xc11
  | 12 => xc12
  | 13 => xc13
  | 14 => xc14
  | 15 => xc15
  | 16 => xc16
  | 17 => xc17
  | 18 => xc18
  | 19 => xc19
  | 20 => xc20
  | 21 => xc21
  | 22 => xc22
  | 23 => xc23
  | 24 => xc24
  | 25 => xc25
  | 26 => xc26
  | 27 => xc27
  | 28 => xc28
  | 29 => xc29
  | 30 => xc30
  | 31 => xc31
  | 32 => xc32
  | 33 => xc33
  | 34 => xc34
  | 35 => xc35
  | 36 => xc36
  | 37 => xc37
  | 38 => xc38
  | 39 => xc39
  | 40 => xc40
  | 41 => xc41
  | 42 => xc42
  | 43 => xc43
  | 44 => xc44
  | 45 => xc45
  | 46 => xc46
  | 47 => xc47
  | 48 => xc48
  | 49 => xc49
  | 50 => xc50
  | 51 => xc51
  | 52 => xc52
  | 53 => xc53
  | 54 => xc54
  | 55 => xc55
  | 56 => xc56
  | 57 => xc57
  | 58 => xc58
  | 59 => xc59
  | 60 => xc60
  | 61 => xc61
  | 62 => xc62
  | 63 => xc63
  | 64 => xc64
  | 65 => xc65
  | 66 => xc66
  | 67 => xc67
  | 68 => xc68
  | 69 => xc69
  | 70 => xc70
  | 71 => xc71
  | 72 => xc72
  | 73 => xc73
  | 74 => xc74
  | 75 => xc75
  | 76 => xc76
  | 77 => xc77
  | 78 => xc78
  | 79 => xc79
  | 80 => xc80
  | 81 => xc81
  | 82 => xc82
  | 83 => xc83
  | 84 => xc84
  | 85 => xc85
  | 86 => xc86
  | 87 => xc87
  | 88 => xc88
  | 89 => xc89
  | 90 => xc90
  | 91 => xc91
  | 92 => xc92
  | 93 => xc93
  | 94 => xc94
  | 95 => xc95
  | 96 => xc96
  | 97 => xc97
  | 98 => xc98
  | 99 => xc99
  | 100 => xc100
  | 101 => xc101
  | 102 => xc102
  | 103 => xc103
  | 104 => xc104
  | 105 => xc105
  | 106 => xc106
  | 107 => xc107
  | 108 => xc108
  | 109 => xc109
  | 110 => xc110
  | 111 => xc111
  | 112 => xc112
  | 113 => xc113
  | 114 => xc114
  | 115 => xc115
  | 116 => xc116
  | 117 => xc117
  | 118 => xc118
  | 119 => xc119
  | 120 => xc120
  | 121 => xc121
  | 122 => xc122
  | 123 => xc123
  | 124 => xc124
  | 125 => xc125
  | 126 => xc126
  | 127 => xc127
  | 128 => xc128
  | 129 => xc129
  | 130 => xc130
  | 131 => xc131
  | 132 => xc132
  | 133 => xc133
  | 134 => xc134
  | 135 => xc135
  | 136 => xc136
  | 137 => xc137
  | 138 => xc138
  | 139 => xc139
  | 140 => xc140
  | 141 => xc141
  | 142 => xc142
  | 143 => xc143
  | 144 => xc144
  | 145 => xc145
  | 146 => xc146
  | 147 => xc147
  | 148 => xc148
  | 149 => xc149
  | 150 => xc150
  | 151 => xc151
  | 152 => xc152
  | 153 => xc153
  | 154 => xc154
  | 155 => xc155
  | 156 => xc156
  | 157 => xc157
  | 158 => xc158
  | 159 => xc159
  | 160 => xc160
  | 161 => xc161
  | 162 => xc162
  | 163 => xc163
  | 164 => xc164
  | 165 => xc165
  | 166 => xc166
  | 167 => xc167
  | 168 => xc168
  | 169 => xc169
  | 170 => xc170
  | 171 => xc171
  | 172 => xc172
  | 173 => xc173
  | 174 => xc174
  | 175 => xc175
  | 176 => xc176
  | 177 => xc177
  | 178 => xc178
  | 179 => xc179
  | 180 => xc180
  | 181 => xc181
  | 182 => xc182
  | 183 => xc183
  | 184 => xc184
  | 185 => xc185
  | 186 => xc186
  | 187 => xc187
  | 188 => xc188
  | 189 => xc189
  | 190 => xc190
  | 191 => xc191
  | 192 => xc192
  | 193 => xc193
  | 194 => xc194
  | 195 => xc195
  | 196 => xc196
  | 197 => xc197
  | 198 => xc198
  | _ => []
def xfldT : Nat → List (Nat × Nat × Nat × Nat × Nat)
  | 0 => [(35, 0, 0, 0, 119), (14, 0, 1, 0, 121), (20, 0, 2, 0, 123), (28, 0, 3, 0, 125), (32, 0, 4, 0, 127)]
  | 1 => [(20, 1, 0, 0, 169), (24, 1, 1, 0, 171), (28, 1, 2, 0, 173), (31, 1, 3, 0, 175), (34, 1, 4, 0, 177), (37, 1, 5, 0, 179), (14, 1, 6, 0, 181)]
  | 2 => [(9, 2, 0, 0, 112), (15, 2, 1, 0, 113)]
  | 3 => [(23, 3, 0, 0, 148), (14, 3, 1, 0, 150), (20, 3, 2, 0, 152)]
  | 4 => [(39, 4, 0, 0, 212), (43, 4, 1, 0, 214), (50, 4, 2, 0, 216), (47, 4, 3, 0, 218), (14, 4, 4, 0, 219), (25, 4, 5, 0, 221), (29, 4, 6, 0, 223)]
  | 5 => [(7, 5, 0, 0, 101)]
  | 6 => [(54, 7, 0, 0, 250), (61, 7, 1, 0, 253), (60, 6, 0, 0, 293), (64, 6, 1, 0, 294), (14, 6, 2, 0, 295), (20, 6, 3, 0, 297), (28, 6, 4, 0, 299), (32, 6, 5, 0, 301), (35, 6, 6, 0, 303), (41, 6, 7, 0, 305), (45, 6, 8, 0, 306), (48, 6, 9, 0, 307), (51, 6, 10, 0, 308)]
  | 7 => [(29, 7, 0, 0, 249), (33, 7, 1, 0, 252), (14, 7, 2, 0, 254), (25, 7, 3, 0, 255)]
  | 8 => [(23, 8, 0, 0, 283), (14, 8, 1, 0, 284), (20, 8, 2, 0, 285)]
  | 9 => [(58, 0, 0, 0, 120), (249, 0, 1, 0, 122), (258, 0, 2, 0, 124), (275, 0, 3, 0, 126), (398, 0, 4, 0, 128), (73, 3, 0, 0, 149), (282, 3, 1, 0, 151), (283, 3, 2, 0, 153), (74, 1, 0, 0, 170), (233, 1, 1, 0, 172), (117, 1, 2, 0, 174), (140, 1, 3, 0, 176), (131, 1, 4, 0, 178), (122, 1, 5, 0, 180), (264, 1, 6, 0, 182), (114, 4, 0, 0, 213), (152, 4, 1, 0, 215), (128, 4, 2, 0, 217), (157, 4, 4, 0, 220), (270, 4, 5, 0, 222), (291, 7, 0, 0, 251), (300, 6, 2, 0, 296), (303, 6, 3, 0, 298), (314, 6, 4, 0, 300), (308, 6, 5, 0, 302), (311, 6, 6, 0, 304), (10, 9, 0, 0, 332), (19, 9, 1, 0, 333), (26, 9, 2, 0, 334), (33, 9, 3, 0, 335), (40, 9, 4, 0, 336), (47, 9, 5, 0, 337), (51, 9, 6, 0, 338), (111, 9, 7, 0, 339), (243, 9, 8, 0, 340)]
  | 10 => [(54, 11, 8, 1, 1083), (43, 11, 12, 1, 1088), (15, 11, 23, 1, 1100), (61, 11, 24, 1, 1103), (69, 11, 25, 1, 1105), (19, 10, 0, 0, 1294), (40, 10, 1, 0, 1295), (25, 10, 2, 0, 1296), (28, 10, 3, 0, 1298), (31, 10, 4, 0, 1300), (34, 10, 5, 0, 1302), (37, 10, 6, 0, 1304), (3, 10, 7, 0, 1306)]
  | 11 => [(56, 11, 0, 0, 1075), (9, 11, 1, 0, 1076), (13, 11, 2, 0, 1077), (16, 11, 3, 0, 1078), (19, 11, 4, 0, 1079), (24, 11, 5, 0, 1080), (30, 11, 6, 0, 1081), (60, 11, 7, 0, 1082), (67, 11, 8, 0, 1084), (74, 11, 9, 0, 1085), (105, 11, 10, 0, 1086), (88, 11, 11, 0, 1087), (93, 11, 12, 0, 1089), (96, 11, 13, 0, 1090), (91, 11, 14, 0, 1091), (99, 11, 15, 0, 1092), (111, 11, 16, 0, 1093), (114, 11, 17, 0, 1094), (116, 11, 18, 0, 1095), (108, 11, 19, 0, 1096), (34, 11, 20, 0, 1097), (37, 11, 21, 0, 1098), (40, 11, 22, 0, 1099), (43, 11, 23, 0, 1101), (48, 11, 24, 0, 1102), (53, 11, 25, 0, 1104), (146, 10, 2, 0, 1297), (187, 10, 3, 0, 1299), (193, 10, 4, 0, 1301), (143, 10, 5, 0, 1303), (190, 10, 6, 0, 1305)]
  | 12 => [(9, 12, 1, 0, 1059), (48, 12, 2, 0, 1060)]
  | 23 => [(7, 12, 0, 0, 1061)]
  | _ => []
def xnewT : Nat → List (Nat × Nat × Nat × Nat × Nat)
  | 0 => [(9, 5, 95, 96, 55), (23, 2, 106, 107, 56)]
  | 1 => [(9, 5, 167, 96, 55)]
  | 3 => [(9, 5, 146, 96, 55)]
  | 4 => [(9, 2, 204, 107, 56), (20, 5, 206, 96, 55)]
  | 6 => [(9, 2, 271, 107, 56), (23, 5, 273, 96, 55), (38, 8, 275, 276, 62)]
  | 7 => [(9, 2, 245, 107, 56), (20, 5, 247, 96, 55)]
  | 8 => [(9, 2, 281, 107, 56)]
  | 9 => [(7, 0, 89, 90, 54), (16, 3, 140, 141, 57), (23, 1, 161, 162, 58), (30, 4, 198, 199, 59), (37, 7, 239, 240, 60), (44, 6, 265, 266, 61), (90, 13, 541, 542, 70), (147, 14, 621, 622, 73), (62, 15, 717, 718, 71)]
  | 11 => [(27, 12, 1045, 1046, 66), (138, 10, 1257, 1258, 75)]
  | 13 => [(8, 9, 81, 82, 53), (13, 13, 707, 542, 70), (15, 15, 708, 718, 71), (35, 14, 833, 622, 73), (88, 11, 1037, 1038, 63)]
  | _ => []
def xcalT : Nat → List (Nat × Nat × Nat × Nat × Nat × Nat × Nat)
  | 0 => [(3, 6, 0, 94, 87, 88, 0), (11, 0, 2, 97, 98, 55, 0), (25, 0, 3, 108, 109, 56, 0), (50, 1, 13, 368, 369, 370, 56), (39, 1, 35, 737, 466, 467, 55), (42, 3, 21, 768, 407, 53, 0), (46, 1, 16, 769, 381, 382, 55), (53, 1, 28, 829, 435, 436, 56), (57, 1, 31, 961, 448, 449, 56), (59, 1, 12, 966, 365, 366, 54), (62, 8, 0, 967, 385, 74, 386)]
  | 1 => [(3, 6, 0, 166, 87, 88, 0), (11, 0, 2, 168, 98, 55, 0), (55, 2, 17, 672, 388, 72, 0), (40, 1, 7, 782, 209, 210, 55), (47, 3, 21, 863, 407, 53, 0), (51, 1, 35, 864, 466, 467, 55), (43, 1, 80, 973, 779, 780, 58), (61, 1, 61, 1028, 669, 670, 58)]
  | 2 => [(3, 6, 0, 111, 87, 88, 0)]
  | 3 => [(3, 6, 0, 145, 87, 88, 0), (11, 0, 2, 147, 98, 55, 0), (27, 1, 35, 750, 466, 467, 55), (31, 1, 16, 774, 381, 382, 55), (35, 3, 21, 775, 407, 53, 0), (39, 2, 17, 776, 388, 72, 0)]
  | 4 => [(3, 6, 0, 203, 87, 88, 0), (11, 0, 3, 205, 109, 56, 0), (22, 0, 2, 207, 98, 55, 0), (32, 1, 7, 208, 209, 210, 55), (87, 1, 56, 643, 644, 645, 59), (85, 1, 13, 647, 369, 370, 56), (53, 2, 17, 648, 388, 72, 0), (36, 1, 84, 796, 797, 798, 59), (35, 1, 20, 800, 402, 403, 56), (59, 3, 21, 813, 407, 53, 0), (63, 1, 88, 814, 816, 18, 59), (73, 1, 16, 818, 381, 382, 55), (81, 1, 89, 819, 820, 821, 54), (67, 1, 35, 823, 466, 467, 55), (70, 1, 25, 824, 423, 424, 55), (76, 1, 90, 825, 826, 827, 54), (90, 1, 96, 854, 856, 19, 59), (93, 1, 55, 858, 640, 641, 59)]
  | 5 => [(1, 6, 0, 100, 87, 88, 0)]
  | 6 => [(3, 6, 0, 270, 87, 88, 0), (11, 0, 3, 272, 109, 56, 0), (25, 0, 2, 274, 98, 55, 0), (40, 0, 10, 277, 278, 62, 0), (95, 1, 16, 380, 381, 382, 55), (99, 8, 0, 384, 385, 74, 386), (65, 1, 19, 397, 398, 399, 62), (68, 1, 7, 405, 209, 210, 55), (71, 3, 21, 406, 407, 53, 0), (75, 1, 22, 409, 411, 0, 61), (113, 1, 23, 413, 414, 415, 60), (116, 1, 25, 422, 423, 424, 55), (88, 2, 26, 426, 427, 61, 0), (104, 1, 24, 429, 418, 419, 60), (119, 1, 27, 430, 431, 432, 62), (79, 1, 29, 438, 440, 1, 61), (122, 1, 30, 442, 443, 444, 62), (125, 1, 32, 451, 452, 453, 60), (128, 1, 33, 457, 459, 2, 61), (92, 1, 34, 461, 462, 463, 62), (132, 1, 35, 465, 466, 467, 55), (135, 1, 36, 469, 471, 3, 61), (147, 1, 37, 473, 474, 475, 62), (138, 3, 38, 477, 478, 53, 0), (141, 1, 31, 480, 448, 449, 56), (144, 1, 39, 481, 483, 4, 61), (150, 1, 40, 485, 486, 487, 62), (153, 7, 0, 489, 490, 74, 491), (82, 1, 41, 492, 494, 5, 61), (108, 1, 13, 496, 369, 370, 56), (85, 1, 42, 497, 499, 6, 61), (156, 1, 43, 501, 503, 7, 61), (173, 1, 44, 505, 507, 8, 61), (159, 2, 17, 509, 388, 72, 0), (164, 1, 45, 510, 512, 9, 61), (167, 1, 46, 514, 516, 10, 61), (170, 1, 47, 518, 520, 11, 61), (110, 9, 0, 949, 950, 74, 951)]
  | 7 => [(3, 6, 0, 244, 87, 88, 0), (11, 0, 3, 246, 109, 56, 0), (22, 0, 2, 248, 98, 55, 0), (51, 1, 24, 417, 418, 419, 60), (55, 1, 13, 421, 369, 370, 56), (59, 1, 16, 455, 381, 382, 55), (40, 3, 21, 456, 407, 53, 0), (67, 1, 51, 536, 537, 538, 60), (64, 1, 23, 540, 414, 415, 60), (36, 1, 20, 881, 402, 403, 56), (39, 1, 7, 882, 209, 210, 55), (44, 1, 31, 900, 448, 449, 56), (48, 1, 105, 919, 897, 898, 60), (62, 1, 35, 932, 466, 467, 55)]
  | 8 => [(3, 6, 0, 280, 87, 88, 0), (11, 0, 3, 282, 109, 56, 0), (27, 1, 20, 401, 402, 403, 56), (31, 1, 28, 434, 435, 436, 56), (35, 1, 13, 446, 369, 370, 56), (39, 1, 31, 447, 448, 449, 56)]
  | 9 => [(1, 6, 0, 86, 87, 88, 0), (9, 4, 1, 91, 92, 54, 0), (18, 4, 4, 142, 143, 57, 0), (25, 4, 5, 163, 164, 58, 0), (32, 0, 6, 200, 201, 59, 0), (39, 4, 8, 241, 242, 60, 0), (46, 4, 9, 267, 268, 61, 0), (261, 1, 12, 364, 365, 366, 54), (334, 1, 15, 376, 377, 378, 61), (85, 2, 17, 387, 388, 72, 0), (186, 1, 18, 393, 394, 395, 61), (341, 1, 49, 528, 529, 530, 53), (319, 1, 50, 532, 533, 534, 60), (344, 1, 52, 609, 611, 13, 53), (354, 1, 53, 613, 614, 615, 53), (246, 1, 54, 617, 619, 14, 53), (253, 1, 16, 637, 381, 382, 55), (143, 2, 21, 638, 407, 53, 0), (267, 1, 55, 639, 640, 641, 59), (357, 1, 57, 650, 651, 652, 53), (278, 1, 13, 654, 369, 370, 56), (360, 1, 58, 655, 657, 15, 53), (363, 1, 59, 659, 660, 661, 53), (212, 1, 60, 663, 665, 16, 53), (215, 1, 61, 668, 669, 670, 58), (366, 1, 62, 674, 675, 676, 53), (192, 1, 63, 678, 680, 17, 53), (369, 1, 64, 684, 685, 686, 53), (296, 1, 65, 689, 690, 691, 61), (348, 1, 66, 693, 694, 695, 53), (286, 1, 67, 698, 699, 700, 60), (351, 1, 14, 703, 373, 374, 53), (54, 2, 70, 713, 714, 53, 0), (69, 1, 71, 733, 734, 735, 54), (80, 1, 74, 746, 747, 748, 57), (81, 1, 77, 758, 759, 760, 54), (97, 1, 78, 764, 765, 766, 54), (100, 1, 79, 770, 771, 772, 57), (105, 1, 80, 778, 779, 780, 58), (125, 1, 83, 792, 793, 794, 59), (136, 1, 87, 809, 810, 811, 59), (161, 1, 31, 840, 448, 449, 56), (166, 1, 56, 841, 644, 645, 59), (172, 1, 95, 850, 851, 852, 59), (175, 1, 97, 859, 860, 861, 58), (178, 1, 98, 865, 866, 867, 59), (183, 1, 101, 877, 878, 879, 60), (195, 1, 104, 891, 892, 893, 60), (200, 1, 105, 896, 897, 898, 60), (203, 1, 51, 901, 537, 538, 60), (206, 1, 108, 909, 911, 20, 53), (380, 1, 23, 913, 414, 415, 60), (209, 1, 109, 915, 916, 917, 60), (218, 1, 32, 927, 452, 453, 60), (221, 1, 112, 928, 929, 930, 60), (227, 1, 115, 941, 943, 21, 53), (388, 1, 116, 945, 946, 947, 61), (392, 1, 25, 952, 423, 424, 55), (230, 1, 117, 953, 955, 22, 53), (395, 1, 118, 957, 958, 959, 54), (236, 1, 119, 962, 963, 964, 54), (239, 1, 84, 968, 797, 798, 59), (242, 1, 120, 969, 970, 971, 58), (325, 1, 130, 1009, 1011, 23, 53), (385, 1, 131, 1013, 1014, 1015, 60), (329, 1, 134, 1024, 1025, 1026, 58)]
  | 10 => [(9, 6, 0, 1262, 87, 88, 0), (46, 1, 167, 1264, 1266, 33, 75), (57, 3, 149, 1268, 1191, 63, 0), (65, 1, 168, 1269, 1271, 34, 75), (73, 1, 169, 1273, 1275, 35, 75), (77, 3, 147, 1277, 1184, 63, 0), (50, 1, 170, 1278, 1280, 36, 75), (80, 1, 171, 1282, 1284, 37, 75), (84, 1, 172, 1286, 1288, 38, 75), (88, 1, 173, 1290, 1292, 39, 75), (91, 8, 0, 1505, 385, 74, 386)]
  | 11 => [(1, 6, 0, 1042, 87, 88, 0), (29, 0, 138, 1047, 1048, 66, 0), (63, 2, 143, 1168, 1169, 63, 0), (70, 1, 144, 1171, 1173, 24, 63), (82, 2, 147, 1183, 1184, 63, 0), (85, 1, 148, 1186, 1188, 25, 63), (78, 2, 149, 1190, 1191, 63, 0), (102, 1, 150, 1193, 1195, 26, 63), (119, 1, 154, 1209, 1211, 27, 63), (123, 1, 156, 1217, 1219, 28, 63), (126, 1, 159, 1229, 1231, 29, 63), (129, 1, 160, 1233, 1235, 30, 63), (132, 1, 162, 1241, 1243, 31, 63), (135, 1, 164, 1249, 1251, 32, 63), (140, 0, 166, 1259, 1260, 75, 0), (149, 9, 0, 1324, 950, 74, 951), (160, 1, 174, 1390, 1392, 43, 63), (175, 7, 0, 1423, 490, 74, 491), (163, 8, 0, 1424, 385, 74, 386), (178, 1, 177, 1429, 1431, 44, 63), (181, 1, 178, 1433, 1435, 45, 63), (184, 1, 181, 1445, 1447, 46, 63), (196, 1, 186, 1465, 1467, 47, 63), (203, 1, 189, 1477, 1479, 48, 63), (199, 1, 190, 1481, 1483, 49, 63), (210, 1, 194, 1497, 1499, 50, 63), (207, 1, 195, 1501, 1502, 1503, 75), (217, 1, 197, 1512, 1514, 51, 63)]
  | 12 => [(1, 0, 139, 1050, 1051, 65, 0), (79, 7, 0, 1388, 490, 74, 491)]
  | 13 => [(87, 0, 0, 83, 84, 53, 0), (158, 1, 11, 360, 361, 362, 53), (173, 1, 14, 372, 373, 374, 53), (177, 1, 48, 522, 523, 524, 53), (91, 2, 68, 704, 705, 52, 0), (7, 1, 69, 709, 710, 711, 53), (100, 2, 72, 738, 739, 52, 0), (17, 1, 73, 741, 742, 743, 53), (103, 2, 75, 751, 752, 52, 0), (20, 1, 76, 754, 755, 756, 53), (107, 2, 81, 783, 784, 52, 0), (24, 1, 82, 786, 787, 788, 53), (110, 2, 85, 801, 802, 52, 0), (27, 1, 86, 804, 805, 806, 53), (114, 2, 91, 830, 831, 52, 0), (31, 1, 92, 834, 835, 836, 53), (118, 2, 93, 842, 843, 52, 0), (37, 1, 94, 845, 846, 847, 53), (121, 2, 99, 869, 870, 52, 0), (40, 1, 100, 872, 873, 874, 53), (124, 2, 102, 883, 884, 52, 0), (43, 1, 103, 886, 887, 888, 53), (127, 2, 106, 902, 903, 52, 0), (46, 1, 107, 905, 906, 907, 53), (130, 2, 110, 920, 921, 52, 0), (49, 1, 111, 923, 924, 925, 53), (134, 2, 113, 933, 934, 52, 0), (53, 1, 114, 936, 937, 938, 53), (137, 2, 121, 974, 975, 52, 0), (56, 1, 53, 977, 614, 615, 53), (140, 2, 122, 978, 979, 52, 0), (59, 1, 57, 981, 651, 652, 53), (143, 2, 123, 982, 983, 52, 0), (62, 1, 66, 985, 694, 695, 53), (146, 2, 124, 986, 987, 52, 0), (65, 1, 64, 989, 685, 686, 53), (149, 2, 125, 990, 991, 52, 0), (68, 1, 62, 993, 675, 676, 53), (152, 2, 126, 994, 995, 52, 0), (71, 1, 59, 997, 660, 661, 53), (155, 2, 127, 998, 999, 52, 0), (74, 1, 49, 1001, 529, 530, 53), (163, 2, 128, 1002, 1003, 52, 0), (77, 1, 129, 1005, 1006, 1007, 53), (167, 2, 132, 1017, 1018, 52, 0), (81, 1, 133, 1020, 1021, 1022, 53), (170, 2, 135, 1029, 1030, 52, 0), (84, 1, 136, 1032, 1033, 1034, 53), (90, 0, 137, 1039, 1040, 63, 0), (97, 1, 141, 1160, 1161, 1162, 63), (96, 1, 142, 1164, 1165, 1166, 63), (102, 1, 145, 1175, 1176, 1177, 63), (106, 1, 146, 1179, 1180, 1181, 63), (109, 1, 151, 1197, 1198, 1199, 63), (113, 1, 152, 1201, 1202, 1203, 63), (117, 1, 153, 1205, 1206, 1207, 63), (120, 1, 155, 1213, 1214, 1215, 63), (123, 1, 157, 1221, 1222, 1223, 63), (126, 1, 158, 1225, 1226, 1227, 63), (129, 1, 161, 1237, 1238, 1239, 63), (133, 1, 163, 1245, 1246, 1247, 63), (136, 1, 165, 1253, 1254, 1255, 63), (139, 1, 176, 1425, 1426, 1427, 63), (142, 1, 179, 1437, 1438, 1439, 63), (145, 1, 180, 1441, 1442, 1443, 63), (148, 1, 182, 1449, 1450, 1451, 63), (151, 1, 183, 1453, 1454, 1455, 63), (154, 1, 184, 1457, 1458, 1459, 63), (157, 1, 185, 1461, 1462, 1463, 63), (162, 1, 187, 1469, 1470, 1471, 63), (166, 1, 188, 1473, 1474, 1475, 63), (169, 1, 191, 1485, 1486, 1487, 63), (172, 1, 192, 1489, 1490, 1491, 63), (176, 1, 193, 1493, 1494, 1495, 63), (181, 1, 196, 1506, 1507, 1508, 63)]
  | 17 => [(1, 6, 0, 566, 87, 88, 0)]
  | 23 => [(1, 0, 140, 1053, 1054, 64, 0)]
  | 24 => [(1, 6, 0, 1056, 87, 88, 0)]
  | 25 => [(194, 7, 0, 1350, 490, 74, 491)]
  | 26 => [(304, 8, 0, 1384, 385, 74, 386)]
  | _ => []
def xconT : Nat → List (Nat × Int32 × Nat)
  | 16 => [(265, (1431655765 : Int32), 390), (266, (858993459 : Int32), 391), (267, (252645135 : Int32), 392)]
  | 25 => [(200, (2147483639 : Int32), 1351)]
  | _ => []
def xcolT : Nat → List (Nat × Int64 × Nat)
  | 9 => [(337, (9107 : Int64), 526), (339, (31 : Int64), 527)]
  | 11 => [(213, (9107 : Int64), 1510), (215, (31 : Int64), 1511)]
  | _ => []
def xhost : Nat → String
  | 0 => "SkateSheet"
  | 1 => "SkateSheet"
  | 3 => "SkateSheet"
  | 4 => "SkateSheet"
  | 6 => "SkateSheet"
  | 7 => "SkateSheet"
  | 9 => "SkateSheet"
  | 10 => "SkateSheetModel"
  | _ => ""
def xNM : Nat := 199
def xNO : Nat := 29
def xNX : Nat := 13
def xlaw : Nat := 198
def xlayT : List (Nat × Nat × Nat) := [(0, 0, 129), (0, 1, 131), (0, 2, 133), (0, 3, 135), (0, 4, 137), (1, 0, 183), (1, 1, 185), (1, 2, 187), (1, 3, 189), (1, 4, 191), (1, 5, 193), (1, 6, 195), (2, 0, 114), (2, 1, 116), (3, 0, 154), (3, 1, 156), (3, 2, 158), (4, 0, 224), (4, 1, 226), (4, 2, 228), (4, 3, 230), (4, 4, 232), (4, 5, 234), (4, 6, 236), (5, 0, 102), (6, 0, 309), (6, 1, 311), (6, 2, 313), (6, 3, 315), (6, 4, 317), (6, 5, 319), (6, 6, 321), (6, 7, 323), (6, 8, 325), (6, 9, 327), (6, 10, 329), (7, 0, 256), (7, 1, 258), (7, 2, 260), (7, 3, 262), (8, 0, 286), (8, 1, 288), (8, 2, 290), (9, 0, 341), (9, 1, 343), (9, 2, 345), (9, 3, 347), (9, 4, 349), (9, 5, 351), (9, 6, 353), (9, 7, 355), (9, 8, 357), (10, 0, 1307), (10, 1, 1309), (10, 2, 1311), (10, 3, 1313), (10, 4, 1315), (10, 5, 1317), (10, 6, 1319), (10, 7, 1321), (11, 0, 1106), (11, 1, 1108), (11, 2, 1110), (11, 3, 1112), (11, 4, 1114), (11, 5, 1116), (11, 6, 1118), (11, 7, 1120), (11, 8, 1122), (11, 9, 1124), (11, 10, 1126), (11, 11, 1128), (11, 12, 1130), (11, 13, 1132), (11, 14, 1134), (11, 15, 1136), (11, 16, 1138), (11, 17, 1140), (11, 18, 1142), (11, 19, 1144), (11, 20, 1146), (11, 21, 1148), (11, 22, 1150), (11, 23, 1152), (11, 24, 1154), (11, 25, 1156), (12, 0, 1068), (12, 1, 1064), (12, 2, 1066)]
def xcodT : List (Nat × Nat) := [(0, 85), (1, 93), (2, 99), (3, 110), (4, 144), (5, 165), (6, 202), (7, 211), (8, 243), (9, 269), (10, 279), (11, 363), (12, 367), (13, 371), (14, 375), (15, 379), (16, 383), (17, 389), (18, 396), (19, 400), (20, 404), (21, 408), (22, 412), (23, 416), (24, 420), (25, 425), (26, 428), (27, 433), (28, 437), (29, 441), (30, 445), (31, 450), (32, 454), (33, 460), (34, 464), (35, 468), (36, 472), (37, 476), (38, 479), (39, 484), (40, 488), (41, 495), (42, 500), (43, 504), (44, 508), (45, 513), (46, 517), (47, 521), (48, 525), (49, 531), (50, 535), (51, 539), (52, 612), (53, 616), (54, 620), (55, 642), (56, 646), (57, 653), (58, 658), (59, 662), (60, 666), (61, 671), (62, 677), (63, 681), (64, 687), (65, 692), (66, 696), (67, 701), (69, 712), (70, 715), (71, 736), (73, 744), (74, 749), (76, 757), (77, 761), (78, 767), (79, 773), (80, 781), (82, 789), (83, 795), (84, 799), (86, 807), (87, 812), (88, 817), (89, 822), (90, 828), (92, 837), (94, 848), (95, 853), (96, 857), (97, 862), (98, 868), (100, 875), (101, 880), (103, 889), (104, 894), (105, 899), (107, 908), (108, 912), (109, 918), (111, 926), (112, 931), (114, 939), (115, 944), (116, 948), (117, 956), (118, 960), (119, 965), (120, 972), (129, 1008), (130, 1012), (131, 1016), (133, 1023), (134, 1027), (136, 1035), (137, 1041), (138, 1049), (139, 1052), (140, 1055), (141, 1163), (142, 1167), (143, 1170), (144, 1174), (145, 1178), (146, 1182), (147, 1185), (148, 1189), (149, 1192), (150, 1196), (151, 1200), (152, 1204), (153, 1208), (154, 1212), (155, 1216), (156, 1220), (157, 1224), (158, 1228), (159, 1232), (160, 1236), (161, 1240), (162, 1244), (163, 1248), (164, 1252), (165, 1256), (166, 1261), (167, 1267), (168, 1272), (169, 1276), (170, 1281), (171, 1285), (172, 1289), (173, 1293), (174, 1393), (175, 1402), (176, 1428), (177, 1432), (178, 1436), (179, 1440), (180, 1444), (181, 1448), (182, 1452), (183, 1456), (184, 1460), (185, 1464), (186, 1468), (187, 1472), (188, 1476), (189, 1480), (190, 1484), (191, 1488), (192, 1492), (193, 1496), (194, 1500), (195, 1504), (196, 1509), (197, 1515)]
def xinsT : List (Nat × Nat × Nat) := [(0, 5, 90), (1, 7, 162), (2, 2, 107), (3, 3, 141), (4, 7, 199), (5, 1, 96), (6, 11, 266), (7, 4, 240), (8, 3, 276), (9, 9, 82), (10, 8, 1258), (11, 26, 1038), (12, 3, 1046), (13, 6, 542), (14, 6, 622), (15, 6, 718)]
def xmf : Nat → Nat
  | 0 => 4
  | 1 => 2
  | 2 => 1
  | 3 => 1
  | 4 => 2
  | 5 => 2
  | 6 => 2
  | 7 => 0
  | 8 => 2
  | 9 => 3
  | 10 => 2
  | 11 => 2
  | 12 => 1
  | 13 => 0
  | 14 => 5
  | 15 => 1
  | 16 => 0
  | 17 => 0
  | 18 => 4
  | 19 => 1
  | 20 => 0
  | 21 => 0
  | 22 => 3
  | 23 => 2
  | 24 => 1
  | 25 => 0
  | 26 => 0
  | 27 => 1
  | 28 => 0
  | 29 => 3
  | 30 => 1
  | 31 => 0
  | 32 => 1
  | 33 => 2
  | 34 => 1
  | 35 => 0
  | 36 => 2
  | 37 => 1
  | 38 => 0
  | 39 => 2
  | 40 => 1
  | 41 => 1
  | 42 => 3
  | 43 => 2
  | 44 => 1
  | 45 => 2
  | 46 => 2
  | 47 => 1
  | 48 => 10
  | 49 => 6
  | 50 => 4
  | 51 => 3
  | 52 => 9
  | 53 => 7
  | 54 => 6
  | 55 => 2
  | 56 => 1
  | 57 => 7
  | 58 => 8
  | 59 => 7
  | 60 => 6
  | 61 => 1
  | 62 => 7
  | 63 => 6
  | 64 => 7
  | 65 => 2
  | 66 => 6
  | 67 => 3
  | 68 => 8
  | 69 => 7
  | 70 => 6
  | 71 => 1
  | 72 => 8
  | 73 => 7
  | 74 => 1
  | 75 => 7
  | 76 => 6
  | 77 => 0
  | 78 => 1
  | 79 => 1
  | 80 => 1
  | 81 => 7
  | 82 => 6
  | 83 => 2
  | 84 => 1
  | 85 => 7
  | 86 => 6
  | 87 => 3
  | 88 => 2
  | 89 => 1
  | 90 => 1
  | 91 => 7
  | 92 => 6
  | 93 => 7
  | 94 => 6
  | 95 => 4
  | 96 => 3
  | 97 => 1
  | 98 => 0
  | 99 => 7
  | 100 => 6
  | 101 => 1
  | 102 => 8
  | 103 => 7
  | 104 => 1
  | 105 => 1
  | 106 => 8
  | 107 => 7
  | 108 => 6
  | 109 => 2
  | 110 => 8
  | 111 => 7
  | 112 => 1
  | 113 => 7
  | 114 => 6
  | 115 => 3
  | 116 => 2
  | 117 => 2
  | 118 => 1
  | 119 => 2
  | 120 => 2
  | 121 => 8
  | 122 => 8
  | 123 => 7
  | 124 => 8
  | 125 => 8
  | 126 => 8
  | 127 => 7
  | 128 => 8
  | 129 => 7
  | 130 => 5
  | 131 => 2
  | 132 => 8
  | 133 => 7
  | 134 => 2
  | 135 => 8
  | 136 => 7
  | 137 => 4
  | 138 => 3
  | 139 => 2
  | 140 => 1
  | 141 => 0
  | 142 => 1
  | 143 => 0
  | 144 => 0
  | 145 => 1
  | 146 => 2
  | 147 => 0
  | 148 => 1
  | 149 => 0
  | 150 => 0
  | 151 => 1
  | 152 => 1
  | 153 => 2
  | 154 => 1
  | 155 => 2
  | 156 => 1
  | 157 => 1
  | 158 => 2
  | 159 => 1
  | 160 => 0
  | 161 => 3
  | 162 => 2
  | 163 => 2
  | 164 => 0
  | 165 => 5
  | 166 => 4
  | 167 => 3
  | 168 => 1
  | 169 => 2
  | 170 => 3
  | 171 => 1
  | 172 => 1
  | 173 => 2
  | 174 => 3
  | 175 => 0
  | 176 => 5
  | 177 => 1
  | 178 => 4
  | 179 => 2
  | 180 => 2
  | 181 => 1
  | 182 => 2
  | 183 => 5
  | 184 => 5
  | 185 => 4
  | 186 => 3
  | 187 => 4
  | 188 => 6
  | 189 => 5
  | 190 => 0
  | 191 => 6
  | 192 => 5
  | 193 => 6
  | 194 => 5
  | 195 => 1
  | 196 => 6
  | 197 => 0
  | 198 => 11
  | _ => 0
def xmlo : Nat → Nat
  | 0 => 88
  | 1 => 47
  | 2 => 24
  | 3 => 24
  | 4 => 45
  | 5 => 45
  | 6 => 47
  | 7 => 0
  | 8 => 47
  | 9 => 68
  | 10 => 47
  | 11 => 49
  | 12 => 23
  | 13 => 0
  | 14 => 123
  | 15 => 24
  | 16 => 0
  | 17 => 0
  | 18 => 100
  | 19 => 22
  | 20 => 0
  | 21 => 0
  | 22 => 68
  | 23 => 46
  | 24 => 23
  | 25 => 0
  | 26 => 0
  | 27 => 24
  | 28 => 0
  | 29 => 73
  | 30 => 24
  | 31 => 0
  | 32 => 21
  | 33 => 45
  | 34 => 23
  | 35 => 0
  | 36 => 48
  | 37 => 23
  | 38 => 0
  | 39 => 45
  | 40 => 23
  | 41 => 23
  | 42 => 73
  | 43 => 46
  | 44 => 21
  | 45 => 46
  | 46 => 46
  | 47 => 22
  | 48 => 197
  | 49 => 113
  | 50 => 91
  | 51 => 68
  | 52 => 171
  | 53 => 121
  | 54 => 100
  | 55 => 47
  | 56 => 23
  | 57 => 121
  | 58 => 145
  | 59 => 121
  | 60 => 100
  | 61 => 20
  | 62 => 121
  | 63 => 100
  | 64 => 121
  | 65 => 45
  | 66 => 100
  | 67 => 68
  | 68 => 141
  | 69 => 120
  | 70 => 100
  | 71 => 22
  | 72 => 141
  | 73 => 120
  | 74 => 22
  | 75 => 123
  | 76 => 100
  | 77 => 0
  | 78 => 21
  | 79 => 21
  | 80 => 22
  | 81 => 122
  | 82 => 100
  | 83 => 42
  | 84 => 22
  | 85 => 120
  | 86 => 100
  | 87 => 75
  | 88 => 47
  | 89 => 23
  | 90 => 24
  | 91 => 123
  | 92 => 100
  | 93 => 139
  | 94 => 118
  | 95 => 95
  | 96 => 70
  | 97 => 22
  | 98 => 0
  | 99 => 144
  | 100 => 123
  | 101 => 22
  | 102 => 146
  | 103 => 123
  | 104 => 21
  | 105 => 24
  | 106 => 145
  | 107 => 123
  | 108 => 100
  | 109 => 49
  | 110 => 148
  | 111 => 123
  | 112 => 22
  | 113 => 120
  | 114 => 100
  | 115 => 71
  | 116 => 46
  | 117 => 46
  | 118 => 24
  | 119 => 49
  | 120 => 45
  | 121 => 143
  | 122 => 143
  | 123 => 122
  | 124 => 144
  | 125 => 145
  | 126 => 144
  | 127 => 134
  | 128 => 172
  | 129 => 147
  | 130 => 123
  | 131 => 46
  | 132 => 176
  | 133 => 147
  | 134 => 41
  | 135 => 145
  | 136 => 123
  | 137 => 84
  | 138 => 64
  | 139 => 44
  | 140 => 24
  | 141 => 0
  | 142 => 22
  | 143 => 0
  | 144 => 0
  | 145 => 22
  | 146 => 48
  | 147 => 0
  | 148 => 22
  | 149 => 0
  | 150 => 0
  | 151 => 22
  | 152 => 22
  | 153 => 43
  | 154 => 22
  | 155 => 45
  | 156 => 21
  | 157 => 22
  | 158 => 43
  | 159 => 22
  | 160 => 0
  | 161 => 65
  | 162 => 43
  | 163 => 43
  | 164 => 0
  | 165 => 133
  | 166 => 109
  | 167 => 75
  | 168 => 21
  | 169 => 48
  | 170 => 79
  | 171 => 22
  | 172 => 21
  | 173 => 48
  | 174 => 60
  | 175 => 0
  | 176 => 109
  | 177 => 22
  | 178 => 86
  | 179 => 43
  | 180 => 45
  | 181 => 21
  | 182 => 43
  | 183 => 133
  | 184 => 133
  | 185 => 83
  | 186 => 60
  | 187 => 86
  | 188 => 158
  | 189 => 133
  | 190 => 0
  | 191 => 158
  | 192 => 133
  | 193 => 156
  | 194 => 133
  | 195 => 24
  | 196 => 156
  | 197 => 0
  | 198 => 221
  | _ => 0
def xcod : Nat → Bool
  | 0 => true
  | 1 => true
  | 2 => true
  | 3 => true
  | 4 => true
  | 5 => true
  | 6 => true
  | 7 => true
  | 8 => true
  | 9 => true
  | 10 => true
  | 11 => true
  | 12 => true
  | 13 => true
  | 14 => true
  | 15 => true
  | 16 => true
  | 17 => true
  | 18 => true
  | 19 => true
  | 20 => true
  | 21 => true
  | 22 => true
  | 23 => true
  | 24 => true
  | 25 => true
  | 26 => true
  | 27 => true
  | 28 => true
  | 29 => true
  | 30 => true
  | 31 => true
  | 32 => true
  | 33 => true
  | 34 => true
  | 35 => true
  | 36 => true
  | 37 => true
  | 38 => true
  | 39 => true
  | 40 => true
  | 41 => true
  | 42 => true
  | 43 => true
  | 44 => true
  | 45 => true
  | 46 => true
  | 47 => true
  | 48 => true
  | 49 => true
  | 50 => true
  | 51 => true
  | 52 => true
  | 53 => true
  | 54 => true
  | 55 => true
  | 56 => true
  | 57 => true
  | 58 => true
  | 59 => true
  | 60 => true
  | 61 => true
  | 62 => true
  | 63 => true
  | 64 => true
  | 65 => true
  | 66 => true
  | 67 => true
  | 68 => false
  | 69 => true
  | 70 => true
  | 71 => true
  | 72 => false
  | 73 => true
  | 74 => true
  | 75 => false
  | 76 => true
  | 77 => true
  | 78 => true
  | 79 => true
  | 80 => true
  | 81 => false
  | 82 => true
  | 83 => true
  | 84 => true
  | 85 => false
  | 86 => true
  | 87 => true
  | 88 => true
  | 89 => true
  | 90 => true
  | 91 => false
  | 92 => true
  | 93 => false
  | 94 => true
  | 95 => true
  | 96 => true
  | 97 => true
  | 98 => true
  | 99 => false
  | 100 => true
  | 101 => true
  | 102 => false
  | 103 => true
  | 104 => true
  | 105 => true
  | 106 => false
  | 107 => true
  | 108 => true
  | 109 => true
  | 110 => false
  | 111 => true
  | 112 => true
  | 113 => false
  | 114 => true
  | 115 => true
  | 116 => true
  | 117 => true
  | 118 => true
  | 119 => true
  | 120 => true
  | 121 => false
  | 122 => false
  | 123 => false
  | 124 => false
  | 125 => false
  | 126 => false
  | 127 => false
  | 128 => false
  | 129 => true
  | 130 => true
  | 131 => true
  | 132 => false
  | 133 => true
  | 134 => true
  | 135 => false
  | 136 => true
  | 137 => true
  | 138 => true
  | 139 => true
  | 140 => true
  | 141 => true
  | 142 => true
  | 143 => true
  | 144 => true
  | 145 => true
  | 146 => true
  | 147 => true
  | 148 => true
  | 149 => true
  | 150 => true
  | 151 => true
  | 152 => true
  | 153 => true
  | 154 => true
  | 155 => true
  | 156 => true
  | 157 => true
  | 158 => true
  | 159 => true
  | 160 => true
  | 161 => true
  | 162 => true
  | 163 => true
  | 164 => true
  | 165 => true
  | 166 => true
  | 167 => true
  | 168 => true
  | 169 => true
  | 170 => true
  | 171 => true
  | 172 => true
  | 173 => true
  | 174 => true
  | 175 => true
  | 176 => true
  | 177 => true
  | 178 => true
  | 179 => true
  | 180 => true
  | 181 => true
  | 182 => true
  | 183 => true
  | 184 => true
  | 185 => true
  | 186 => true
  | 187 => true
  | 188 => true
  | 189 => true
  | 190 => true
  | 191 => true
  | 192 => true
  | 193 => true
  | 194 => true
  | 195 => true
  | 196 => true
  | 197 => true
  | 198 => false
  | _ => false
def xcow : Nat → Bool
  | 0 => false
  | 1 => false
  | 2 => false
  | 3 => false
  | 4 => false
  | 5 => false
  | 6 => false
  | 7 => false
  | 8 => false
  | 9 => false
  | 10 => false
  | 11 => false
  | 12 => false
  | 13 => false
  | 14 => false
  | 15 => false
  | 16 => false
  | 17 => false
  | 18 => false
  | 19 => false
  | 20 => false
  | 21 => false
  | 22 => false
  | 23 => false
  | 24 => false
  | 25 => false
  | 26 => false
  | 27 => false
  | 28 => false
  | 29 => false
  | 30 => false
  | 31 => false
  | 32 => false
  | 33 => false
  | 34 => false
  | 35 => false
  | 36 => false
  | 37 => false
  | 38 => false
  | 39 => false
  | 40 => false
  | 41 => false
  | 42 => false
  | 43 => false
  | 44 => false
  | 45 => false
  | 46 => false
  | 47 => false
  | 48 => false
  | 49 => false
  | 50 => false
  | 51 => false
  | 52 => false
  | 53 => false
  | 54 => false
  | 55 => false
  | 56 => false
  | 57 => false
  | 58 => false
  | 59 => false
  | 60 => false
  | 61 => false
  | 62 => false
  | 63 => false
  | 64 => false
  | 65 => false
  | 66 => false
  | 67 => false
  | 68 => true
  | 69 => false
  | 70 => false
  | 71 => false
  | 72 => true
  | 73 => false
  | 74 => false
  | 75 => true
  | 76 => false
  | 77 => false
  | 78 => false
  | 79 => false
  | 80 => false
  | 81 => true
  | 82 => false
  | 83 => false
  | 84 => false
  | 85 => true
  | 86 => false
  | 87 => false
  | 88 => false
  | 89 => false
  | 90 => false
  | 91 => true
  | 92 => false
  | 93 => true
  | 94 => false
  | 95 => false
  | 96 => false
  | 97 => false
  | 98 => false
  | 99 => true
  | 100 => false
  | 101 => false
  | 102 => true
  | 103 => false
  | 104 => false
  | 105 => false
  | 106 => true
  | 107 => false
  | 108 => false
  | 109 => false
  | 110 => true
  | 111 => false
  | 112 => false
  | 113 => true
  | 114 => false
  | 115 => false
  | 116 => false
  | 117 => false
  | 118 => false
  | 119 => false
  | 120 => false
  | 121 => true
  | 122 => true
  | 123 => true
  | 124 => true
  | 125 => true
  | 126 => true
  | 127 => true
  | 128 => true
  | 129 => false
  | 130 => false
  | 131 => false
  | 132 => true
  | 133 => false
  | 134 => false
  | 135 => true
  | 136 => false
  | 137 => false
  | 138 => false
  | 139 => false
  | 140 => false
  | 141 => false
  | 142 => false
  | 143 => false
  | 144 => false
  | 145 => false
  | 146 => false
  | 147 => false
  | 148 => false
  | 149 => false
  | 150 => false
  | 151 => false
  | 152 => false
  | 153 => false
  | 154 => false
  | 155 => false
  | 156 => false
  | 157 => false
  | 158 => false
  | 159 => false
  | 160 => false
  | 161 => false
  | 162 => false
  | 163 => false
  | 164 => false
  | 165 => false
  | 166 => false
  | 167 => false
  | 168 => false
  | 169 => false
  | 170 => false
  | 171 => false
  | 172 => false
  | 173 => false
  | 174 => false
  | 175 => false
  | 176 => false
  | 177 => false
  | 178 => false
  | 179 => false
  | 180 => false
  | 181 => false
  | 182 => false
  | 183 => false
  | 184 => false
  | 185 => false
  | 186 => false
  | 187 => false
  | 188 => false
  | 189 => false
  | 190 => false
  | 191 => false
  | 192 => false
  | 193 => false
  | 194 => false
  | 195 => false
  | 196 => false
  | 197 => false
  | 198 => false
  | _ => false
def xmh : Nat → List (Nat × Nat × Nat × Nat)
  | 0 => []
  | 1 => []
  | 2 => []
  | 3 => []
  | 4 => []
  | 5 => []
  | 6 => []
  | 7 => []
  | 8 => []
  | 9 => []
  | 10 => []
  | 11 => []
  | 12 => []
  | 13 => []
  | 14 => []
  | 15 => []
  | 16 => []
  | 17 => []
  | 18 => []
  | 19 => []
  | 20 => []
  | 21 => []
  | 22 => []
  | 23 => []
  | 24 => []
  | 25 => []
  | 26 => []
  | 27 => []
  | 28 => []
  | 29 => []
  | 30 => []
  | 31 => []
  | 32 => []
  | 33 => []
  | 34 => []
  | 35 => []
  | 36 => []
  | 37 => []
  | 38 => []
  | 39 => []
  | 40 => []
  | 41 => []
  | 42 => []
  | 43 => []
  | 44 => []
  | 45 => []
  | 46 => []
  | 47 => []
  | 48 => []
  | 49 => []
  | 50 => []
  | 51 => []
  | 52 => []
  | 53 => []
  | 54 => []
  | 55 => []
  | 56 => []
  | 57 => []
  | 58 => []
  | 59 => []
  | 60 => []
  | 61 => []
  | 62 => []
  | 63 => []
  | 64 => []
  | 65 => []
  | 66 => []
  | 67 => []
  | 68 => [(0, 9, 12, 13), (0, 9, 15, 15)]
  | 69 => []
  | 70 => []
  | 71 => []
  | 72 => [(0, 9, 12, 13), (0, 9, 15, 15)]
  | 73 => []
  | 74 => []
  | 75 => [(0, 10, 13, 13), (0, 10, 17, 15)]
  | 76 => []
  | 77 => []
  | 78 => []
  | 79 => []
  | 80 => []
  | 81 => [(0, 10, 13, 13), (0, 10, 17, 15)]
  | 82 => []
  | 83 => []
  | 84 => []
  | 85 => [(0, 8, 11, 15)]
  | 86 => []
  | 87 => []
  | 88 => []
  | 89 => []
  | 90 => []
  | 91 => [(0, 12, 15, 35), (0, 12, 19, 13)]
  | 92 => []
  | 93 => [(0, 8, 11, 15)]
  | 94 => []
  | 95 => []
  | 96 => []
  | 97 => []
  | 98 => []
  | 99 => [(0, 8, 11, 15)]
  | 100 => []
  | 101 => []
  | 102 => [(0, 12, 15, 35), (0, 12, 19, 13)]
  | 103 => []
  | 104 => []
  | 105 => []
  | 106 => [(0, 10, 13, 35)]
  | 107 => []
  | 108 => []
  | 109 => []
  | 110 => [(0, 19, 22, 35)]
  | 111 => []
  | 112 => []
  | 113 => [(0, 8, 11, 15)]
  | 114 => []
  | 115 => []
  | 116 => []
  | 117 => []
  | 118 => []
  | 119 => []
  | 120 => []
  | 121 => [(0, 10, 13, 35), (0, 10, 17, 13)]
  | 122 => [(0, 10, 13, 35)]
  | 123 => [(0, 10, 13, 35), (0, 10, 17, 13)]
  | 124 => [(0, 12, 15, 35), (0, 12, 19, 13)]
  | 125 => [(0, 12, 15, 35), (0, 12, 19, 13)]
  | 126 => [(0, 10, 13, 35), (0, 10, 17, 13)]
  | 127 => [(0, 9, 12, 13)]
  | 128 => [(0, 16, 19, 35)]
  | 129 => []
  | 130 => []
  | 131 => []
  | 132 => [(0, 12, 15, 35)]
  | 133 => []
  | 134 => []
  | 135 => [(0, 10, 13, 35), (0, 10, 17, 13)]
  | 136 => []
  | 137 => []
  | 138 => []
  | 139 => []
  | 140 => []
  | 141 => []
  | 142 => []
  | 143 => []
  | 144 => []
  | 145 => []
  | 146 => []
  | 147 => []
  | 148 => []
  | 149 => []
  | 150 => []
  | 151 => []
  | 152 => []
  | 153 => []
  | 154 => []
  | 155 => []
  | 156 => []
  | 157 => []
  | 158 => []
  | 159 => []
  | 160 => []
  | 161 => []
  | 162 => []
  | 163 => []
  | 164 => []
  | 165 => []
  | 166 => []
  | 167 => []
  | 168 => []
  | 169 => []
  | 170 => []
  | 171 => []
  | 172 => []
  | 173 => []
  | 174 => []
  | 175 => []
  | 176 => []
  | 177 => []
  | 178 => []
  | 179 => []
  | 180 => []
  | 181 => []
  | 182 => []
  | 183 => []
  | 184 => []
  | 185 => []
  | 186 => []
  | 187 => []
  | 188 => []
  | 189 => []
  | 190 => []
  | 191 => []
  | 192 => []
  | 193 => []
  | 194 => []
  | 195 => []
  | 196 => []
  | 197 => []
  | 198 => []
  | _ => []
def xcowT : List (Nat × Nat) := [(68, 706), (72, 740), (75, 753), (81, 785), (85, 803), (91, 832), (93, 844), (99, 871), (102, 885), (106, 904), (110, 922), (113, 935), (121, 976), (122, 980), (123, 984), (124, 988), (125, 992), (126, 996), (127, 1000), (128, 1004), (132, 1019), (135, 1031)]
def xal : Bool := true
def xgstT : Nat → List (Nat × Nat)
  | 12 => [(39, 1057)]
  | _ => []
def xitfT : Nat → List (Nat × Nat × Nat × Nat × Nat × Nat)
  | 11 => [(167, 175, 1395, 1398, 1400, 66)]
  | _ => []
def xncT : List (String × String) := [("java/lang/IllegalStateException", "java/lang/IllegalArgumentException"), ("java/lang/IndexOutOfBoundsException", "java/lang/IllegalArgumentException"), ("java/lang/IllegalArgumentException", "java/lang/IllegalStateException"), ("java/lang/IndexOutOfBoundsException", "java/lang/IllegalStateException"), ("java/lang/IllegalArgumentException", "java/lang/IndexOutOfBoundsException"), ("java/lang/IllegalStateException", "java/lang/IndexOutOfBoundsException")]
def xini : Nat → Bool
  | 0 => true
  | 1 => true
  | 2 => true
  | 3 => true
  | 4 => true
  | 5 => true
  | 6 => true
  | 7 => false
  | 8 => true
  | 9 => true
  | 10 => true
  | 11 => false
  | 12 => false
  | 13 => false
  | 14 => false
  | 15 => false
  | 16 => false
  | 17 => false
  | 18 => false
  | 19 => false
  | 20 => false
  | 21 => false
  | 22 => false
  | 23 => false
  | 24 => false
  | 25 => false
  | 26 => false
  | 27 => false
  | 28 => false
  | 29 => false
  | 30 => false
  | 31 => false
  | 32 => false
  | 33 => false
  | 34 => false
  | 35 => false
  | 36 => false
  | 37 => false
  | 38 => false
  | 39 => false
  | 40 => false
  | 41 => false
  | 42 => false
  | 43 => false
  | 44 => false
  | 45 => false
  | 46 => false
  | 47 => false
  | 48 => false
  | 49 => false
  | 50 => false
  | 51 => false
  | 52 => false
  | 53 => false
  | 54 => false
  | 55 => false
  | 56 => false
  | 57 => false
  | 58 => false
  | 59 => false
  | 60 => false
  | 61 => false
  | 62 => false
  | 63 => false
  | 64 => false
  | 65 => false
  | 66 => false
  | 67 => false
  | 68 => false
  | 69 => false
  | 70 => false
  | 71 => false
  | 72 => false
  | 73 => false
  | 74 => false
  | 75 => false
  | 76 => false
  | 77 => false
  | 78 => false
  | 79 => false
  | 80 => false
  | 81 => false
  | 82 => false
  | 83 => false
  | 84 => false
  | 85 => false
  | 86 => false
  | 87 => false
  | 88 => false
  | 89 => false
  | 90 => false
  | 91 => false
  | 92 => false
  | 93 => false
  | 94 => false
  | 95 => false
  | 96 => false
  | 97 => false
  | 98 => false
  | 99 => false
  | 100 => false
  | 101 => false
  | 102 => false
  | 103 => false
  | 104 => false
  | 105 => false
  | 106 => false
  | 107 => false
  | 108 => false
  | 109 => false
  | 110 => false
  | 111 => false
  | 112 => false
  | 113 => false
  | 114 => false
  | 115 => false
  | 116 => false
  | 117 => false
  | 118 => false
  | 119 => false
  | 120 => false
  | 121 => false
  | 122 => false
  | 123 => false
  | 124 => false
  | 125 => false
  | 126 => false
  | 127 => false
  | 128 => false
  | 129 => false
  | 130 => false
  | 131 => false
  | 132 => false
  | 133 => false
  | 134 => false
  | 135 => false
  | 136 => false
  | 137 => true
  | 138 => true
  | 139 => true
  | 140 => true
  | 141 => false
  | 142 => false
  | 143 => false
  | 144 => false
  | 145 => false
  | 146 => false
  | 147 => false
  | 148 => false
  | 149 => false
  | 150 => false
  | 151 => false
  | 152 => false
  | 153 => false
  | 154 => false
  | 155 => false
  | 156 => false
  | 157 => false
  | 158 => false
  | 159 => false
  | 160 => false
  | 161 => false
  | 162 => false
  | 163 => false
  | 164 => false
  | 165 => false
  | 166 => true
  | 167 => false
  | 168 => false
  | 169 => false
  | 170 => false
  | 171 => false
  | 172 => false
  | 173 => false
  | 174 => false
  | 175 => false
  | 176 => false
  | 177 => false
  | 178 => false
  | 179 => false
  | 180 => false
  | 181 => false
  | 182 => false
  | 183 => false
  | 184 => false
  | 185 => false
  | 186 => false
  | 187 => false
  | 188 => false
  | 189 => false
  | 190 => false
  | 191 => false
  | 192 => false
  | 193 => false
  | 194 => false
  | 195 => false
  | 196 => false
  | 197 => false
  | 198 => false
  | _ => false
def xthrT : Nat → List (Nat × Nat × Nat × Nat × Nat × Nat × Nat × Nat)
  | 49 => [(161, 13, 90, 323, 94, 1, 541, 70)]
  | 53 => [(158, 13, 90, 273, 94, 1, 541, 70)]
  | 54 => [(15, 14, 147, 374, 151, 1, 621, 73)]
  | 59 => [(76, 13, 90, 317, 94, 1, 541, 70)]
  | 60 => [(21, 14, 147, 376, 151, 1, 621, 73)]
  | 62 => [(76, 13, 90, 306, 94, 1, 541, 70)]
  | 63 => [(15, 14, 147, 378, 151, 1, 621, 73)]
  | 64 => [(26, 13, 90, 294, 94, 1, 541, 70)]
  | 66 => [(15, 14, 147, 280, 151, 1, 621, 73), (109, 13, 90, 289, 94, 1, 541, 70)]
  | 69 => [(16, 15, 62, 64, 66, 0, 717, 71)]
  | 70 => [(10, 13, 90, 372, 94, 1, 541, 70)]
  | 73 => [(26, 15, 62, 78, 66, 0, 717, 71)]
  | 76 => [(19, 13, 90, 92, 94, 0, 541, 70), (39, 13, 90, 95, 94, 0, 541, 70), (83, 15, 62, 103, 66, 0, 717, 71)]
  | 82 => [(16, 13, 90, 109, 94, 0, 541, 70), (67, 15, 62, 120, 66, 0, 717, 71)]
  | 86 => [(27, 15, 62, 134, 66, 0, 717, 71)]
  | 92 => [(39, 14, 147, 149, 151, 0, 621, 73), (77, 13, 90, 155, 94, 0, 541, 70)]
  | 94 => [(27, 15, 62, 170, 66, 0, 717, 71)]
  | 100 => [(44, 15, 62, 181, 66, 0, 717, 71)]
  | 103 => [(21, 14, 147, 190, 151, 0, 621, 73), (47, 13, 90, 198, 94, 0, 541, 70)]
  | 108 => [(19, 14, 147, 383, 151, 1, 621, 73)]
  | 114 => [(7, 15, 62, 225, 66, 0, 717, 71)]
  | 136 => [(16, 13, 90, 332, 94, 1, 541, 70)]
  | _ => []
def xmulT : Nat → List (Nat × Nat × Nat)
  | 10 => [(23, 3, 1263)]
  | 11 => [(22, 3, 1043), (46, 4, 1071), (51, 5, 1073)]
  | _ => []
def xstrT : List (Nat × Nat × String) := [(9, 64, "there are 10 couples"), (9, 78, "there are 7 judges, or an event is open"), (9, 92, "these are not three couples or more"), (9, 95, "dances are 1 to 5"), (9, 103, "an event is open, or too few judges are free"), (9, 109, "a quota is 2 at least, a size 2 to 6"), (9, 120, "no round can begin, or not with this quota"), (9, 134, "no dance is left in a round"), (9, 149, "no such judge or dance in a round"), (9, 155, "crosses go to as many as the quota, all of them in"), (9, 170, "no round was danced to its end"), (9, 181, "no final can begin"), (9, 190, "no such judge in a final"), (9, 198, "marks are 1 to n, each once"), (9, 225, "no final has begun"), (9, 273, "what is 0 to 7"), (9, 280, "no such judge"), (9, 289, "what is 0 to 3"), (9, 294, "no such place"), (9, 306, "what is 0 or 1"), (9, 317, "what is 0 to 2"), (9, 323, "what is 0 to 10"), (9, 332, "judges are a set of 0 to 127"), (9, 372, "a club is 0 to 5"), (9, 374, "no such couple"), (9, 376, "no such couple in a final"), (9, 378, "no such dance"), (9, 383, "no such sheet in a final")]
end XT
end
section
/-! a machine on lists: what the bytecode does, on labels instead of addresses -/
section XM
/-- a cell: its kind (a class' number, or 100 and an array type's), what it holds -/
abbrev xE : Type := Nat × List Value
abbrev xH : Type := List xE
abbrev xL : Type := List (Nat × Value)
abbrev xC : Type := Nat × xL × List Value × xH × Nat
/-- where a label's cell lies: the first four are old things, the others new ones, one behind the other -/
def xad (old : Nat → Nat) (n0 k : Nat) : Nat := if k < 4 then old k else n0 + (k - 4)
def xv (ad : Nat → Nat) (v : Value) : Value := match v with
  | .ref k => .ref (ad k)
  | w => w
theorem xv_cat (ad : Nat → Nat) (v : Value) : (xv ad v).category = v.category := by cases v <;> rfl
def xm (ad : Nat → Nat) (lv : xL) : xL := lv.map (fun q => (q.1, xv ad q.2))
def xlk (i : Nat) : xL → Option Value
  | [] => none
  | (j, v) :: r => bif Nat.beq j i then some v else xlk i r
theorem xlk_mem {i : Nat} {v : Value} : ∀ {lv : xL}, xlk i lv = some v → (i, v) ∈ lv
  | [], h => by cases h
  | (j, w) :: r, h => by
    unfold xlk at h
    cases hb : Nat.beq j i with
    | true =>
      rw [hb] at h
      have e : j = i := Nat.eq_of_beq_eq_true hb
      subst e
      cases h
      exact List.mem_cons_self
    | false =>
      rw [hb] at h
      exact List.mem_cons_of_mem _ (xlk_mem h)
theorem xlk_has {ls : Array Slot} {nL i : Nat} {v : Value} {lv : xL} {ad : Nat → Nat} (h : xlk i lv = some v) (hl : lv_has ls nL (xm ad lv)) : ls[i]? = some (.val (xv ad v)) :=
  hl.2.2 (i, xv ad v) (List.mem_map.mpr ⟨(i, v), xlk_mem h, rfl⟩)
theorem xlk_at {i : Nat} {v : Value} {lv : xL} {ad : Nat → Nat} (h : xlk i lv = some v) : ∃ k : Nat, (xm ad lv)[k]? = some (i, xv ad v) :=
  List.getElem?_of_mem (List.mem_map.mpr ⟨(i, v), xlk_mem h, rfl⟩)
def xs1 (i : Nat) (v : Value) (lv : xL) : xL := (i, v) :: lv.filter (fun q => !(q.1 == i) && !(q.1 + 1 == i && q.2.category == 2))
def xs2 (i : Nat) (v : Value) (lv : xL) : xL := (i, v) :: lv.filter (fun q => !(q.1 == i) && (!(q.1 == i + 1) && !(q.1 + 1 == i && q.2.category == 2)))
theorem xs1_m (i : Nat) (v : Value) (lv : xL) (ad : Nat → Nat) : (i, xv ad v) :: (xm ad lv).filter (fun q => !(q.1 == i) && !(q.1 + 1 == i && q.2.category == 2)) = xm ad (xs1 i v lv) := by
  simp only [xm, xs1, List.map_cons, List.filter_map, Function.comp_def, xv_cat]
theorem xs2_m (i : Nat) (v : Value) (lv : xL) (ad : Nat → Nat) : (i, xv ad v) :: (xm ad lv).filter (fun q => !(q.1 == i) && (!(q.1 == i + 1) && !(q.1 + 1 == i && q.2.category == 2))) = xm ad (xs2 i v lv) := by
  simp only [xm, xs2, List.map_cons, List.filter_map, Function.comp_def, xv_cat]
def xfnd {β : Type} : List (Nat × β) → Nat → Option β
  | [], _ => none
  | (j, b) :: r, i => bif Nat.beq j i then some b else xfnd r i
theorem xfnd_mem {β : Type} {i : Nat} {b : β} : ∀ {l : List (Nat × β)}, xfnd l i = some b → (i, b) ∈ l
  | [], h => by cases h
  | (j, w) :: r, h => by
    unfold xfnd at h
    cases hb : Nat.beq j i with
    | true =>
      rw [hb] at h
      have e : j = i := Nat.eq_of_beq_eq_true hb
      subst e
      cases h
      exact List.mem_cons_self
    | false =>
      rw [hb] at h
      exact List.mem_cons_of_mem _ (xfnd_mem h)
def xj (pc : Nat) (off : Int) : Option Nat := match (pc : Int) + off with
  | .ofNat t => some t
  | _ => none
theorem xj_eq {pc t : Nat} {off : Int} (h : xj pc off = some t) : (pc : Int) + off = (t : Int) := by
  unfold xj at h
  split at h
  · cases h; assumption
  · cases h
def xcmp : ClassFile.Cond → Int32 → Int32 → Bool
  | .eq, x, y => decide (x = y)
  | .ne, x, y => !decide (x = y)
  | .lt, x, y => decide (x < y)
  | .ge, x, y => decide (y ≤ x)
  | .gt, x, y => decide (y < x)
  | .le, x, y => decide (x ≤ y)
def xget (h : xH) (a : Nat) : Option xE := bif Nat.ble 4 a then h[a - 4]? else none
def xset (h : xH) (a : Nat) (e : xE) : xH := h.set (a - 4) e
def xtT : Nat → FieldType
  | 0 => .int
  | 1 => .long
  | 2 => .boolean
  | 3 => .array .int
  | 4 => .array (.array .int)
  | 5 => .array .boolean
  | _ => .object "java/lang/Object"
def xlen : Instr → Nat
  | .bipush _ => 2
  | .ldc _ => 2
  | .iload _ => 2
  | .lload _ => 2
  | .dload _ => 2
  | .aload _ => 2
  | .istore _ => 2
  | .lstore _ => 2
  | .dstore _ => 2
  | .astore _ => 2
  | .newarray _ => 2
  | .sipush _ => 3
  | .ldc_w _ => 3
  | .ldc2_w _ => 3
  | .iinc _ _ => 3
  | .if_icmp _ _ => 3
  | .ifCond _ _ => 3
  | .goto _ => 3
  | .ifnull _ => 3
  | .ifnonnull _ => 3
  | .getfield _ => 3
  | .putfield _ => 3
  | .getstatic _ => 3
  | .new _ => 3
  | .anewarray _ => 3
  | .checkcast _ => 3
  | .invokevirtual _ => 3
  | .invokespecial _ => 3
  | .invokestatic _ => 3
  | .multianewarray _ _ => 4
  | .invokeinterface _ _ => 5
  | .tableswitch _ _ _ _ => 0
  | .lookupswitch _ _ => 0
  | _ => 1
def xix (x : Int32) (n : Nat) : Option Nat := if x < 0 then none else if n ≤ x.toNatClampNeg then none else some x.toNatClampNeg
theorem xix_in {x : Int32} {n k : Nat} (h : xix x n = some k) : ¬ (x < 0 ∨ n ≤ x.toNatClampNeg) ∧ x.toNatClampNeg = k := by
  unfold xix at h
  split at h
  · cases h
  · split at h
    · cases h
    · cases h
      exact ⟨fun q => q.elim (by assumption) (by assumption), rfl⟩
def xati : ArrayType → Option Nat
  | .int => some 0
  | .long => some 1
  | .boolean => some 2
  | _ => none
def xdv : Nat → Value
  | 0 => .int 0
  | 1 => .long 0
  | 2 => .int 0
  | _ => .null
end XM
end
section
/-! one instruction on lists -/
section XS
def xstep (o nL : Nat) (ini : Bool) (sc : Option (List Int32)) (i : Instr) (pc : Nat) (lv : xL) (st : List Value) (h : xH) (ks : Nat) : Option xC := match i with
  | .iconst n => some (pc + 1, lv, .int (Int32.ofInt n) :: st, h, ks)
  | .bipush n => some (pc + 2, lv, .int (Int8.ofInt n).toInt32 :: st, h, ks)
  | .sipush n => some (pc + 3, lv, .int (Int16.ofInt n).toInt32 :: st, h, ks)
  | .lconst n => some (pc + 1, lv, .long (Int64.ofNat (n : Nat)) :: st, h, ks)
  | .dconst n => some (pc + 1, lv, .double ((if n = 0 then FP.dconst0 else FP.dconst1)) :: st, h, ks)
  | .aconst_null => some (pc + 1, lv, .null :: st, h, ks)
  | .ldc x => match xfnd (xconT o) x with | some (v, _) => some (pc + 2, lv, .int v :: st, h, ks) | none => none
  | .ldc_w x => match xfnd (xconT o) x with | some (v, _) => some (pc + 3, lv, .int v :: st, h, ks) | none => none
  | .ldc2_w x => match xfnd (xcolT o) x with | some (v, _) => some (pc + 3, lv, .long v :: st, h, ks) | none => none
  | .iload_n k => match xlk k lv with | some (.int x) => some (pc + 1, lv, .int x :: st, h, ks) | _ => none
  | .iload k => match xlk k lv with | some (.int x) => some (pc + 2, lv, .int x :: st, h, ks) | _ => none
  | .lload_n k => match xlk k lv with | some (.long x) => some (pc + 1, lv, .long x :: st, h, ks) | _ => none
  | .lload k => match xlk k lv with | some (.long x) => some (pc + 2, lv, .long x :: st, h, ks) | _ => none
  | .dload k => match xlk k lv with | some (.double x) => some (pc + 2, lv, .double x :: st, h, ks) | _ => none
  | .aload_n k => match xlk k lv with | some (.ref x) => some (pc + 1, lv, .ref x :: st, h, ks) | _ => none
  | .aload k => match xlk k lv with | some (.ref x) => some (pc + 2, lv, .ref x :: st, h, ks) | _ => none
  | .istore_n k => match st with | .int x :: st => if (k : Nat) < nL then some (pc + 1, xs1 k (.int x) lv, st, h, ks) else none | _ => none
  | .istore k => match st with | .int x :: st => if (k : Nat) < nL then some (pc + 2, xs1 k (.int x) lv, st, h, ks) else none | _ => none
  | .astore_n k => match st with | .ref x :: st => if (k : Nat) < nL then some (pc + 1, xs1 k (.ref x) lv, st, h, ks) else none | _ => none
  | .astore k => match st with | .ref x :: st => if (k : Nat) < nL then some (pc + 2, xs1 k (.ref x) lv, st, h, ks) else none | _ => none
  | .lstore_n k => match st with | .long x :: st => if (k : Nat) + 1 < nL then some (pc + 1, xs2 k (.long x) lv, st, h, ks) else none | _ => none
  | .lstore k => match st with | .long x :: st => if (k : Nat) + 1 < nL then some (pc + 2, xs2 k (.long x) lv, st, h, ks) else none | _ => none
  | .dstore k => match st with | .double x :: st => if (k : Nat) + 1 < nL then some (pc + 2, xs2 k (.double x) lv, st, h, ks) else none | _ => none
  | .iinc k n => match xlk k lv with | some (.int x) => if (k : Nat) < nL then some (pc + 3, xs1 k (.int (x + Int32.ofInt n)) lv, st, h, ks) else none | _ => none
  | .iadd => match st with | .int y :: .int x :: st => some (pc + 1, lv, .int (x + y) :: st, h, ks) | _ => none
  | .isub => match st with | .int y :: .int x :: st => some (pc + 1, lv, .int (x - y) :: st, h, ks) | _ => none
  | .imul => match st with | .int y :: .int x :: st => some (pc + 1, lv, .int (x * y) :: st, h, ks) | _ => none
  | .idiv => match st with | .int y :: .int x :: st => if y = 0 then none else some (pc + 1, lv, .int (x / y) :: st, h, ks) | _ => none
  | .irem => match st with | .int y :: .int x :: st => if y = 0 then none else some (pc + 1, lv, .int (x - x / y * y) :: st, h, ks) | _ => none
  | .ineg => match st with | .int x :: st => some (pc + 1, lv, .int (-x) :: st, h, ks) | _ => none
  | .iand => match st with | .int y :: .int x :: st => some (pc + 1, lv, .int (x &&& y) :: st, h, ks) | _ => none
  | .ior => match st with | .int y :: .int x :: st => some (pc + 1, lv, .int (x ||| y) :: st, h, ks) | _ => none
  | .ixor => match st with | .int y :: .int x :: st => some (pc + 1, lv, .int (x ^^^ y) :: st, h, ks) | _ => none
  | .ishl => match st with | .int y :: .int x :: st => some (pc + 1, lv, .int (x <<< (y &&& 31)) :: st, h, ks) | _ => none
  | .ishr => match st with | .int y :: .int x :: st => some (pc + 1, lv, .int (x >>> (y &&& 31)) :: st, h, ks) | _ => none
  | .iushr => match st with | .int y :: .int x :: st => some (pc + 1, lv, .int (x.toUInt32 >>> (y.toUInt32 &&& Int32.toUInt32 31)).toInt32 :: st, h, ks) | _ => none
  | .ladd => match st with | .long y :: .long x :: st => some (pc + 1, lv, .long (x + y) :: st, h, ks) | _ => none
  | .lmul => match st with | .long y :: .long x :: st => some (pc + 1, lv, .long (x * y) :: st, h, ks) | _ => none
  | .lcmp => match st with | .long y :: .long x :: st => some (pc + 1, lv, .int (lg_cmp x y) :: st, h, ks) | _ => none
  | .dcmp op => match st with | .double y :: .double x :: st => some (pc + 1, lv, .int (Op.cmpValue (FP.dcmp x y) op) :: st, h, ks) | _ => none
  | .i2l => match st with | .int x :: st => some (pc + 1, lv, .long x.toInt64 :: st, h, ks) | _ => none
  | .dup => match st with | x :: st => if x.category = 1 then some (pc + 1, lv, x :: x :: st, h, ks) else none | _ => none
  | .pop => match st with | x :: st => if x.category = 1 then some (pc + 1, lv, st, h, ks) else none | _ => none
  | .dup_x1 => match st with | x :: y :: st => if x.category = 1 then if y.category = 1 then some (pc + 1, lv, x :: y :: x :: st, h, ks) else none else none | _ => none
  | .dup2 => match st with | x :: y :: st => if x.category = 1 then if y.category = 1 then some (pc + 1, lv, x :: y :: x :: y :: st, h, ks) else none else none | _ => none
  | .if_icmp c off => match st with
    | .int y :: .int x :: st => match xj pc off with | some t => bif xcmp c x y then some (t, lv, st, h, ks) else some (pc + 3, lv, st, h, ks) | none => none
    | _ => none
  | .ifCond c off => match st with
    | .int x :: st => match xj pc off with | some t => bif xcmp c x 0 then some (t, lv, st, h, ks) else some (pc + 3, lv, st, h, ks) | none => none
    | _ => none
  | .goto off => match xj pc off with | some t => some (t, lv, st, h, ks) | none => none
  | .tableswitch d lo hi offs => match st with
    | .int x :: st => if x.toInt < lo then (match xj pc d with | some t => some (t, lv, st, h, ks) | none => none) else
        if hi < x.toInt then (match xj pc d with | some t => some (t, lv, st, h, ks) | none => none) else
        match offs[(x.toInt - lo).toNat]? with
        | some off => (match xj pc off with | some t => some (t, lv, st, h, ks) | none => none)
        | none => none
    | _ => none
  | .lookupswitch d ps => match st with
    | .int x :: st => bif (ps.toList.zip (ps.toList.drop 1)).all (fun (a, next) => a.1 < next.1) then
        (match xj pc (Op.lookupswitch.offset ps.toList d x.toInt) with | some t => some (t, lv, st, h, ks) | none => none) else none
    | _ => none
  | .getfield x => match st with
    | .ref a :: st => match xfnd (xfldT o) x with
      | some (ci, k, _, _) => match xget h a with
        | some (t, fs) => if t = ci then (match fs[k]? with | some v => some (pc + 3, lv, v :: st, h, ks) | none => none) else none
        | none => none
      | none => none
    | _ => none
  | .putfield x => match st with
    | v :: .ref a :: st => match xfnd (xfldT o) x with
      | some (ci, k, kd, _) => match xget h a with
        | some (t, fs) => match xcl[ci]? with
          | some (_, T, _) => if t = ci ∧ k < fs.length ∧ narrow (xtyf ci k) v = v ∧ fits (xtyf ci k) v = true ∧ ((T k).2.2.2 = false ∨ (ini = true ∧ kd = 0 ∧ (T k).1 = xown o)) then some (pc + 3, lv, st, xset h a (t, fs.set k v), ks) else none
          | none => none
        | none => none
      | none => none
    | _ => none
  | .new x => match xfnd (xnewT o) x with
    | some (ci, _) => match xcl[ci]? with
      | some (_, _, N) => if 0 < N then some (pc + 3, lv, .ref (h.length + 4) :: st, h ++ [(ci, xdef ci)], ks + N) else none
      | none => none
    | none => none
  | .newarray aty => match st with
    | .int n :: st => match xati aty with
      | some t => if n < 0 then none else if n.toNatClampNeg * componentBytes (xtT t) ≤ 536870912 then some (pc + 2, lv, .ref (h.length + 4) :: st, h ++ [(100 + t, List.replicate n.toNatClampNeg (xdv t))], ks + n.toNatClampNeg) else none
      | none => none
    | _ => none
  | .arraylength => match st with
    | .ref a :: st => match xget h a with
      | some (t, vs) => if 100 ≤ t ∧ t < 106 then some (pc + 1, lv, .int (Int32.ofNat vs.length) :: st, h, ks) else none
      | none => match sc with
        | some l => if a = 0 then some (pc + 1, lv, .int (Int32.ofNat l.length) :: st, h, ks) else none
        | none => none
    | _ => none
  | .iaload => match st with
    | .int x :: .ref a :: st => match xget h a with
      | some (t, vs) => if t = 100 then (match xix x vs.length with | some k => (match vs[k]? with | some v => some (pc + 1, lv, v :: st, h, ks) | none => none) | none => none) else none
      | none => match sc with
        | some l => if a = 0 then (match xix x l.length with | some k => some (pc + 1, lv, .int (l.getD k 0) :: st, h, ks) | none => none) else none
        | none => none
    | _ => none
  | .laload => match st with
    | .int x :: .ref a :: st => match xget h a with
      | some (t, vs) => if t = 101 then (match xix x vs.length with | some k => (match vs[k]? with | some v => some (pc + 1, lv, v :: st, h, ks) | none => none) | none => none) else none
      | none => none
    | _ => none
  | .baload => match st with
    | .int x :: .ref a :: st => match xget h a with
      | some (t, vs) => if t = 102 then (match xix x vs.length with | some k => (match vs[k]? with | some v => some (pc + 1, lv, v :: st, h, ks) | none => none) | none => none) else none
      | none => none
    | _ => none
  | .aaload => match st with
    | .int x :: .ref a :: st => match xget h a with
      | some (t, vs) => if 103 ≤ t ∧ t < 106 then (match xix x vs.length with | some k => (match vs[k]? with | some v => some (pc + 1, lv, v :: st, h, ks) | none => none) | none => none) else none
      | none => none
    | _ => none
  | .iastore => match st with
    | .int v :: .int x :: .ref a :: st => match xget h a with
      | some (t, vs) => if t = 100 then (match xix x vs.length with | some k => some (pc + 1, lv, st, xset h a (t, vs.set k (.int v)), ks) | none => none) else none
      | none => none
    | _ => none
  | .lastore => match st with
    | .long v :: .int x :: .ref a :: st => match xget h a with
      | some (t, vs) => if t = 101 then (match xix x vs.length with | some k => some (pc + 1, lv, st, xset h a (t, vs.set k (.long v)), ks) | none => none) else none
      | none => none
    | _ => none
  | .bastore => match st with
    | .int v :: .int x :: .ref a :: st => match xget h a with
      | some (t, vs) => if t = 102 then (match xix x vs.length with | some k => some (pc + 1, lv, st, xset h a (t, vs.set k (narrow .boolean (.int v))), ks) | none => none) else none
      | none => none
    | _ => none
  | .aastore => match st with
    | .ref v :: .int x :: .ref a :: st => match xget h a, xget h v with
      | some (t, vs), some (t2, _) => if (t = 103 ∧ t2 = 100) ∨ (t = 104 ∧ t2 = 103) ∨ (t = 105 ∧ t2 = 102) then (match xix x vs.length with | some k => some (pc + 1, lv, st, xset h a (t, vs.set k (.ref v)), ks) | none => none) else none
      | _, _ => none
    | _ => none
  | _ => none
end XS
end
section
/-! what the tables say, checked by program -/
section XF
def xnwB : Jvm.Cond → Bool
  | .fieldLinkNest _ _ _ _ _ _ => true
  | .methodLinkNest _ _ _ _ => true
  | .castable _ _ => true
  | .declares _ => true
  | .arrayOver _ => true
  | _ => false
def xgw : List Jvm.Cond := lw_tbl.filter goodWord
def xnw : List Jvm.Cond := lw_tbl.filter xnwB
def xin (w : Jvm.Cond) (p : Nat) : Bool := decide (lw_tbl[p]? = some w)
def xig (w : Jvm.Cond) (p : Nat) : Bool := xin w p && goodWord w
def xinw (w : Jvm.Cond) (p : Nat) : Bool := xin w p && xnwB w
theorem xig_mem {w : Jvm.Cond} {p : Nat} (h : xig w p = true) : w ∈ xgw := by
  unfold xig xin at h
  simp only [Bool.and_eq_true, decide_eq_true_eq] at h
  exact List.mem_filter.mpr ⟨List.mem_of_getElem? h.1, h.2⟩
theorem xinw_mem {w : Jvm.Cond} {p : Nat} (h : xinw w p = true) : w ∈ xnw := by
  unfold xinw xin at h
  simp only [Bool.and_eq_true, decide_eq_true_eq] at h
  exact List.mem_filter.mpr ⟨List.mem_of_getElem? h.1, h.2⟩
theorem xgood {w : Jvm.Cond} (h : w ∈ xgw) : goodWord w = true := (List.mem_filter.mp h).2
-- fields
def xfldC (o : Nat) (q : Nat × Nat × Nat × Nat × Nat) : Bool := match xcl[q.2.1]? with
  | none => false
  | some (_, T, N) => decide (q.2.2.1 < N) && (if q.2.2.2.1 = 0 then xig (.fieldLink (xown o) q.1 (T q.2.2.1).1 (T q.2.2.1).2.1 (T q.2.2.1).2.2.1) q.2.2.2.2 else xinw (.fieldLinkNest (xown o) q.1 (T q.2.2.1).1 (T q.2.2.1).2.1 (T q.2.2.1).2.2.1 (xhost o)) q.2.2.2.2)
set_option maxRecDepth 100000 in
theorem xfld_all : ∀ o, o < xNO → (xfldT o).all (xfldC o) = true := by decide +kernel
theorem xfld_out {o : Nat} (h : ¬ o < xNO) : xfldT o = [] := by
  unfold xNO at h
  unfold xfldT
  split <;> first | omega | rfl
theorem xfld_ok {o x ci k kd p : Nat} (h : xfnd (xfldT o) x = some (ci, k, kd, p)) : ∃ (C : String) (T : u_T) (N : Nat), xcl[ci]? = some (C, T, N) ∧ k < N ∧
    (if kd = 0 then Jvm.Cond.fieldLink (xown o) x (T k).1 (T k).2.1 (T k).2.2.1 ∈ xgw else Jvm.Cond.fieldLinkNest (xown o) x (T k).1 (T k).2.1 (T k).2.2.1 (xhost o) ∈ xnw) := by
  have hm := xfnd_mem h
  by_cases ho : o < xNO
  · have h1 := List.all_eq_true.mp (xfld_all o ho) _ hm
    unfold xfldC at h1
    dsimp only at h1
    split at h1
    · cases h1
    · rename_i C T N hc
      simp only [Bool.and_eq_true, decide_eq_true_eq] at h1
      refine ⟨C, T, N, hc, h1.1, ?_⟩
      split
      · rename_i hk
        rw [if_pos hk] at h1
        exact xig_mem h1.2
      · rename_i hk
        rw [if_neg hk] at h1
        exact xinw_mem h1.2
  · rw [xfld_out ho] at hm
    cases hm
-- the classes' layouts
def xclsC (ci : Nat) : Bool := match xcl[ci]? with
  | none => true
  | some (C, T, N) => (List.range N).all (fun k => xlayT.any (fun q => q.1 == ci && q.2.1 == k && xig (u_lay C T k) q.2.2)) && (List.range N).all (fun k => decide (parseFieldDescriptor (T k).2.2.1 = some (xtyf ci k))) && (List.range N).all (fun a => (List.range N).all (fun b => decide (a = b) || decide ((T a).2.1 ≠ (T b).2.1))) && (List.range N).all (fun j => decide (defaultValue (xtyf ci j) = vp_V (xdef ci) j)) && decide ((xdef ci).length = N)
set_option maxRecDepth 100000 in
theorem xcls_all : (List.range xcl.length).all xclsC = true := by decide +kernel
theorem xcls_ok {ci : Nat} {C : String} {T : u_T} {N : Nat} (hc : xcl[ci]? = some (C, T, N)) : (∀ w ∈ u_ws C T N, w ∈ xgw) ∧ (∀ k, k < N → parseFieldDescriptor (T k).2.2.1 = some (xtyf ci k)) ∧ (∀ a, a < N → ∀ b, b < N → a ≠ b → (T a).2.1 ≠ (T b).2.1) ∧ (∀ j, j < N → defaultValue (xtyf ci j) = vp_V (xdef ci) j) ∧ (xdef ci).length = N := by
  have hlt : ci < xcl.length := (List.getElem?_eq_some_iff.mp hc).1
  have h := List.all_eq_true.mp xcls_all ci (List.mem_range.mpr hlt)
  unfold xclsC at h
  rw [hc] at h
  simp only [Bool.and_eq_true, decide_eq_true_eq, List.all_eq_true, List.mem_range, Bool.or_eq_true] at h
  obtain ⟨⟨⟨⟨h1, h2⟩, h3⟩, h4⟩, h5⟩ := h
  refine ⟨fun w hw => ?_, h2, fun a ha b hb hab => ?_, h4, h5⟩
  · obtain ⟨k, hk, rfl⟩ := List.mem_map.mp hw
    obtain ⟨q, -, hq⟩ := List.any_eq_true.mp (h1 k (List.mem_range.mp hk))
    simp only [Bool.and_eq_true] at hq
    exact xig_mem hq.2
  · rcases h3 a ha b hb with e | e
    · exact absurd e hab
    · exact e
-- new
def xnewC (o : Nat) (q : Nat × Nat × Nat × Nat × Nat) : Bool := match xcl[q.2.1]? with
  | none => false
  | some (C, _, N) => decide (N = 0) || (xig (.classLink (xown o) q.1 C) q.2.2.1 && xig (.instantiable C N) q.2.2.2.1 && xig (.initialized C) q.2.2.2.2)
set_option maxRecDepth 100000 in
theorem xnew_all : ∀ o, o < xNO → (xnewT o).all (xnewC o) = true := by decide +kernel
theorem xnew_out {o : Nat} (h : ¬ o < xNO) : xnewT o = [] := by
  unfold xNO at h
  unfold xnewT
  split <;> first | omega | rfl
theorem xnew_ok {o x ci : Nat} {r : Nat × Nat × Nat} {C : String} {T : u_T} {N : Nat} (h : xfnd (xnewT o) x = some (ci, r)) (hc : xcl[ci]? = some (C, T, N)) (hN : 0 < N) :
    Jvm.Cond.classLink (xown o) x C ∈ xgw ∧ Jvm.Cond.instantiable C N ∈ xgw ∧ Jvm.Cond.initialized C ∈ xgw := by
  have hm := xfnd_mem h
  by_cases ho : o < xNO
  · have h1 := List.all_eq_true.mp (xnew_all o ho) _ hm
    unfold xnewC at h1
    dsimp only at h1
    rw [hc] at h1
    simp only [Bool.and_eq_true, Bool.or_eq_true, decide_eq_true_eq] at h1
    rcases h1 with h1 | h1
    · omega
    · exact ⟨xig_mem h1.1.1, xig_mem h1.1.2, xig_mem h1.2⟩
  · rw [xnew_out ho] at hm
    cases hm
-- constants
set_option maxRecDepth 100000 in
theorem xcon_all : ∀ o, o < xNO → (xconT o).all (fun q => xig (.constant (xown o) q.1 q.2.1) q.2.2) = true := by decide +kernel
set_option maxRecDepth 100000 in
theorem xcol_all : ∀ o, o < xNO → (xcolT o).all (fun q => xig (.constantLong (xown o) q.1 q.2.1) q.2.2) = true := by decide +kernel
theorem xcon_ok {o x p : Nat} {v : Int32} (h : xfnd (xconT o) x = some (v, p)) : Jvm.Cond.constant (xown o) x v ∈ xgw := by
  have hm := xfnd_mem h
  by_cases ho : o < xNO
  · exact xig_mem (List.all_eq_true.mp (xcon_all o ho) _ hm)
  · have : xconT o = [] := by
      unfold xNO at ho
      unfold xconT
      split <;> first | omega | rfl
    rw [this] at hm
    cases hm
theorem xcol_ok {o x p : Nat} {v : Int64} (h : xfnd (xcolT o) x = some (v, p)) : Jvm.Cond.constantLong (xown o) x v ∈ xgw := by
  have hm := xfnd_mem h
  by_cases ho : o < xNO
  · exact xig_mem (List.all_eq_true.mp (xcol_all o ho) _ hm)
  · have : xcolT o = [] := by
      unfold xNO at ho
      unfold xcolT
      split <;> first | omega | rfl
    rw [this] at hm
    cases hm
end XF
end
section
/-! the code lists are the bytes -/
section XDC
def xchk (b : ByteArray) : Nat → List (Option Instr) → Bool
  | _, [] => true
  | pc, none :: r => xchk b (pc + 1) r
  | pc, some i :: r => (match decode b pc with
    | .ok (j, n) => decide (j = i) && (decide (xlen i = 0) || decide (n = xlen i))
    | .error _ => false) && xchk b (pc + 1) r
theorem xchk_ok {b : ByteArray} : ∀ {l : List (Option Instr)} {pc k : Nat} {i : Instr}, xchk b pc l = true → l[k]? = some (some i) → ∃ len, decode b (pc + k) = .ok (i, len) ∧ (xlen i = 0 ∨ len = xlen i)
  | [], _, _, _, _, h => by simp at h
  | none :: r, pc, 0, i, _, h => by simp at h
  | none :: r, pc, k + 1, i, hc, h => by
    have := xchk_ok (l := r) (pc := pc + 1) (k := k) hc (by simpa using h)
    rw [show pc + (k + 1) = pc + 1 + k by omega]
    exact this
  | some j :: r, pc, 0, i, hc, h => by
    simp only [List.getElem?_cons_zero, Option.some.injEq] at h
    subst h
    unfold xchk at hc
    rw [Bool.and_eq_true] at hc
    have hc := hc.1
    split at hc
    · rename_i j2 n hd
      simp only [Bool.and_eq_true, Bool.or_eq_true, decide_eq_true_eq] at hc
      obtain ⟨rfl, h2⟩ := hc
      exact ⟨n, hd, h2⟩
    · cases hc
  | some j :: r, pc, k + 1, i, hc, h => by
    unfold xchk at hc
    rw [Bool.and_eq_true] at hc
    have := xchk_ok (l := r) (pc := pc + 1) (k := k) hc.2 (by simpa using h)
    rw [show pc + (k + 1) = pc + 1 + k by omega]
    exact this
theorem xchk_app {b : ByteArray} : ∀ {l1 l2 : List (Option Instr)} {pc : Nat}, xchk b pc l1 = true → xchk b (pc + l1.length) l2 = true → xchk b pc (l1 ++ l2) = true
  | [], _, pc, _, h => h
  | none :: r, l2, pc, h1, h2 => xchk_app (l1 := r) (pc := pc + 1) h1 (by rw [List.length_cons] at h2; rw [show pc + 1 + r.length = pc + (r.length + 1) by omega]; exact h2)
  | some i :: r, l2, pc, h1, h2 => by
    rw [List.cons_append]
    unfold xchk at h1 ⊢
    rw [Bool.and_eq_true] at h1 ⊢
    exact ⟨h1.1, xchk_app (l1 := r) (pc := pc + 1) h1.2 (by rw [List.length_cons] at h2; rw [show pc + 1 + r.length = pc + (r.length + 1) by omega]; exact h2)⟩
set_option maxRecDepth 100000 in
theorem xdc0 : xchk (xmb 0) 0 (xmc 0) = true := by decide +kernel
set_option maxRecDepth 100000 in
theorem xdc1 : xchk (xmb 1) 0 (xmc 1) = true := by decide +kernel
set_option maxRecDepth 100000 in
theorem xdc2 : xchk (xmb 2) 0 (xmc 2) = true := by decide +kernel
set_option maxRecDepth 100000 in
theorem xdc3 : xchk (xmb 3) 0 (xmc 3) = true := by decide +kernel
set_option maxRecDepth 100000 in
theorem xdc4 : xchk (xmb 4) 0 (xmc 4) = true := by decide +kernel
set_option maxRecDepth 100000 in
theorem xdc5 : xchk (xmb 5) 0 (xmc 5) = true := by decide +kernel
set_option maxRecDepth 100000 in
theorem xdc6 : xchk (xmb 6) 0 (xmc 6) = true := by decide +kernel
set_option maxRecDepth 100000 in
theorem xdc7 : xchk (xmb 7) 0 (xmc 7) = true := by decide +kernel
set_option maxRecDepth 100000 in
theorem xdc8 : xchk (xmb 8) 0 (xmc 8) = true := by decide +kernel
set_option maxRecDepth 100000 in
theorem xdc9 : xchk (xmb 9) 0 (xmc 9) = true := by decide +kernel
set_option maxRecDepth 100000 in
theorem xdc10 : xchk (xmb 10) 0 (xmc 10) = true := by decide +kernel
set_option maxRecDepth 100000 in
theorem xdc11 : xchk (xmb 11) 0 (xmc 11) = true := by decide +kernel
set_option maxRecDepth 100000 in
theorem xdc12 : xchk (xmb 12) 0 (xmc 12) = true := by decide +kernel
set_option maxRecDepth 100000 in
theorem xdc13 : xchk (xmb 13) 0 (xmc 13) = true := by decide +kernel
set_option maxRecDepth 100000 in
theorem xdc14 : xchk (xmb 14) 0 (xmc 14) = true := by decide +kernel
set_option maxRecDepth 100000 in
theorem xdc15 : xchk (xmb 15) 0 (xmc 15) = true := by decide +kernel
set_option maxRecDepth 100000 in
theorem xdc16 : xchk (xmb 16) 0 (xmc 16) = true := by decide +kernel
set_option maxRecDepth 100000 in
theorem xdc17 : xchk (xmb 17) 0 (xmc 17) = true := by decide +kernel
set_option maxRecDepth 100000 in
theorem xdc18 : xchk (xmb 18) 0 (xmc 18) = true := by decide +kernel
set_option maxRecDepth 100000 in
theorem xdc19 : xchk (xmb 19) 0 (xmc 19) = true := by decide +kernel
set_option maxRecDepth 100000 in
theorem xdc20 : xchk (xmb 20) 0 (xmc 20) = true := by decide +kernel
set_option maxRecDepth 100000 in
theorem xdc21 : xchk (xmb 21) 0 (xmc 21) = true := by decide +kernel
set_option maxRecDepth 100000 in
theorem xdc22 : xchk (xmb 22) 0 (xmc 22) = true := by decide +kernel
set_option maxRecDepth 100000 in
theorem xdc23 : xchk (xmb 23) 0 (xmc 23) = true := by decide +kernel
set_option maxRecDepth 100000 in
theorem xdc24 : xchk (xmb 24) 0 (xmc 24) = true := by decide +kernel
set_option maxRecDepth 100000 in
theorem xdc25 : xchk (xmb 25) 0 (xmc 25) = true := by decide +kernel
set_option maxRecDepth 100000 in
theorem xdc26 : xchk (xmb 26) 0 (xmc 26) = true := by decide +kernel
set_option maxRecDepth 100000 in
theorem xdc27 : xchk (xmb 27) 0 (xmc 27) = true := by decide +kernel
set_option maxRecDepth 100000 in
theorem xdc28 : xchk (xmb 28) 0 (xmc 28) = true := by decide +kernel
set_option maxRecDepth 100000 in
theorem xdc29 : xchk (xmb 29) 0 (xmc 29) = true := by decide +kernel
set_option maxRecDepth 100000 in
theorem xdc30 : xchk (xmb 30) 0 (xmc 30) = true := by decide +kernel
set_option maxRecDepth 100000 in
theorem xdc31 : xchk (xmb 31) 0 (xmc 31) = true := by decide +kernel
set_option maxRecDepth 100000 in
theorem xdc32 : xchk (xmb 32) 0 (xmc 32) = true := by decide +kernel
set_option maxRecDepth 100000 in
theorem xdc33 : xchk (xmb 33) 0 (xmc 33) = true := by decide +kernel
set_option maxRecDepth 100000 in
theorem xdc34 : xchk (xmb 34) 0 (xmc 34) = true := by decide +kernel
set_option maxRecDepth 100000 in
theorem xdc35 : xchk (xmb 35) 0 (xmc 35) = true := by decide +kernel
set_option maxRecDepth 100000 in
theorem xdc36 : xchk (xmb 36) 0 (xmc 36) = true := by decide +kernel
set_option maxRecDepth 100000 in
theorem xdc37 : xchk (xmb 37) 0 (xmc 37) = true := by decide +kernel
set_option maxRecDepth 100000 in
theorem xdc38 : xchk (xmb 38) 0 (xmc 38) = true := by decide +kernel
set_option maxRecDepth 100000 in
theorem xdc39 : xchk (xmb 39) 0 (xmc 39) = true := by decide +kernel
set_option maxRecDepth 100000 in
theorem xdc40 : xchk (xmb 40) 0 (xmc 40) = true := by decide +kernel
set_option maxRecDepth 100000 in
theorem xdc41 : xchk (xmb 41) 0 (xmc 41) = true := by decide +kernel
set_option maxRecDepth 100000 in
theorem xdc42 : xchk (xmb 42) 0 (xmc 42) = true := by decide +kernel
set_option maxRecDepth 100000 in
theorem xdc43 : xchk (xmb 43) 0 (xmc 43) = true := by decide +kernel
set_option maxRecDepth 100000 in
theorem xdc44 : xchk (xmb 44) 0 (xmc 44) = true := by decide +kernel
set_option maxRecDepth 100000 in
theorem xdc45 : xchk (xmb 45) 0 (xmc 45) = true := by decide +kernel
set_option maxRecDepth 100000 in
theorem xdc46 : xchk (xmb 46) 0 (xmc 46) = true := by decide +kernel
set_option maxRecDepth 100000 in
theorem xdc47 : xchk (xmb 47) 0 (xmc 47) = true := by decide +kernel
set_option maxRecDepth 100000 in
theorem xdc48 : xchk (xmb 48) 0 (xmc 48) = true := by decide +kernel
set_option maxRecDepth 100000 in
theorem xdc49 : xchk (xmb 49) 0 (xmc 49) = true := by decide +kernel
set_option maxRecDepth 100000 in
theorem xdc50 : xchk (xmb 50) 0 (xmc 50) = true := by decide +kernel
set_option maxRecDepth 100000 in
theorem xdc51 : xchk (xmb 51) 0 (xmc 51) = true := by decide +kernel
set_option maxRecDepth 100000 in
theorem xdc52 : xchk (xmb 52) 0 (xmc 52) = true := by decide +kernel
set_option maxRecDepth 100000 in
theorem xdc53 : xchk (xmb 53) 0 (xmc 53) = true := by decide +kernel
set_option maxRecDepth 100000 in
theorem xdc54 : xchk (xmb 54) 0 (xmc 54) = true := by decide +kernel
set_option maxRecDepth 100000 in
theorem xdc55 : xchk (xmb 55) 0 (xmc 55) = true := by decide +kernel
set_option maxRecDepth 100000 in
theorem xdc56 : xchk (xmb 56) 0 (xmc 56) = true := by decide +kernel
set_option maxRecDepth 100000 in
theorem xdc57 : xchk (xmb 57) 0 (xmc 57) = true := by decide +kernel
set_option maxRecDepth 100000 in
theorem xdc58 : xchk (xmb 58) 0 (xmc 58) = true := by decide +kernel
set_option maxRecDepth 100000 in
theorem xdc59 : xchk (xmb 59) 0 (xmc 59) = true := by decide +kernel
set_option maxRecDepth 100000 in
theorem xdc60 : xchk (xmb 60) 0 (xmc 60) = true := by decide +kernel
set_option maxRecDepth 100000 in
theorem xdc61 : xchk (xmb 61) 0 (xmc 61) = true := by decide +kernel
set_option maxRecDepth 100000 in
theorem xdc62 : xchk (xmb 62) 0 (xmc 62) = true := by decide +kernel
set_option maxRecDepth 100000 in
theorem xdc63 : xchk (xmb 63) 0 (xmc 63) = true := by decide +kernel
set_option maxRecDepth 100000 in
theorem xdc64 : xchk (xmb 64) 0 (xmc 64) = true := by decide +kernel
set_option maxRecDepth 100000 in
theorem xdc65 : xchk (xmb 65) 0 (xmc 65) = true := by decide +kernel
set_option maxRecDepth 100000 in
theorem xdc66 : xchk (xmb 66) 0 (xmc 66) = true := by decide +kernel
set_option maxRecDepth 100000 in
theorem xdc67 : xchk (xmb 67) 0 (xmc 67) = true := by decide +kernel
set_option maxRecDepth 100000 in
theorem xdc68 : xchk (xmb 68) 0 (xmc 68) = true := by decide +kernel
set_option maxRecDepth 100000 in
theorem xdc69 : xchk (xmb 69) 0 (xmc 69) = true := by decide +kernel
set_option maxRecDepth 100000 in
theorem xdc70 : xchk (xmb 70) 0 (xmc 70) = true := by decide +kernel
set_option maxRecDepth 100000 in
theorem xdc71 : xchk (xmb 71) 0 (xmc 71) = true := by decide +kernel
set_option maxRecDepth 100000 in
theorem xdc72 : xchk (xmb 72) 0 (xmc 72) = true := by decide +kernel
set_option maxRecDepth 100000 in
theorem xdc73 : xchk (xmb 73) 0 (xmc 73) = true := by decide +kernel
set_option maxRecDepth 100000 in
theorem xdc74 : xchk (xmb 74) 0 (xmc 74) = true := by decide +kernel
set_option maxRecDepth 100000 in
theorem xdc75 : xchk (xmb 75) 0 (xmc 75) = true := by decide +kernel
set_option maxRecDepth 100000 in
theorem xdc76 : xchk (xmb 76) 0 (xmc 76) = true := by decide +kernel
set_option maxRecDepth 100000 in
theorem xdc77 : xchk (xmb 77) 0 (xmc 77) = true := by decide +kernel
set_option maxRecDepth 100000 in
theorem xdc78 : xchk (xmb 78) 0 (xmc 78) = true := by decide +kernel
set_option maxRecDepth 100000 in
theorem xdc79 : xchk (xmb 79) 0 (xmc 79) = true := by decide +kernel
set_option maxRecDepth 100000 in
theorem xdc80 : xchk (xmb 80) 0 (xmc 80) = true := by decide +kernel
set_option maxRecDepth 100000 in
theorem xdc81 : xchk (xmb 81) 0 (xmc 81) = true := by decide +kernel
set_option maxRecDepth 100000 in
theorem xdc82 : xchk (xmb 82) 0 (xmc 82) = true := by decide +kernel
set_option maxRecDepth 100000 in
theorem xdc83 : xchk (xmb 83) 0 (xmc 83) = true := by decide +kernel
set_option maxRecDepth 100000 in
theorem xdc84 : xchk (xmb 84) 0 (xmc 84) = true := by decide +kernel
set_option maxRecDepth 100000 in
theorem xdc85 : xchk (xmb 85) 0 (xmc 85) = true := by decide +kernel
set_option maxRecDepth 100000 in
theorem xdc86 : xchk (xmb 86) 0 (xmc 86) = true := by decide +kernel
set_option maxRecDepth 100000 in
theorem xdc87 : xchk (xmb 87) 0 (xmc 87) = true := by decide +kernel
set_option maxRecDepth 100000 in
theorem xdc88 : xchk (xmb 88) 0 (xmc 88) = true := by decide +kernel
set_option maxRecDepth 100000 in
theorem xdc89 : xchk (xmb 89) 0 (xmc 89) = true := by decide +kernel
set_option maxRecDepth 100000 in
theorem xdc90 : xchk (xmb 90) 0 (xmc 90) = true := by decide +kernel
set_option maxRecDepth 100000 in
theorem xdc91 : xchk (xmb 91) 0 (xmc 91) = true := by decide +kernel
set_option maxRecDepth 100000 in
theorem xdc92 : xchk (xmb 92) 0 (xmc 92) = true := by decide +kernel
set_option maxRecDepth 100000 in
theorem xdc93 : xchk (xmb 93) 0 (xmc 93) = true := by decide +kernel
set_option maxRecDepth 100000 in
theorem xdc94 : xchk (xmb 94) 0 (xmc 94) = true := by decide +kernel
set_option maxRecDepth 100000 in
theorem xdc95 : xchk (xmb 95) 0 (xmc 95) = true := by decide +kernel
set_option maxRecDepth 100000 in
theorem xdc96 : xchk (xmb 96) 0 (xmc 96) = true := by decide +kernel
set_option maxRecDepth 100000 in
theorem xdc97 : xchk (xmb 97) 0 (xmc 97) = true := by decide +kernel
set_option maxRecDepth 100000 in
theorem xdc98 : xchk (xmb 98) 0 (xmc 98) = true := by decide +kernel
set_option maxRecDepth 100000 in
theorem xdc99 : xchk (xmb 99) 0 (xmc 99) = true := by decide +kernel
set_option maxRecDepth 100000 in
theorem xdc100 : xchk (xmb 100) 0 (xmc 100) = true := by decide +kernel
set_option maxRecDepth 100000 in
theorem xdc101 : xchk (xmb 101) 0 (xmc 101) = true := by decide +kernel
set_option maxRecDepth 100000 in
theorem xdc102 : xchk (xmb 102) 0 (xmc 102) = true := by decide +kernel
set_option maxRecDepth 100000 in
theorem xdc103 : xchk (xmb 103) 0 (xmc 103) = true := by decide +kernel
set_option maxRecDepth 100000 in
theorem xdc104 : xchk (xmb 104) 0 (xmc 104) = true := by decide +kernel
set_option maxRecDepth 100000 in
theorem xdc105 : xchk (xmb 105) 0 (xmc 105) = true := by decide +kernel
set_option maxRecDepth 100000 in
theorem xdc106 : xchk (xmb 106) 0 (xmc 106) = true := by decide +kernel
set_option maxRecDepth 100000 in
theorem xdc107 : xchk (xmb 107) 0 (xmc 107) = true := by decide +kernel
set_option maxRecDepth 100000 in
theorem xdc108 : xchk (xmb 108) 0 (xmc 108) = true := by decide +kernel
set_option maxRecDepth 100000 in
theorem xdc109 : xchk (xmb 109) 0 (xmc 109) = true := by decide +kernel
set_option maxRecDepth 100000 in
theorem xdc110 : xchk (xmb 110) 0 (xmc 110) = true := by decide +kernel
set_option maxRecDepth 100000 in
theorem xdc111 : xchk (xmb 111) 0 (xmc 111) = true := by decide +kernel
set_option maxRecDepth 100000 in
theorem xdc112 : xchk (xmb 112) 0 (xmc 112) = true := by decide +kernel
set_option maxRecDepth 100000 in
theorem xdc113 : xchk (xmb 113) 0 (xmc 113) = true := by decide +kernel
set_option maxRecDepth 100000 in
theorem xdc114 : xchk (xmb 114) 0 (xmc 114) = true := by decide +kernel
set_option maxRecDepth 100000 in
theorem xdc115 : xchk (xmb 115) 0 (xmc 115) = true := by decide +kernel
set_option maxRecDepth 100000 in
theorem xdc116 : xchk (xmb 116) 0 (xmc 116) = true := by decide +kernel
set_option maxRecDepth 100000 in
theorem xdc117 : xchk (xmb 117) 0 (xmc 117) = true := by decide +kernel
set_option maxRecDepth 100000 in
theorem xdc118 : xchk (xmb 118) 0 (xmc 118) = true := by decide +kernel
set_option maxRecDepth 100000 in
theorem xdc119 : xchk (xmb 119) 0 (xmc 119) = true := by decide +kernel
set_option maxRecDepth 100000 in
theorem xdc120 : xchk (xmb 120) 0 (xmc 120) = true := by decide +kernel
set_option maxRecDepth 100000 in
theorem xdc121 : xchk (xmb 121) 0 (xmc 121) = true := by decide +kernel
set_option maxRecDepth 100000 in
theorem xdc122 : xchk (xmb 122) 0 (xmc 122) = true := by decide +kernel
set_option maxRecDepth 100000 in
theorem xdc123 : xchk (xmb 123) 0 (xmc 123) = true := by decide +kernel
set_option maxRecDepth 100000 in
theorem xdc124 : xchk (xmb 124) 0 (xmc 124) = true := by decide +kernel
set_option maxRecDepth 100000 in
theorem xdc125 : xchk (xmb 125) 0 (xmc 125) = true := by decide +kernel
set_option maxRecDepth 100000 in
theorem xdc126 : xchk (xmb 126) 0 (xmc 126) = true := by decide +kernel
set_option maxRecDepth 100000 in
theorem xdc127 : xchk (xmb 127) 0 (xmc 127) = true := by decide +kernel
set_option maxRecDepth 100000 in
theorem xdc128 : xchk (xmb 128) 0 (xmc 128) = true := by decide +kernel
set_option maxRecDepth 100000 in
theorem xdc129 : xchk (xmb 129) 0 (xmc 129) = true := by decide +kernel
set_option maxRecDepth 100000 in
theorem xdc130 : xchk (xmb 130) 0 (xmc 130) = true := by decide +kernel
set_option maxRecDepth 100000 in
theorem xdc131 : xchk (xmb 131) 0 (xmc 131) = true := by decide +kernel
set_option maxRecDepth 100000 in
theorem xdc132 : xchk (xmb 132) 0 (xmc 132) = true := by decide +kernel
set_option maxRecDepth 100000 in
theorem xdc133 : xchk (xmb 133) 0 (xmc 133) = true := by decide +kernel
set_option maxRecDepth 100000 in
theorem xdc134 : xchk (xmb 134) 0 (xmc 134) = true := by decide +kernel
set_option maxRecDepth 100000 in
theorem xdc135 : xchk (xmb 135) 0 (xmc 135) = true := by decide +kernel
set_option maxRecDepth 100000 in
theorem xdc136 : xchk (xmb 136) 0 (xmc 136) = true := by decide +kernel
set_option maxRecDepth 100000 in
theorem xdc137 : xchk (xmb 137) 0 (xmc 137) = true := by decide +kernel
set_option maxRecDepth 100000 in
theorem xdc138 : xchk (xmb 138) 0 (xmc 138) = true := by decide +kernel
set_option maxRecDepth 100000 in
theorem xdc139 : xchk (xmb 139) 0 (xmc 139) = true := by decide +kernel
set_option maxRecDepth 100000 in
theorem xdc140 : xchk (xmb 140) 0 (xmc 140) = true := by decide +kernel
set_option maxRecDepth 100000 in
theorem xdc141 : xchk (xmb 141) 0 (xmc 141) = true := by decide +kernel
set_option maxRecDepth 100000 in
theorem xdc142 : xchk (xmb 142) 0 (xmc 142) = true := by decide +kernel
set_option maxRecDepth 100000 in
theorem xdc143 : xchk (xmb 143) 0 (xmc 143) = true := by decide +kernel
set_option maxRecDepth 100000 in
theorem xdc144 : xchk (xmb 144) 0 (xmc 144) = true := by decide +kernel
set_option maxRecDepth 100000 in
theorem xdc145 : xchk (xmb 145) 0 (xmc 145) = true := by decide +kernel
set_option maxRecDepth 100000 in
theorem xdc146 : xchk (xmb 146) 0 (xmc 146) = true := by decide +kernel
set_option maxRecDepth 100000 in
theorem xdc147 : xchk (xmb 147) 0 (xmc 147) = true := by decide +kernel
set_option maxRecDepth 100000 in
theorem xdc148 : xchk (xmb 148) 0 (xmc 148) = true := by decide +kernel
set_option maxRecDepth 100000 in
theorem xdc149 : xchk (xmb 149) 0 (xmc 149) = true := by decide +kernel
set_option maxRecDepth 100000 in
theorem xdc150 : xchk (xmb 150) 0 (xmc 150) = true := by decide +kernel
set_option maxRecDepth 100000 in
theorem xdc151 : xchk (xmb 151) 0 (xmc 151) = true := by decide +kernel
set_option maxRecDepth 100000 in
theorem xdc152 : xchk (xmb 152) 0 (xmc 152) = true := by decide +kernel
set_option maxRecDepth 100000 in
theorem xdc153 : xchk (xmb 153) 0 (xmc 153) = true := by decide +kernel
set_option maxRecDepth 100000 in
theorem xdc154 : xchk (xmb 154) 0 (xmc 154) = true := by decide +kernel
set_option maxRecDepth 100000 in
theorem xdc155 : xchk (xmb 155) 0 (xmc 155) = true := by decide +kernel
set_option maxRecDepth 100000 in
theorem xdc156 : xchk (xmb 156) 0 (xmc 156) = true := by decide +kernel
set_option maxRecDepth 100000 in
theorem xdc157 : xchk (xmb 157) 0 (xmc 157) = true := by decide +kernel
set_option maxRecDepth 100000 in
theorem xdc158 : xchk (xmb 158) 0 (xmc 158) = true := by decide +kernel
set_option maxRecDepth 100000 in
theorem xdc159 : xchk (xmb 159) 0 (xmc 159) = true := by decide +kernel
set_option maxRecDepth 100000 in
theorem xdc160 : xchk (xmb 160) 0 (xmc 160) = true := by decide +kernel
set_option maxRecDepth 100000 in
theorem xdc161 : xchk (xmb 161) 0 (xmc 161) = true := by decide +kernel
set_option maxRecDepth 100000 in
theorem xdc162 : xchk (xmb 162) 0 (xmc 162) = true := by decide +kernel
set_option maxRecDepth 100000 in
theorem xdc163 : xchk (xmb 163) 0 (xmc 163) = true := by decide +kernel
set_option maxRecDepth 100000 in
theorem xdc164 : xchk (xmb 164) 0 (xmc 164) = true := by decide +kernel
set_option maxRecDepth 100000 in
theorem xdc165 : xchk (xmb 165) 0 (xmc 165) = true := by decide +kernel
set_option maxRecDepth 100000 in
theorem xdc166 : xchk (xmb 166) 0 (xmc 166) = true := by decide +kernel
set_option maxRecDepth 100000 in
theorem xdc167_0 : xchk prog_13_method_4_code 0 xc167_0 = true := by decide +kernel
set_option maxRecDepth 100000 in
theorem xdc167_1 : xchk prog_13_method_4_code 100 xc167_1 = true := by decide +kernel
set_option maxRecDepth 100000 in
theorem xdc167_2 : xchk prog_13_method_4_code 200 xc167_2 = true := by decide +kernel
set_option maxRecDepth 100000 in
theorem xdc167_3 : xchk prog_13_method_4_code 300 xc167_3 = true := by decide +kernel
set_option maxRecDepth 100000 in
theorem xdc167_4 : xchk prog_13_method_4_code 400 xc167_4 = true := by decide +kernel
set_option maxRecDepth 100000 in
theorem xdc167_5 : xchk prog_13_method_4_code 500 xc167_5 = true := by decide +kernel
theorem xdc167 : xchk (xmb 167) 0 (xmc 167) = true := xchk_app xdc167_0 (xchk_app xdc167_1 (xchk_app xdc167_2 (xchk_app xdc167_3 (xchk_app xdc167_4 (xdc167_5)))))
set_option maxRecDepth 100000 in
theorem xdc168 : xchk (xmb 168) 0 (xmc 168) = true := by decide +kernel
set_option maxRecDepth 100000 in
theorem xdc169 : xchk (xmb 169) 0 (xmc 169) = true := by decide +kernel
set_option maxRecDepth 100000 in
theorem xdc170 : xchk (xmb 170) 0 (xmc 170) = true := by decide +kernel
set_option maxRecDepth 100000 in
theorem xdc171 : xchk (xmb 171) 0 (xmc 171) = true := by decide +kernel
set_option maxRecDepth 100000 in
theorem xdc172 : xchk (xmb 172) 0 (xmc 172) = true := by decide +kernel
set_option maxRecDepth 100000 in
theorem xdc173 : xchk (xmb 173) 0 (xmc 173) = true := by decide +kernel
set_option maxRecDepth 100000 in
theorem xdc174 : xchk (xmb 174) 0 (xmc 174) = true := by decide +kernel
set_option maxRecDepth 100000 in
theorem xdc175 : xchk (xmb 175) 0 (xmc 175) = true := by decide +kernel
set_option maxRecDepth 100000 in
theorem xdc176 : xchk (xmb 176) 0 (xmc 176) = true := by decide +kernel
set_option maxRecDepth 100000 in
theorem xdc177 : xchk (xmb 177) 0 (xmc 177) = true := by decide +kernel
set_option maxRecDepth 100000 in
theorem xdc178 : xchk (xmb 178) 0 (xmc 178) = true := by decide +kernel
set_option maxRecDepth 100000 in
theorem xdc179 : xchk (xmb 179) 0 (xmc 179) = true := by decide +kernel
set_option maxRecDepth 100000 in
theorem xdc180 : xchk (xmb 180) 0 (xmc 180) = true := by decide +kernel
set_option maxRecDepth 100000 in
theorem xdc181 : xchk (xmb 181) 0 (xmc 181) = true := by decide +kernel
set_option maxRecDepth 100000 in
theorem xdc182 : xchk (xmb 182) 0 (xmc 182) = true := by decide +kernel
set_option maxRecDepth 100000 in
theorem xdc183 : xchk (xmb 183) 0 (xmc 183) = true := by decide +kernel
set_option maxRecDepth 100000 in
theorem xdc184 : xchk (xmb 184) 0 (xmc 184) = true := by decide +kernel
set_option maxRecDepth 100000 in
theorem xdc185 : xchk (xmb 185) 0 (xmc 185) = true := by decide +kernel
set_option maxRecDepth 100000 in
theorem xdc186 : xchk (xmb 186) 0 (xmc 186) = true := by decide +kernel
set_option maxRecDepth 100000 in
theorem xdc187 : xchk (xmb 187) 0 (xmc 187) = true := by decide +kernel
set_option maxRecDepth 100000 in
theorem xdc188 : xchk (xmb 188) 0 (xmc 188) = true := by decide +kernel
set_option maxRecDepth 100000 in
theorem xdc189 : xchk (xmb 189) 0 (xmc 189) = true := by decide +kernel
set_option maxRecDepth 100000 in
theorem xdc190 : xchk (xmb 190) 0 (xmc 190) = true := by decide +kernel
set_option maxRecDepth 100000 in
theorem xdc191 : xchk (xmb 191) 0 (xmc 191) = true := by decide +kernel
set_option maxRecDepth 100000 in
theorem xdc192 : xchk (xmb 192) 0 (xmc 192) = true := by decide +kernel
set_option maxRecDepth 100000 in
theorem xdc193 : xchk (xmb 193) 0 (xmc 193) = true := by decide +kernel
set_option maxRecDepth 100000 in
theorem xdc194 : xchk (xmb 194) 0 (xmc 194) = true := by decide +kernel
set_option maxRecDepth 100000 in
theorem xdc195 : xchk (xmb 195) 0 (xmc 195) = true := by decide +kernel
set_option maxRecDepth 100000 in
theorem xdc196 : xchk (xmb 196) 0 (xmc 196) = true := by decide +kernel
set_option maxRecDepth 100000 in
theorem xdc197 : xchk (xmb 197) 0 (xmc 197) = true := by decide +kernel
set_option maxRecDepth 100000 in
theorem xdc198_0 : xchk code 0 xc198_0 = true := by decide +kernel
set_option maxRecDepth 100000 in
theorem xdc198_1 : xchk code 100 xc198_1 = true := by decide +kernel
set_option maxRecDepth 100000 in
theorem xdc198_2 : xchk code 200 xc198_2 = true := by decide +kernel
set_option maxRecDepth 100000 in
theorem xdc198_3 : xchk code 300 xc198_3 = true := by decide +kernel
set_option maxRecDepth 100000 in
theorem xdc198_4 : xchk code 400 xc198_4 = true := by decide +kernel
set_option maxRecDepth 100000 in
theorem xdc198_5 : xchk code 500 xc198_5 = true := by decide +kernel
set_option maxRecDepth 100000 in
theorem xdc198_6 : xchk code 600 xc198_6 = true := by decide +kernel
set_option maxRecDepth 100000 in
theorem xdc198_7 : xchk code 700 xc198_7 = true := by decide +kernel
set_option maxRecDepth 100000 in
theorem xdc198_8 : xchk code 800 xc198_8 = true := by decide +kernel
set_option maxRecDepth 100000 in
theorem xdc198_9 : xchk code 900 xc198_9 = true := by decide +kernel
set_option maxRecDepth 100000 in
theorem xdc198_10 : xchk code 1000 xc198_10 = true := by decide +kernel
set_option maxRecDepth 100000 in
theorem xdc198_11 : xchk code 1100 xc198_11 = true := by decide +kernel
set_option maxRecDepth 100000 in
theorem xdc198_12 : xchk code 1200 xc198_12 = true := by decide +kernel
set_option maxRecDepth 100000 in
theorem xdc198_13 : xchk code 1300 xc198_13 = true := by decide +kernel
set_option maxRecDepth 100000 in
theorem xdc198_14 : xchk code 1400 xc198_14 = true := by decide +kernel
set_option maxRecDepth 100000 in
theorem xdc198_15 : xchk code 1500 xc198_15 = true := by decide +kernel
set_option maxRecDepth 100000 in
theorem xdc198_16 : xchk code 1600 xc198_16 = true := by decide +kernel
set_option maxRecDepth 100000 in
theorem xdc198_17 : xchk code 1700 xc198_17 = true := by decide +kernel
theorem xdc198 : xchk (xmb 198) 0 (xmc 198) = true := xchk_app xdc198_0 (xchk_app xdc198_1 (xchk_app xdc198_2 (xchk_app xdc198_3 (xchk_app xdc198_4 (xchk_app xdc198_5 (xchk_app xdc198_6 (xchk_app xdc198_7 (xchk_app xdc198_8 (xchk_app xdc198_9 (xchk_app xdc198_10 (xchk_app xdc198_11 (xchk_app xdc198_12 (xchk_app xdc198_13 (xchk_app xdc198_14 (xchk_app xdc198_15 (xchk_app xdc198_16 (xdc198_17)))))))))))))))))
theorem xdec : ∀ μ, xchk (xmb μ) 0 (xmc μ) = true
  | 0 => xdc0
  | 1 => xdc1
  | 2 => xdc2
  | 3 => xdc3
  | 4 => xdc4
  | 5 => xdc5
  | 6 => xdc6
  | 7 => xdc7
  | 8 => xdc8
  | 9 => xdc9
  | 10 => xdc10
  | 11 => xdc11
  | 12 => xdc12
  | 13 => xdc13
  | 14 => xdc14
  | 15 => xdc15
  | 16 => xdc16
  | 17 => xdc17
  | 18 => xdc18
  | 19 => xdc19
  | 20 => xdc20
  | 21 => xdc21
  | 22 => xdc22
  | 23 => xdc23
  | 24 => xdc24
  | 25 => xdc25
  | 26 => xdc26
  | 27 => xdc27
  | 28 => xdc28
  | 29 => xdc29
  | 30 => xdc30
  | 31 => xdc31
  | 32 => xdc32
  | 33 => xdc33
  | 34 => xdc34
  | 35 => xdc35
  | 36 => xdc36
  | 37 => xdc37
  | 38 => xdc38
  | 39 => xdc39
  | 40 => xdc40
  | 41 => xdc41
  | 42 => xdc42
  | 43 => xdc43
  | 44 => xdc44
  | 45 => xdc45
  | 46 => xdc46
  | 47 => xdc47
  | 48 => xdc48
  | 49 => xdc49
  | 50 => xdc50
  | 51 => xdc51
  | 52 => xdc52
  | 53 => xdc53
  | 54 => xdc54
  | 55 => xdc55
  | 56 => xdc56
  | 57 => xdc57
  | 58 => xdc58
  | 59 => xdc59
  | 60 => xdc60
  | 61 => xdc61
  | 62 => xdc62
  | 63 => xdc63
  | 64 => xdc64
  | 65 => xdc65
  | 66 => xdc66
  | 67 => xdc67
  | 68 => xdc68
  | 69 => xdc69
  | 70 => xdc70
  | 71 => xdc71
  | 72 => xdc72
  | 73 => xdc73
  | 74 => xdc74
  | 75 => xdc75
  | 76 => xdc76
  | 77 => xdc77
  | 78 => xdc78
  | 79 => xdc79
  | 80 => xdc80
  | 81 => xdc81
  | 82 => xdc82
  | 83 => xdc83
  | 84 => xdc84
  | 85 => xdc85
  | 86 => xdc86
  | 87 => xdc87
  | 88 => xdc88
  | 89 => xdc89
  | 90 => xdc90
  | 91 => xdc91
  | 92 => xdc92
  | 93 => xdc93
  | 94 => xdc94
  | 95 => xdc95
  | 96 => xdc96
  | 97 => xdc97
  | 98 => xdc98
  | 99 => xdc99
  | 100 => xdc100
  | 101 => xdc101
  | 102 => xdc102
  | 103 => xdc103
  | 104 => xdc104
  | 105 => xdc105
  | 106 => xdc106
  | 107 => xdc107
  | 108 => xdc108
  | 109 => xdc109
  | 110 => xdc110
  | 111 => xdc111
  | 112 => xdc112
  | 113 => xdc113
  | 114 => xdc114
  | 115 => xdc115
  | 116 => xdc116
  | 117 => xdc117
  | 118 => xdc118
  | 119 => xdc119
  | 120 => xdc120
  | 121 => xdc121
  | 122 => xdc122
  | 123 => xdc123
  | 124 => xdc124
  | 125 => xdc125
  | 126 => xdc126
  | 127 => xdc127
  | 128 => xdc128
  | 129 => xdc129
  | 130 => xdc130
  | 131 => xdc131
  | 132 => xdc132
  | 133 => xdc133
  | 134 => xdc134
  | 135 => xdc135
  | 136 => xdc136
  | 137 => xdc137
  | 138 => xdc138
  | 139 => xdc139
  | 140 => xdc140
  | 141 => xdc141
  | 142 => xdc142
  | 143 => xdc143
  | 144 => xdc144
  | 145 => xdc145
  | 146 => xdc146
  | 147 => xdc147
  | 148 => xdc148
  | 149 => xdc149
  | 150 => xdc150
  | 151 => xdc151
  | 152 => xdc152
  | 153 => xdc153
  | 154 => xdc154
  | 155 => xdc155
  | 156 => xdc156
  | 157 => xdc157
  | 158 => xdc158
  | 159 => xdc159
  | 160 => xdc160
  | 161 => xdc161
  | 162 => xdc162
  | 163 => xdc163
  | 164 => xdc164
  | 165 => xdc165
  | 166 => xdc166
  | 167 => xdc167
  | 168 => xdc168
  | 169 => xdc169
  | 170 => xdc170
  | 171 => xdc171
  | 172 => xdc172
  | 173 => xdc173
  | 174 => xdc174
  | 175 => xdc175
  | 176 => xdc176
  | 177 => xdc177
  | 178 => xdc178
  | 179 => xdc179
  | 180 => xdc180
  | 181 => xdc181
  | 182 => xdc182
  | 183 => xdc183
  | 184 => xdc184
  | 185 => xdc185
  | 186 => xdc186
  | 187 => xdc187
  | 188 => xdc188
  | 189 => xdc189
  | 190 => xdc190
  | 191 => xdc191
  | 192 => xdc192
  | 193 => xdc193
  | 194 => xdc194
  | 195 => xdc195
  | 196 => xdc196
  | 197 => xdc197
  | 198 => xdc198
  | (k + 199) => rfl
end XDC
end
section
section XCW
set_option maxRecDepth 100000 in
theorem xcw0 : Jvm.Cond.code (xmy 0) (xmb 0) (xml 0) (xmr 0) ∈ xgw := xig_mem (p := 85) (by decide +kernel)
set_option maxRecDepth 100000 in
theorem xcw1 : Jvm.Cond.code (xmy 1) (xmb 1) (xml 1) (xmr 1) ∈ xgw := xig_mem (p := 93) (by decide +kernel)
set_option maxRecDepth 100000 in
theorem xcw2 : Jvm.Cond.code (xmy 2) (xmb 2) (xml 2) (xmr 2) ∈ xgw := xig_mem (p := 99) (by decide +kernel)
set_option maxRecDepth 100000 in
theorem xcw3 : Jvm.Cond.code (xmy 3) (xmb 3) (xml 3) (xmr 3) ∈ xgw := xig_mem (p := 110) (by decide +kernel)
set_option maxRecDepth 100000 in
theorem xcw4 : Jvm.Cond.code (xmy 4) (xmb 4) (xml 4) (xmr 4) ∈ xgw := xig_mem (p := 144) (by decide +kernel)
set_option maxRecDepth 100000 in
theorem xcw5 : Jvm.Cond.code (xmy 5) (xmb 5) (xml 5) (xmr 5) ∈ xgw := xig_mem (p := 165) (by decide +kernel)
set_option maxRecDepth 100000 in
theorem xcw6 : Jvm.Cond.code (xmy 6) (xmb 6) (xml 6) (xmr 6) ∈ xgw := xig_mem (p := 202) (by decide +kernel)
set_option maxRecDepth 100000 in
theorem xcw7 : Jvm.Cond.code (xmy 7) (xmb 7) (xml 7) (xmr 7) ∈ xgw := xig_mem (p := 211) (by decide +kernel)
set_option maxRecDepth 100000 in
theorem xcw8 : Jvm.Cond.code (xmy 8) (xmb 8) (xml 8) (xmr 8) ∈ xgw := xig_mem (p := 243) (by decide +kernel)
set_option maxRecDepth 100000 in
theorem xcw9 : Jvm.Cond.code (xmy 9) (xmb 9) (xml 9) (xmr 9) ∈ xgw := xig_mem (p := 269) (by decide +kernel)
set_option maxRecDepth 100000 in
theorem xcw10 : Jvm.Cond.code (xmy 10) (xmb 10) (xml 10) (xmr 10) ∈ xgw := xig_mem (p := 279) (by decide +kernel)
set_option maxRecDepth 100000 in
theorem xcw11 : Jvm.Cond.code (xmy 11) (xmb 11) (xml 11) (xmr 11) ∈ xgw := xig_mem (p := 363) (by decide +kernel)
set_option maxRecDepth 100000 in
theorem xcw12 : Jvm.Cond.code (xmy 12) (xmb 12) (xml 12) (xmr 12) ∈ xgw := xig_mem (p := 367) (by decide +kernel)
set_option maxRecDepth 100000 in
theorem xcw13 : Jvm.Cond.code (xmy 13) (xmb 13) (xml 13) (xmr 13) ∈ xgw := xig_mem (p := 371) (by decide +kernel)
set_option maxRecDepth 100000 in
theorem xcw14 : Jvm.Cond.code (xmy 14) (xmb 14) (xml 14) (xmr 14) ∈ xgw := xig_mem (p := 375) (by decide +kernel)
set_option maxRecDepth 100000 in
theorem xcw15 : Jvm.Cond.code (xmy 15) (xmb 15) (xml 15) (xmr 15) ∈ xgw := xig_mem (p := 379) (by decide +kernel)
set_option maxRecDepth 100000 in
theorem xcw16 : Jvm.Cond.code (xmy 16) (xmb 16) (xml 16) (xmr 16) ∈ xgw := xig_mem (p := 383) (by decide +kernel)
set_option maxRecDepth 100000 in
theorem xcw17 : Jvm.Cond.code (xmy 17) (xmb 17) (xml 17) (xmr 17) ∈ xgw := xig_mem (p := 389) (by decide +kernel)
set_option maxRecDepth 100000 in
theorem xcw18 : Jvm.Cond.code (xmy 18) (xmb 18) (xml 18) (xmr 18) ∈ xgw := xig_mem (p := 396) (by decide +kernel)
set_option maxRecDepth 100000 in
theorem xcw19 : Jvm.Cond.code (xmy 19) (xmb 19) (xml 19) (xmr 19) ∈ xgw := xig_mem (p := 400) (by decide +kernel)
set_option maxRecDepth 100000 in
theorem xcw20 : Jvm.Cond.code (xmy 20) (xmb 20) (xml 20) (xmr 20) ∈ xgw := xig_mem (p := 404) (by decide +kernel)
set_option maxRecDepth 100000 in
theorem xcw21 : Jvm.Cond.code (xmy 21) (xmb 21) (xml 21) (xmr 21) ∈ xgw := xig_mem (p := 408) (by decide +kernel)
set_option maxRecDepth 100000 in
theorem xcw22 : Jvm.Cond.code (xmy 22) (xmb 22) (xml 22) (xmr 22) ∈ xgw := xig_mem (p := 412) (by decide +kernel)
set_option maxRecDepth 100000 in
theorem xcw23 : Jvm.Cond.code (xmy 23) (xmb 23) (xml 23) (xmr 23) ∈ xgw := xig_mem (p := 416) (by decide +kernel)
set_option maxRecDepth 100000 in
theorem xcw24 : Jvm.Cond.code (xmy 24) (xmb 24) (xml 24) (xmr 24) ∈ xgw := xig_mem (p := 420) (by decide +kernel)
set_option maxRecDepth 100000 in
theorem xcw25 : Jvm.Cond.code (xmy 25) (xmb 25) (xml 25) (xmr 25) ∈ xgw := xig_mem (p := 425) (by decide +kernel)
set_option maxRecDepth 100000 in
theorem xcw26 : Jvm.Cond.code (xmy 26) (xmb 26) (xml 26) (xmr 26) ∈ xgw := xig_mem (p := 428) (by decide +kernel)
set_option maxRecDepth 100000 in
theorem xcw27 : Jvm.Cond.code (xmy 27) (xmb 27) (xml 27) (xmr 27) ∈ xgw := xig_mem (p := 433) (by decide +kernel)
set_option maxRecDepth 100000 in
theorem xcw28 : Jvm.Cond.code (xmy 28) (xmb 28) (xml 28) (xmr 28) ∈ xgw := xig_mem (p := 437) (by decide +kernel)
set_option maxRecDepth 100000 in
theorem xcw29 : Jvm.Cond.code (xmy 29) (xmb 29) (xml 29) (xmr 29) ∈ xgw := xig_mem (p := 441) (by decide +kernel)
set_option maxRecDepth 100000 in
theorem xcw30 : Jvm.Cond.code (xmy 30) (xmb 30) (xml 30) (xmr 30) ∈ xgw := xig_mem (p := 445) (by decide +kernel)
set_option maxRecDepth 100000 in
theorem xcw31 : Jvm.Cond.code (xmy 31) (xmb 31) (xml 31) (xmr 31) ∈ xgw := xig_mem (p := 450) (by decide +kernel)
set_option maxRecDepth 100000 in
theorem xcw32 : Jvm.Cond.code (xmy 32) (xmb 32) (xml 32) (xmr 32) ∈ xgw := xig_mem (p := 454) (by decide +kernel)
set_option maxRecDepth 100000 in
theorem xcw33 : Jvm.Cond.code (xmy 33) (xmb 33) (xml 33) (xmr 33) ∈ xgw := xig_mem (p := 460) (by decide +kernel)
set_option maxRecDepth 100000 in
theorem xcw34 : Jvm.Cond.code (xmy 34) (xmb 34) (xml 34) (xmr 34) ∈ xgw := xig_mem (p := 464) (by decide +kernel)
set_option maxRecDepth 100000 in
theorem xcw35 : Jvm.Cond.code (xmy 35) (xmb 35) (xml 35) (xmr 35) ∈ xgw := xig_mem (p := 468) (by decide +kernel)
set_option maxRecDepth 100000 in
theorem xcw36 : Jvm.Cond.code (xmy 36) (xmb 36) (xml 36) (xmr 36) ∈ xgw := xig_mem (p := 472) (by decide +kernel)
set_option maxRecDepth 100000 in
theorem xcw37 : Jvm.Cond.code (xmy 37) (xmb 37) (xml 37) (xmr 37) ∈ xgw := xig_mem (p := 476) (by decide +kernel)
set_option maxRecDepth 100000 in
theorem xcw38 : Jvm.Cond.code (xmy 38) (xmb 38) (xml 38) (xmr 38) ∈ xgw := xig_mem (p := 479) (by decide +kernel)
set_option maxRecDepth 100000 in
theorem xcw39 : Jvm.Cond.code (xmy 39) (xmb 39) (xml 39) (xmr 39) ∈ xgw := xig_mem (p := 484) (by decide +kernel)
set_option maxRecDepth 100000 in
theorem xcw40 : Jvm.Cond.code (xmy 40) (xmb 40) (xml 40) (xmr 40) ∈ xgw := xig_mem (p := 488) (by decide +kernel)
set_option maxRecDepth 100000 in
theorem xcw41 : Jvm.Cond.code (xmy 41) (xmb 41) (xml 41) (xmr 41) ∈ xgw := xig_mem (p := 495) (by decide +kernel)
set_option maxRecDepth 100000 in
theorem xcw42 : Jvm.Cond.code (xmy 42) (xmb 42) (xml 42) (xmr 42) ∈ xgw := xig_mem (p := 500) (by decide +kernel)
set_option maxRecDepth 100000 in
theorem xcw43 : Jvm.Cond.code (xmy 43) (xmb 43) (xml 43) (xmr 43) ∈ xgw := xig_mem (p := 504) (by decide +kernel)
set_option maxRecDepth 100000 in
theorem xcw44 : Jvm.Cond.code (xmy 44) (xmb 44) (xml 44) (xmr 44) ∈ xgw := xig_mem (p := 508) (by decide +kernel)
set_option maxRecDepth 100000 in
theorem xcw45 : Jvm.Cond.code (xmy 45) (xmb 45) (xml 45) (xmr 45) ∈ xgw := xig_mem (p := 513) (by decide +kernel)
set_option maxRecDepth 100000 in
theorem xcw46 : Jvm.Cond.code (xmy 46) (xmb 46) (xml 46) (xmr 46) ∈ xgw := xig_mem (p := 517) (by decide +kernel)
set_option maxRecDepth 100000 in
theorem xcw47 : Jvm.Cond.code (xmy 47) (xmb 47) (xml 47) (xmr 47) ∈ xgw := xig_mem (p := 521) (by decide +kernel)
set_option maxRecDepth 100000 in
theorem xcw48 : Jvm.Cond.code (xmy 48) (xmb 48) (xml 48) (xmr 48) ∈ xgw := xig_mem (p := 525) (by decide +kernel)
set_option maxRecDepth 100000 in
theorem xcw49 : Jvm.Cond.code (xmy 49) (xmb 49) (xml 49) (xmr 49) ∈ xgw := xig_mem (p := 531) (by decide +kernel)
set_option maxRecDepth 100000 in
theorem xcw50 : Jvm.Cond.code (xmy 50) (xmb 50) (xml 50) (xmr 50) ∈ xgw := xig_mem (p := 535) (by decide +kernel)
set_option maxRecDepth 100000 in
theorem xcw51 : Jvm.Cond.code (xmy 51) (xmb 51) (xml 51) (xmr 51) ∈ xgw := xig_mem (p := 539) (by decide +kernel)
set_option maxRecDepth 100000 in
theorem xcw52 : Jvm.Cond.code (xmy 52) (xmb 52) (xml 52) (xmr 52) ∈ xgw := xig_mem (p := 612) (by decide +kernel)
set_option maxRecDepth 100000 in
theorem xcw53 : Jvm.Cond.code (xmy 53) (xmb 53) (xml 53) (xmr 53) ∈ xgw := xig_mem (p := 616) (by decide +kernel)
set_option maxRecDepth 100000 in
theorem xcw54 : Jvm.Cond.code (xmy 54) (xmb 54) (xml 54) (xmr 54) ∈ xgw := xig_mem (p := 620) (by decide +kernel)
set_option maxRecDepth 100000 in
theorem xcw55 : Jvm.Cond.code (xmy 55) (xmb 55) (xml 55) (xmr 55) ∈ xgw := xig_mem (p := 642) (by decide +kernel)
set_option maxRecDepth 100000 in
theorem xcw56 : Jvm.Cond.code (xmy 56) (xmb 56) (xml 56) (xmr 56) ∈ xgw := xig_mem (p := 646) (by decide +kernel)
set_option maxRecDepth 100000 in
theorem xcw57 : Jvm.Cond.code (xmy 57) (xmb 57) (xml 57) (xmr 57) ∈ xgw := xig_mem (p := 653) (by decide +kernel)
set_option maxRecDepth 100000 in
theorem xcw58 : Jvm.Cond.code (xmy 58) (xmb 58) (xml 58) (xmr 58) ∈ xgw := xig_mem (p := 658) (by decide +kernel)
set_option maxRecDepth 100000 in
theorem xcw59 : Jvm.Cond.code (xmy 59) (xmb 59) (xml 59) (xmr 59) ∈ xgw := xig_mem (p := 662) (by decide +kernel)
set_option maxRecDepth 100000 in
theorem xcw60 : Jvm.Cond.code (xmy 60) (xmb 60) (xml 60) (xmr 60) ∈ xgw := xig_mem (p := 666) (by decide +kernel)
set_option maxRecDepth 100000 in
theorem xcw61 : Jvm.Cond.code (xmy 61) (xmb 61) (xml 61) (xmr 61) ∈ xgw := xig_mem (p := 671) (by decide +kernel)
set_option maxRecDepth 100000 in
theorem xcw62 : Jvm.Cond.code (xmy 62) (xmb 62) (xml 62) (xmr 62) ∈ xgw := xig_mem (p := 677) (by decide +kernel)
set_option maxRecDepth 100000 in
theorem xcw63 : Jvm.Cond.code (xmy 63) (xmb 63) (xml 63) (xmr 63) ∈ xgw := xig_mem (p := 681) (by decide +kernel)
set_option maxRecDepth 100000 in
theorem xcw64 : Jvm.Cond.code (xmy 64) (xmb 64) (xml 64) (xmr 64) ∈ xgw := xig_mem (p := 687) (by decide +kernel)
set_option maxRecDepth 100000 in
theorem xcw65 : Jvm.Cond.code (xmy 65) (xmb 65) (xml 65) (xmr 65) ∈ xgw := xig_mem (p := 692) (by decide +kernel)
set_option maxRecDepth 100000 in
theorem xcw66 : Jvm.Cond.code (xmy 66) (xmb 66) (xml 66) (xmr 66) ∈ xgw := xig_mem (p := 696) (by decide +kernel)
set_option maxRecDepth 100000 in
theorem xcw67 : Jvm.Cond.code (xmy 67) (xmb 67) (xml 67) (xmr 67) ∈ xgw := xig_mem (p := 701) (by decide +kernel)
set_option maxRecDepth 100000 in
theorem xcw69 : Jvm.Cond.code (xmy 69) (xmb 69) (xml 69) (xmr 69) ∈ xgw := xig_mem (p := 712) (by decide +kernel)
set_option maxRecDepth 100000 in
theorem xcw70 : Jvm.Cond.code (xmy 70) (xmb 70) (xml 70) (xmr 70) ∈ xgw := xig_mem (p := 715) (by decide +kernel)
set_option maxRecDepth 100000 in
theorem xcw71 : Jvm.Cond.code (xmy 71) (xmb 71) (xml 71) (xmr 71) ∈ xgw := xig_mem (p := 736) (by decide +kernel)
set_option maxRecDepth 100000 in
theorem xcw73 : Jvm.Cond.code (xmy 73) (xmb 73) (xml 73) (xmr 73) ∈ xgw := xig_mem (p := 744) (by decide +kernel)
set_option maxRecDepth 100000 in
theorem xcw74 : Jvm.Cond.code (xmy 74) (xmb 74) (xml 74) (xmr 74) ∈ xgw := xig_mem (p := 749) (by decide +kernel)
set_option maxRecDepth 100000 in
theorem xcw76 : Jvm.Cond.code (xmy 76) (xmb 76) (xml 76) (xmr 76) ∈ xgw := xig_mem (p := 757) (by decide +kernel)
set_option maxRecDepth 100000 in
theorem xcw77 : Jvm.Cond.code (xmy 77) (xmb 77) (xml 77) (xmr 77) ∈ xgw := xig_mem (p := 761) (by decide +kernel)
set_option maxRecDepth 100000 in
theorem xcw78 : Jvm.Cond.code (xmy 78) (xmb 78) (xml 78) (xmr 78) ∈ xgw := xig_mem (p := 767) (by decide +kernel)
set_option maxRecDepth 100000 in
theorem xcw79 : Jvm.Cond.code (xmy 79) (xmb 79) (xml 79) (xmr 79) ∈ xgw := xig_mem (p := 773) (by decide +kernel)
set_option maxRecDepth 100000 in
theorem xcw80 : Jvm.Cond.code (xmy 80) (xmb 80) (xml 80) (xmr 80) ∈ xgw := xig_mem (p := 781) (by decide +kernel)
set_option maxRecDepth 100000 in
theorem xcw82 : Jvm.Cond.code (xmy 82) (xmb 82) (xml 82) (xmr 82) ∈ xgw := xig_mem (p := 789) (by decide +kernel)
set_option maxRecDepth 100000 in
theorem xcw83 : Jvm.Cond.code (xmy 83) (xmb 83) (xml 83) (xmr 83) ∈ xgw := xig_mem (p := 795) (by decide +kernel)
set_option maxRecDepth 100000 in
theorem xcw84 : Jvm.Cond.code (xmy 84) (xmb 84) (xml 84) (xmr 84) ∈ xgw := xig_mem (p := 799) (by decide +kernel)
set_option maxRecDepth 100000 in
theorem xcw86 : Jvm.Cond.code (xmy 86) (xmb 86) (xml 86) (xmr 86) ∈ xgw := xig_mem (p := 807) (by decide +kernel)
set_option maxRecDepth 100000 in
theorem xcw87 : Jvm.Cond.code (xmy 87) (xmb 87) (xml 87) (xmr 87) ∈ xgw := xig_mem (p := 812) (by decide +kernel)
set_option maxRecDepth 100000 in
theorem xcw88 : Jvm.Cond.code (xmy 88) (xmb 88) (xml 88) (xmr 88) ∈ xgw := xig_mem (p := 817) (by decide +kernel)
set_option maxRecDepth 100000 in
theorem xcw89 : Jvm.Cond.code (xmy 89) (xmb 89) (xml 89) (xmr 89) ∈ xgw := xig_mem (p := 822) (by decide +kernel)
set_option maxRecDepth 100000 in
theorem xcw90 : Jvm.Cond.code (xmy 90) (xmb 90) (xml 90) (xmr 90) ∈ xgw := xig_mem (p := 828) (by decide +kernel)
set_option maxRecDepth 100000 in
theorem xcw92 : Jvm.Cond.code (xmy 92) (xmb 92) (xml 92) (xmr 92) ∈ xgw := xig_mem (p := 837) (by decide +kernel)
set_option maxRecDepth 100000 in
theorem xcw94 : Jvm.Cond.code (xmy 94) (xmb 94) (xml 94) (xmr 94) ∈ xgw := xig_mem (p := 848) (by decide +kernel)
set_option maxRecDepth 100000 in
theorem xcw95 : Jvm.Cond.code (xmy 95) (xmb 95) (xml 95) (xmr 95) ∈ xgw := xig_mem (p := 853) (by decide +kernel)
set_option maxRecDepth 100000 in
theorem xcw96 : Jvm.Cond.code (xmy 96) (xmb 96) (xml 96) (xmr 96) ∈ xgw := xig_mem (p := 857) (by decide +kernel)
set_option maxRecDepth 100000 in
theorem xcw97 : Jvm.Cond.code (xmy 97) (xmb 97) (xml 97) (xmr 97) ∈ xgw := xig_mem (p := 862) (by decide +kernel)
set_option maxRecDepth 100000 in
theorem xcw98 : Jvm.Cond.code (xmy 98) (xmb 98) (xml 98) (xmr 98) ∈ xgw := xig_mem (p := 868) (by decide +kernel)
set_option maxRecDepth 100000 in
theorem xcw100 : Jvm.Cond.code (xmy 100) (xmb 100) (xml 100) (xmr 100) ∈ xgw := xig_mem (p := 875) (by decide +kernel)
set_option maxRecDepth 100000 in
theorem xcw101 : Jvm.Cond.code (xmy 101) (xmb 101) (xml 101) (xmr 101) ∈ xgw := xig_mem (p := 880) (by decide +kernel)
set_option maxRecDepth 100000 in
theorem xcw103 : Jvm.Cond.code (xmy 103) (xmb 103) (xml 103) (xmr 103) ∈ xgw := xig_mem (p := 889) (by decide +kernel)
set_option maxRecDepth 100000 in
theorem xcw104 : Jvm.Cond.code (xmy 104) (xmb 104) (xml 104) (xmr 104) ∈ xgw := xig_mem (p := 894) (by decide +kernel)
set_option maxRecDepth 100000 in
theorem xcw105 : Jvm.Cond.code (xmy 105) (xmb 105) (xml 105) (xmr 105) ∈ xgw := xig_mem (p := 899) (by decide +kernel)
set_option maxRecDepth 100000 in
theorem xcw107 : Jvm.Cond.code (xmy 107) (xmb 107) (xml 107) (xmr 107) ∈ xgw := xig_mem (p := 908) (by decide +kernel)
set_option maxRecDepth 100000 in
theorem xcw108 : Jvm.Cond.code (xmy 108) (xmb 108) (xml 108) (xmr 108) ∈ xgw := xig_mem (p := 912) (by decide +kernel)
set_option maxRecDepth 100000 in
theorem xcw109 : Jvm.Cond.code (xmy 109) (xmb 109) (xml 109) (xmr 109) ∈ xgw := xig_mem (p := 918) (by decide +kernel)
set_option maxRecDepth 100000 in
theorem xcw111 : Jvm.Cond.code (xmy 111) (xmb 111) (xml 111) (xmr 111) ∈ xgw := xig_mem (p := 926) (by decide +kernel)
set_option maxRecDepth 100000 in
theorem xcw112 : Jvm.Cond.code (xmy 112) (xmb 112) (xml 112) (xmr 112) ∈ xgw := xig_mem (p := 931) (by decide +kernel)
set_option maxRecDepth 100000 in
theorem xcw114 : Jvm.Cond.code (xmy 114) (xmb 114) (xml 114) (xmr 114) ∈ xgw := xig_mem (p := 939) (by decide +kernel)
set_option maxRecDepth 100000 in
theorem xcw115 : Jvm.Cond.code (xmy 115) (xmb 115) (xml 115) (xmr 115) ∈ xgw := xig_mem (p := 944) (by decide +kernel)
set_option maxRecDepth 100000 in
theorem xcw116 : Jvm.Cond.code (xmy 116) (xmb 116) (xml 116) (xmr 116) ∈ xgw := xig_mem (p := 948) (by decide +kernel)
set_option maxRecDepth 100000 in
theorem xcw117 : Jvm.Cond.code (xmy 117) (xmb 117) (xml 117) (xmr 117) ∈ xgw := xig_mem (p := 956) (by decide +kernel)
set_option maxRecDepth 100000 in
theorem xcw118 : Jvm.Cond.code (xmy 118) (xmb 118) (xml 118) (xmr 118) ∈ xgw := xig_mem (p := 960) (by decide +kernel)
set_option maxRecDepth 100000 in
theorem xcw119 : Jvm.Cond.code (xmy 119) (xmb 119) (xml 119) (xmr 119) ∈ xgw := xig_mem (p := 965) (by decide +kernel)
set_option maxRecDepth 100000 in
theorem xcw120 : Jvm.Cond.code (xmy 120) (xmb 120) (xml 120) (xmr 120) ∈ xgw := xig_mem (p := 972) (by decide +kernel)
set_option maxRecDepth 100000 in
theorem xcw129 : Jvm.Cond.code (xmy 129) (xmb 129) (xml 129) (xmr 129) ∈ xgw := xig_mem (p := 1008) (by decide +kernel)
set_option maxRecDepth 100000 in
theorem xcw130 : Jvm.Cond.code (xmy 130) (xmb 130) (xml 130) (xmr 130) ∈ xgw := xig_mem (p := 1012) (by decide +kernel)
set_option maxRecDepth 100000 in
theorem xcw131 : Jvm.Cond.code (xmy 131) (xmb 131) (xml 131) (xmr 131) ∈ xgw := xig_mem (p := 1016) (by decide +kernel)
set_option maxRecDepth 100000 in
theorem xcw133 : Jvm.Cond.code (xmy 133) (xmb 133) (xml 133) (xmr 133) ∈ xgw := xig_mem (p := 1023) (by decide +kernel)
set_option maxRecDepth 100000 in
theorem xcw134 : Jvm.Cond.code (xmy 134) (xmb 134) (xml 134) (xmr 134) ∈ xgw := xig_mem (p := 1027) (by decide +kernel)
set_option maxRecDepth 100000 in
theorem xcw136 : Jvm.Cond.code (xmy 136) (xmb 136) (xml 136) (xmr 136) ∈ xgw := xig_mem (p := 1035) (by decide +kernel)
set_option maxRecDepth 100000 in
theorem xcw137 : Jvm.Cond.code (xmy 137) (xmb 137) (xml 137) (xmr 137) ∈ xgw := xig_mem (p := 1041) (by decide +kernel)
set_option maxRecDepth 100000 in
theorem xcw138 : Jvm.Cond.code (xmy 138) (xmb 138) (xml 138) (xmr 138) ∈ xgw := xig_mem (p := 1049) (by decide +kernel)
set_option maxRecDepth 100000 in
theorem xcw139 : Jvm.Cond.code (xmy 139) (xmb 139) (xml 139) (xmr 139) ∈ xgw := xig_mem (p := 1052) (by decide +kernel)
set_option maxRecDepth 100000 in
theorem xcw140 : Jvm.Cond.code (xmy 140) (xmb 140) (xml 140) (xmr 140) ∈ xgw := xig_mem (p := 1055) (by decide +kernel)
set_option maxRecDepth 100000 in
theorem xcw141 : Jvm.Cond.code (xmy 141) (xmb 141) (xml 141) (xmr 141) ∈ xgw := xig_mem (p := 1163) (by decide +kernel)
set_option maxRecDepth 100000 in
theorem xcw142 : Jvm.Cond.code (xmy 142) (xmb 142) (xml 142) (xmr 142) ∈ xgw := xig_mem (p := 1167) (by decide +kernel)
set_option maxRecDepth 100000 in
theorem xcw143 : Jvm.Cond.code (xmy 143) (xmb 143) (xml 143) (xmr 143) ∈ xgw := xig_mem (p := 1170) (by decide +kernel)
set_option maxRecDepth 100000 in
theorem xcw144 : Jvm.Cond.code (xmy 144) (xmb 144) (xml 144) (xmr 144) ∈ xgw := xig_mem (p := 1174) (by decide +kernel)
set_option maxRecDepth 100000 in
theorem xcw145 : Jvm.Cond.code (xmy 145) (xmb 145) (xml 145) (xmr 145) ∈ xgw := xig_mem (p := 1178) (by decide +kernel)
set_option maxRecDepth 100000 in
theorem xcw146 : Jvm.Cond.code (xmy 146) (xmb 146) (xml 146) (xmr 146) ∈ xgw := xig_mem (p := 1182) (by decide +kernel)
set_option maxRecDepth 100000 in
theorem xcw147 : Jvm.Cond.code (xmy 147) (xmb 147) (xml 147) (xmr 147) ∈ xgw := xig_mem (p := 1185) (by decide +kernel)
set_option maxRecDepth 100000 in
theorem xcw148 : Jvm.Cond.code (xmy 148) (xmb 148) (xml 148) (xmr 148) ∈ xgw := xig_mem (p := 1189) (by decide +kernel)
set_option maxRecDepth 100000 in
theorem xcw149 : Jvm.Cond.code (xmy 149) (xmb 149) (xml 149) (xmr 149) ∈ xgw := xig_mem (p := 1192) (by decide +kernel)
set_option maxRecDepth 100000 in
theorem xcw150 : Jvm.Cond.code (xmy 150) (xmb 150) (xml 150) (xmr 150) ∈ xgw := xig_mem (p := 1196) (by decide +kernel)
set_option maxRecDepth 100000 in
theorem xcw151 : Jvm.Cond.code (xmy 151) (xmb 151) (xml 151) (xmr 151) ∈ xgw := xig_mem (p := 1200) (by decide +kernel)
set_option maxRecDepth 100000 in
theorem xcw152 : Jvm.Cond.code (xmy 152) (xmb 152) (xml 152) (xmr 152) ∈ xgw := xig_mem (p := 1204) (by decide +kernel)
set_option maxRecDepth 100000 in
theorem xcw153 : Jvm.Cond.code (xmy 153) (xmb 153) (xml 153) (xmr 153) ∈ xgw := xig_mem (p := 1208) (by decide +kernel)
set_option maxRecDepth 100000 in
theorem xcw154 : Jvm.Cond.code (xmy 154) (xmb 154) (xml 154) (xmr 154) ∈ xgw := xig_mem (p := 1212) (by decide +kernel)
set_option maxRecDepth 100000 in
theorem xcw155 : Jvm.Cond.code (xmy 155) (xmb 155) (xml 155) (xmr 155) ∈ xgw := xig_mem (p := 1216) (by decide +kernel)
set_option maxRecDepth 100000 in
theorem xcw156 : Jvm.Cond.code (xmy 156) (xmb 156) (xml 156) (xmr 156) ∈ xgw := xig_mem (p := 1220) (by decide +kernel)
set_option maxRecDepth 100000 in
theorem xcw157 : Jvm.Cond.code (xmy 157) (xmb 157) (xml 157) (xmr 157) ∈ xgw := xig_mem (p := 1224) (by decide +kernel)
set_option maxRecDepth 100000 in
theorem xcw158 : Jvm.Cond.code (xmy 158) (xmb 158) (xml 158) (xmr 158) ∈ xgw := xig_mem (p := 1228) (by decide +kernel)
set_option maxRecDepth 100000 in
theorem xcw159 : Jvm.Cond.code (xmy 159) (xmb 159) (xml 159) (xmr 159) ∈ xgw := xig_mem (p := 1232) (by decide +kernel)
set_option maxRecDepth 100000 in
theorem xcw160 : Jvm.Cond.code (xmy 160) (xmb 160) (xml 160) (xmr 160) ∈ xgw := xig_mem (p := 1236) (by decide +kernel)
set_option maxRecDepth 100000 in
theorem xcw161 : Jvm.Cond.code (xmy 161) (xmb 161) (xml 161) (xmr 161) ∈ xgw := xig_mem (p := 1240) (by decide +kernel)
set_option maxRecDepth 100000 in
theorem xcw162 : Jvm.Cond.code (xmy 162) (xmb 162) (xml 162) (xmr 162) ∈ xgw := xig_mem (p := 1244) (by decide +kernel)
set_option maxRecDepth 100000 in
theorem xcw163 : Jvm.Cond.code (xmy 163) (xmb 163) (xml 163) (xmr 163) ∈ xgw := xig_mem (p := 1248) (by decide +kernel)
set_option maxRecDepth 100000 in
theorem xcw164 : Jvm.Cond.code (xmy 164) (xmb 164) (xml 164) (xmr 164) ∈ xgw := xig_mem (p := 1252) (by decide +kernel)
set_option maxRecDepth 100000 in
theorem xcw165 : Jvm.Cond.code (xmy 165) (xmb 165) (xml 165) (xmr 165) ∈ xgw := xig_mem (p := 1256) (by decide +kernel)
set_option maxRecDepth 100000 in
theorem xcw166 : Jvm.Cond.code (xmy 166) (xmb 166) (xml 166) (xmr 166) ∈ xgw := xig_mem (p := 1261) (by decide +kernel)
set_option maxRecDepth 100000 in
theorem xcw167 : Jvm.Cond.code (xmy 167) (xmb 167) (xml 167) (xmr 167) ∈ xgw := xig_mem (p := 1267) (by decide +kernel)
set_option maxRecDepth 100000 in
theorem xcw168 : Jvm.Cond.code (xmy 168) (xmb 168) (xml 168) (xmr 168) ∈ xgw := xig_mem (p := 1272) (by decide +kernel)
set_option maxRecDepth 100000 in
theorem xcw169 : Jvm.Cond.code (xmy 169) (xmb 169) (xml 169) (xmr 169) ∈ xgw := xig_mem (p := 1276) (by decide +kernel)
set_option maxRecDepth 100000 in
theorem xcw170 : Jvm.Cond.code (xmy 170) (xmb 170) (xml 170) (xmr 170) ∈ xgw := xig_mem (p := 1281) (by decide +kernel)
set_option maxRecDepth 100000 in
theorem xcw171 : Jvm.Cond.code (xmy 171) (xmb 171) (xml 171) (xmr 171) ∈ xgw := xig_mem (p := 1285) (by decide +kernel)
set_option maxRecDepth 100000 in
theorem xcw172 : Jvm.Cond.code (xmy 172) (xmb 172) (xml 172) (xmr 172) ∈ xgw := xig_mem (p := 1289) (by decide +kernel)
set_option maxRecDepth 100000 in
theorem xcw173 : Jvm.Cond.code (xmy 173) (xmb 173) (xml 173) (xmr 173) ∈ xgw := xig_mem (p := 1293) (by decide +kernel)
set_option maxRecDepth 100000 in
theorem xcw174 : Jvm.Cond.code (xmy 174) (xmb 174) (xml 174) (xmr 174) ∈ xgw := xig_mem (p := 1393) (by decide +kernel)
set_option maxRecDepth 100000 in
theorem xcw175 : Jvm.Cond.code (xmy 175) (xmb 175) (xml 175) (xmr 175) ∈ xgw := xig_mem (p := 1402) (by decide +kernel)
set_option maxRecDepth 100000 in
theorem xcw176 : Jvm.Cond.code (xmy 176) (xmb 176) (xml 176) (xmr 176) ∈ xgw := xig_mem (p := 1428) (by decide +kernel)
set_option maxRecDepth 100000 in
theorem xcw177 : Jvm.Cond.code (xmy 177) (xmb 177) (xml 177) (xmr 177) ∈ xgw := xig_mem (p := 1432) (by decide +kernel)
set_option maxRecDepth 100000 in
theorem xcw178 : Jvm.Cond.code (xmy 178) (xmb 178) (xml 178) (xmr 178) ∈ xgw := xig_mem (p := 1436) (by decide +kernel)
set_option maxRecDepth 100000 in
theorem xcw179 : Jvm.Cond.code (xmy 179) (xmb 179) (xml 179) (xmr 179) ∈ xgw := xig_mem (p := 1440) (by decide +kernel)
set_option maxRecDepth 100000 in
theorem xcw180 : Jvm.Cond.code (xmy 180) (xmb 180) (xml 180) (xmr 180) ∈ xgw := xig_mem (p := 1444) (by decide +kernel)
set_option maxRecDepth 100000 in
theorem xcw181 : Jvm.Cond.code (xmy 181) (xmb 181) (xml 181) (xmr 181) ∈ xgw := xig_mem (p := 1448) (by decide +kernel)
set_option maxRecDepth 100000 in
theorem xcw182 : Jvm.Cond.code (xmy 182) (xmb 182) (xml 182) (xmr 182) ∈ xgw := xig_mem (p := 1452) (by decide +kernel)
set_option maxRecDepth 100000 in
theorem xcw183 : Jvm.Cond.code (xmy 183) (xmb 183) (xml 183) (xmr 183) ∈ xgw := xig_mem (p := 1456) (by decide +kernel)
set_option maxRecDepth 100000 in
theorem xcw184 : Jvm.Cond.code (xmy 184) (xmb 184) (xml 184) (xmr 184) ∈ xgw := xig_mem (p := 1460) (by decide +kernel)
set_option maxRecDepth 100000 in
theorem xcw185 : Jvm.Cond.code (xmy 185) (xmb 185) (xml 185) (xmr 185) ∈ xgw := xig_mem (p := 1464) (by decide +kernel)
set_option maxRecDepth 100000 in
theorem xcw186 : Jvm.Cond.code (xmy 186) (xmb 186) (xml 186) (xmr 186) ∈ xgw := xig_mem (p := 1468) (by decide +kernel)
set_option maxRecDepth 100000 in
theorem xcw187 : Jvm.Cond.code (xmy 187) (xmb 187) (xml 187) (xmr 187) ∈ xgw := xig_mem (p := 1472) (by decide +kernel)
set_option maxRecDepth 100000 in
theorem xcw188 : Jvm.Cond.code (xmy 188) (xmb 188) (xml 188) (xmr 188) ∈ xgw := xig_mem (p := 1476) (by decide +kernel)
set_option maxRecDepth 100000 in
theorem xcw189 : Jvm.Cond.code (xmy 189) (xmb 189) (xml 189) (xmr 189) ∈ xgw := xig_mem (p := 1480) (by decide +kernel)
set_option maxRecDepth 100000 in
theorem xcw190 : Jvm.Cond.code (xmy 190) (xmb 190) (xml 190) (xmr 190) ∈ xgw := xig_mem (p := 1484) (by decide +kernel)
set_option maxRecDepth 100000 in
theorem xcw191 : Jvm.Cond.code (xmy 191) (xmb 191) (xml 191) (xmr 191) ∈ xgw := xig_mem (p := 1488) (by decide +kernel)
set_option maxRecDepth 100000 in
theorem xcw192 : Jvm.Cond.code (xmy 192) (xmb 192) (xml 192) (xmr 192) ∈ xgw := xig_mem (p := 1492) (by decide +kernel)
set_option maxRecDepth 100000 in
theorem xcw193 : Jvm.Cond.code (xmy 193) (xmb 193) (xml 193) (xmr 193) ∈ xgw := xig_mem (p := 1496) (by decide +kernel)
set_option maxRecDepth 100000 in
theorem xcw194 : Jvm.Cond.code (xmy 194) (xmb 194) (xml 194) (xmr 194) ∈ xgw := xig_mem (p := 1500) (by decide +kernel)
set_option maxRecDepth 100000 in
theorem xcw195 : Jvm.Cond.code (xmy 195) (xmb 195) (xml 195) (xmr 195) ∈ xgw := xig_mem (p := 1504) (by decide +kernel)
set_option maxRecDepth 100000 in
theorem xcw196 : Jvm.Cond.code (xmy 196) (xmb 196) (xml 196) (xmr 196) ∈ xgw := xig_mem (p := 1509) (by decide +kernel)
set_option maxRecDepth 100000 in
theorem xcw197 : Jvm.Cond.code (xmy 197) (xmb 197) (xml 197) (xmr 197) ∈ xgw := xig_mem (p := 1515) (by decide +kernel)
theorem xcod_ok : ∀ {μ : Nat}, xcod μ = true → Jvm.Cond.code (xmy μ) (xmb μ) (xml μ) (xmr μ) ∈ xgw
  | 0, _ => xcw0
  | 1, _ => xcw1
  | 2, _ => xcw2
  | 3, _ => xcw3
  | 4, _ => xcw4
  | 5, _ => xcw5
  | 6, _ => xcw6
  | 7, _ => xcw7
  | 8, _ => xcw8
  | 9, _ => xcw9
  | 10, _ => xcw10
  | 11, _ => xcw11
  | 12, _ => xcw12
  | 13, _ => xcw13
  | 14, _ => xcw14
  | 15, _ => xcw15
  | 16, _ => xcw16
  | 17, _ => xcw17
  | 18, _ => xcw18
  | 19, _ => xcw19
  | 20, _ => xcw20
  | 21, _ => xcw21
  | 22, _ => xcw22
  | 23, _ => xcw23
  | 24, _ => xcw24
  | 25, _ => xcw25
  | 26, _ => xcw26
  | 27, _ => xcw27
  | 28, _ => xcw28
  | 29, _ => xcw29
  | 30, _ => xcw30
  | 31, _ => xcw31
  | 32, _ => xcw32
  | 33, _ => xcw33
  | 34, _ => xcw34
  | 35, _ => xcw35
  | 36, _ => xcw36
  | 37, _ => xcw37
  | 38, _ => xcw38
  | 39, _ => xcw39
  | 40, _ => xcw40
  | 41, _ => xcw41
  | 42, _ => xcw42
  | 43, _ => xcw43
  | 44, _ => xcw44
  | 45, _ => xcw45
  | 46, _ => xcw46
  | 47, _ => xcw47
  | 48, _ => xcw48
  | 49, _ => xcw49
  | 50, _ => xcw50
  | 51, _ => xcw51
  | 52, _ => xcw52
  | 53, _ => xcw53
  | 54, _ => xcw54
  | 55, _ => xcw55
  | 56, _ => xcw56
  | 57, _ => xcw57
  | 58, _ => xcw58
  | 59, _ => xcw59
  | 60, _ => xcw60
  | 61, _ => xcw61
  | 62, _ => xcw62
  | 63, _ => xcw63
  | 64, _ => xcw64
  | 65, _ => xcw65
  | 66, _ => xcw66
  | 67, _ => xcw67
  | 68, h => absurd h (by decide)
  | 69, _ => xcw69
  | 70, _ => xcw70
  | 71, _ => xcw71
  | 72, h => absurd h (by decide)
  | 73, _ => xcw73
  | 74, _ => xcw74
  | 75, h => absurd h (by decide)
  | 76, _ => xcw76
  | 77, _ => xcw77
  | 78, _ => xcw78
  | 79, _ => xcw79
  | 80, _ => xcw80
  | 81, h => absurd h (by decide)
  | 82, _ => xcw82
  | 83, _ => xcw83
  | 84, _ => xcw84
  | 85, h => absurd h (by decide)
  | 86, _ => xcw86
  | 87, _ => xcw87
  | 88, _ => xcw88
  | 89, _ => xcw89
  | 90, _ => xcw90
  | 91, h => absurd h (by decide)
  | 92, _ => xcw92
  | 93, h => absurd h (by decide)
  | 94, _ => xcw94
  | 95, _ => xcw95
  | 96, _ => xcw96
  | 97, _ => xcw97
  | 98, _ => xcw98
  | 99, h => absurd h (by decide)
  | 100, _ => xcw100
  | 101, _ => xcw101
  | 102, h => absurd h (by decide)
  | 103, _ => xcw103
  | 104, _ => xcw104
  | 105, _ => xcw105
  | 106, h => absurd h (by decide)
  | 107, _ => xcw107
  | 108, _ => xcw108
  | 109, _ => xcw109
  | 110, h => absurd h (by decide)
  | 111, _ => xcw111
  | 112, _ => xcw112
  | 113, h => absurd h (by decide)
  | 114, _ => xcw114
  | 115, _ => xcw115
  | 116, _ => xcw116
  | 117, _ => xcw117
  | 118, _ => xcw118
  | 119, _ => xcw119
  | 120, _ => xcw120
  | 121, h => absurd h (by decide)
  | 122, h => absurd h (by decide)
  | 123, h => absurd h (by decide)
  | 124, h => absurd h (by decide)
  | 125, h => absurd h (by decide)
  | 126, h => absurd h (by decide)
  | 127, h => absurd h (by decide)
  | 128, h => absurd h (by decide)
  | 129, _ => xcw129
  | 130, _ => xcw130
  | 131, _ => xcw131
  | 132, h => absurd h (by decide)
  | 133, _ => xcw133
  | 134, _ => xcw134
  | 135, h => absurd h (by decide)
  | 136, _ => xcw136
  | 137, _ => xcw137
  | 138, _ => xcw138
  | 139, _ => xcw139
  | 140, _ => xcw140
  | 141, _ => xcw141
  | 142, _ => xcw142
  | 143, _ => xcw143
  | 144, _ => xcw144
  | 145, _ => xcw145
  | 146, _ => xcw146
  | 147, _ => xcw147
  | 148, _ => xcw148
  | 149, _ => xcw149
  | 150, _ => xcw150
  | 151, _ => xcw151
  | 152, _ => xcw152
  | 153, _ => xcw153
  | 154, _ => xcw154
  | 155, _ => xcw155
  | 156, _ => xcw156
  | 157, _ => xcw157
  | 158, _ => xcw158
  | 159, _ => xcw159
  | 160, _ => xcw160
  | 161, _ => xcw161
  | 162, _ => xcw162
  | 163, _ => xcw163
  | 164, _ => xcw164
  | 165, _ => xcw165
  | 166, _ => xcw166
  | 167, _ => xcw167
  | 168, _ => xcw168
  | 169, _ => xcw169
  | 170, _ => xcw170
  | 171, _ => xcw171
  | 172, _ => xcw172
  | 173, _ => xcw173
  | 174, _ => xcw174
  | 175, _ => xcw175
  | 176, _ => xcw176
  | 177, _ => xcw177
  | 178, _ => xcw178
  | 179, _ => xcw179
  | 180, _ => xcw180
  | 181, _ => xcw181
  | 182, _ => xcw182
  | 183, _ => xcw183
  | 184, _ => xcw184
  | 185, _ => xcw185
  | 186, _ => xcw186
  | 187, _ => xcw187
  | 188, _ => xcw188
  | 189, _ => xcw189
  | 190, _ => xcw190
  | 191, _ => xcw191
  | 192, _ => xcw192
  | 193, _ => xcw193
  | 194, _ => xcw194
  | 195, _ => xcw195
  | 196, _ => xcw196
  | 197, _ => xcw197
  | 198, h => absurd h (by decide)
  | (k + 199), h => absurd h (by show ¬ false = true; decide)
theorem xcod_lt : ∀ {μ : Nat}, xcod μ = true → μ < xNM
  | 0, _ => by decide
  | 1, _ => by decide
  | 2, _ => by decide
  | 3, _ => by decide
  | 4, _ => by decide
  | 5, _ => by decide
  | 6, _ => by decide
  | 7, _ => by decide
  | 8, _ => by decide
  | 9, _ => by decide
  | 10, _ => by decide
  | 11, _ => by decide
  | 12, _ => by decide
  | 13, _ => by decide
  | 14, _ => by decide
  | 15, _ => by decide
  | 16, _ => by decide
  | 17, _ => by decide
  | 18, _ => by decide
  | 19, _ => by decide
  | 20, _ => by decide
  | 21, _ => by decide
  | 22, _ => by decide
  | 23, _ => by decide
  | 24, _ => by decide
  | 25, _ => by decide
  | 26, _ => by decide
  | 27, _ => by decide
  | 28, _ => by decide
  | 29, _ => by decide
  | 30, _ => by decide
  | 31, _ => by decide
  | 32, _ => by decide
  | 33, _ => by decide
  | 34, _ => by decide
  | 35, _ => by decide
  | 36, _ => by decide
  | 37, _ => by decide
  | 38, _ => by decide
  | 39, _ => by decide
  | 40, _ => by decide
  | 41, _ => by decide
  | 42, _ => by decide
  | 43, _ => by decide
  | 44, _ => by decide
  | 45, _ => by decide
  | 46, _ => by decide
  | 47, _ => by decide
  | 48, _ => by decide
  | 49, _ => by decide
  | 50, _ => by decide
  | 51, _ => by decide
  | 52, _ => by decide
  | 53, _ => by decide
  | 54, _ => by decide
  | 55, _ => by decide
  | 56, _ => by decide
  | 57, _ => by decide
  | 58, _ => by decide
  | 59, _ => by decide
  | 60, _ => by decide
  | 61, _ => by decide
  | 62, _ => by decide
  | 63, _ => by decide
  | 64, _ => by decide
  | 65, _ => by decide
  | 66, _ => by decide
  | 67, _ => by decide
  | 68, _ => by decide
  | 69, _ => by decide
  | 70, _ => by decide
  | 71, _ => by decide
  | 72, _ => by decide
  | 73, _ => by decide
  | 74, _ => by decide
  | 75, _ => by decide
  | 76, _ => by decide
  | 77, _ => by decide
  | 78, _ => by decide
  | 79, _ => by decide
  | 80, _ => by decide
  | 81, _ => by decide
  | 82, _ => by decide
  | 83, _ => by decide
  | 84, _ => by decide
  | 85, _ => by decide
  | 86, _ => by decide
  | 87, _ => by decide
  | 88, _ => by decide
  | 89, _ => by decide
  | 90, _ => by decide
  | 91, _ => by decide
  | 92, _ => by decide
  | 93, _ => by decide
  | 94, _ => by decide
  | 95, _ => by decide
  | 96, _ => by decide
  | 97, _ => by decide
  | 98, _ => by decide
  | 99, _ => by decide
  | 100, _ => by decide
  | 101, _ => by decide
  | 102, _ => by decide
  | 103, _ => by decide
  | 104, _ => by decide
  | 105, _ => by decide
  | 106, _ => by decide
  | 107, _ => by decide
  | 108, _ => by decide
  | 109, _ => by decide
  | 110, _ => by decide
  | 111, _ => by decide
  | 112, _ => by decide
  | 113, _ => by decide
  | 114, _ => by decide
  | 115, _ => by decide
  | 116, _ => by decide
  | 117, _ => by decide
  | 118, _ => by decide
  | 119, _ => by decide
  | 120, _ => by decide
  | 121, _ => by decide
  | 122, _ => by decide
  | 123, _ => by decide
  | 124, _ => by decide
  | 125, _ => by decide
  | 126, _ => by decide
  | 127, _ => by decide
  | 128, _ => by decide
  | 129, _ => by decide
  | 130, _ => by decide
  | 131, _ => by decide
  | 132, _ => by decide
  | 133, _ => by decide
  | 134, _ => by decide
  | 135, _ => by decide
  | 136, _ => by decide
  | 137, _ => by decide
  | 138, _ => by decide
  | 139, _ => by decide
  | 140, _ => by decide
  | 141, _ => by decide
  | 142, _ => by decide
  | 143, _ => by decide
  | 144, _ => by decide
  | 145, _ => by decide
  | 146, _ => by decide
  | 147, _ => by decide
  | 148, _ => by decide
  | 149, _ => by decide
  | 150, _ => by decide
  | 151, _ => by decide
  | 152, _ => by decide
  | 153, _ => by decide
  | 154, _ => by decide
  | 155, _ => by decide
  | 156, _ => by decide
  | 157, _ => by decide
  | 158, _ => by decide
  | 159, _ => by decide
  | 160, _ => by decide
  | 161, _ => by decide
  | 162, _ => by decide
  | 163, _ => by decide
  | 164, _ => by decide
  | 165, _ => by decide
  | 166, _ => by decide
  | 167, _ => by decide
  | 168, _ => by decide
  | 169, _ => by decide
  | 170, _ => by decide
  | 171, _ => by decide
  | 172, _ => by decide
  | 173, _ => by decide
  | 174, _ => by decide
  | 175, _ => by decide
  | 176, _ => by decide
  | 177, _ => by decide
  | 178, _ => by decide
  | 179, _ => by decide
  | 180, _ => by decide
  | 181, _ => by decide
  | 182, _ => by decide
  | 183, _ => by decide
  | 184, _ => by decide
  | 185, _ => by decide
  | 186, _ => by decide
  | 187, _ => by decide
  | 188, _ => by decide
  | 189, _ => by decide
  | 190, _ => by decide
  | 191, _ => by decide
  | 192, _ => by decide
  | 193, _ => by decide
  | 194, _ => by decide
  | 195, _ => by decide
  | 196, _ => by decide
  | 197, _ => by decide
  | 198, _ => by decide
  | (k + 199), h => absurd h (by show ¬ false = true; decide)
set_option maxRecDepth 100000 in
theorem xcv68 : Jvm.Cond.codeWith (xmy 68) (xmb 68) (xml 68) (xmr 68) (xmh 68) ∈ xgw := xig_mem (p := 706) (by decide +kernel)
set_option maxRecDepth 100000 in
theorem xcv72 : Jvm.Cond.codeWith (xmy 72) (xmb 72) (xml 72) (xmr 72) (xmh 72) ∈ xgw := xig_mem (p := 740) (by decide +kernel)
set_option maxRecDepth 100000 in
theorem xcv75 : Jvm.Cond.codeWith (xmy 75) (xmb 75) (xml 75) (xmr 75) (xmh 75) ∈ xgw := xig_mem (p := 753) (by decide +kernel)
set_option maxRecDepth 100000 in
theorem xcv81 : Jvm.Cond.codeWith (xmy 81) (xmb 81) (xml 81) (xmr 81) (xmh 81) ∈ xgw := xig_mem (p := 785) (by decide +kernel)
set_option maxRecDepth 100000 in
theorem xcv85 : Jvm.Cond.codeWith (xmy 85) (xmb 85) (xml 85) (xmr 85) (xmh 85) ∈ xgw := xig_mem (p := 803) (by decide +kernel)
set_option maxRecDepth 100000 in
theorem xcv91 : Jvm.Cond.codeWith (xmy 91) (xmb 91) (xml 91) (xmr 91) (xmh 91) ∈ xgw := xig_mem (p := 832) (by decide +kernel)
set_option maxRecDepth 100000 in
theorem xcv93 : Jvm.Cond.codeWith (xmy 93) (xmb 93) (xml 93) (xmr 93) (xmh 93) ∈ xgw := xig_mem (p := 844) (by decide +kernel)
set_option maxRecDepth 100000 in
theorem xcv99 : Jvm.Cond.codeWith (xmy 99) (xmb 99) (xml 99) (xmr 99) (xmh 99) ∈ xgw := xig_mem (p := 871) (by decide +kernel)
set_option maxRecDepth 100000 in
theorem xcv102 : Jvm.Cond.codeWith (xmy 102) (xmb 102) (xml 102) (xmr 102) (xmh 102) ∈ xgw := xig_mem (p := 885) (by decide +kernel)
set_option maxRecDepth 100000 in
theorem xcv106 : Jvm.Cond.codeWith (xmy 106) (xmb 106) (xml 106) (xmr 106) (xmh 106) ∈ xgw := xig_mem (p := 904) (by decide +kernel)
set_option maxRecDepth 100000 in
theorem xcv110 : Jvm.Cond.codeWith (xmy 110) (xmb 110) (xml 110) (xmr 110) (xmh 110) ∈ xgw := xig_mem (p := 922) (by decide +kernel)
set_option maxRecDepth 100000 in
theorem xcv113 : Jvm.Cond.codeWith (xmy 113) (xmb 113) (xml 113) (xmr 113) (xmh 113) ∈ xgw := xig_mem (p := 935) (by decide +kernel)
set_option maxRecDepth 100000 in
theorem xcv121 : Jvm.Cond.codeWith (xmy 121) (xmb 121) (xml 121) (xmr 121) (xmh 121) ∈ xgw := xig_mem (p := 976) (by decide +kernel)
set_option maxRecDepth 100000 in
theorem xcv122 : Jvm.Cond.codeWith (xmy 122) (xmb 122) (xml 122) (xmr 122) (xmh 122) ∈ xgw := xig_mem (p := 980) (by decide +kernel)
set_option maxRecDepth 100000 in
theorem xcv123 : Jvm.Cond.codeWith (xmy 123) (xmb 123) (xml 123) (xmr 123) (xmh 123) ∈ xgw := xig_mem (p := 984) (by decide +kernel)
set_option maxRecDepth 100000 in
theorem xcv124 : Jvm.Cond.codeWith (xmy 124) (xmb 124) (xml 124) (xmr 124) (xmh 124) ∈ xgw := xig_mem (p := 988) (by decide +kernel)
set_option maxRecDepth 100000 in
theorem xcv125 : Jvm.Cond.codeWith (xmy 125) (xmb 125) (xml 125) (xmr 125) (xmh 125) ∈ xgw := xig_mem (p := 992) (by decide +kernel)
set_option maxRecDepth 100000 in
theorem xcv126 : Jvm.Cond.codeWith (xmy 126) (xmb 126) (xml 126) (xmr 126) (xmh 126) ∈ xgw := xig_mem (p := 996) (by decide +kernel)
set_option maxRecDepth 100000 in
theorem xcv127 : Jvm.Cond.codeWith (xmy 127) (xmb 127) (xml 127) (xmr 127) (xmh 127) ∈ xgw := xig_mem (p := 1000) (by decide +kernel)
set_option maxRecDepth 100000 in
theorem xcv128 : Jvm.Cond.codeWith (xmy 128) (xmb 128) (xml 128) (xmr 128) (xmh 128) ∈ xgw := xig_mem (p := 1004) (by decide +kernel)
set_option maxRecDepth 100000 in
theorem xcv132 : Jvm.Cond.codeWith (xmy 132) (xmb 132) (xml 132) (xmr 132) (xmh 132) ∈ xgw := xig_mem (p := 1019) (by decide +kernel)
set_option maxRecDepth 100000 in
theorem xcv135 : Jvm.Cond.codeWith (xmy 135) (xmb 135) (xml 135) (xmr 135) (xmh 135) ∈ xgw := xig_mem (p := 1031) (by decide +kernel)
theorem xcow_ok : ∀ {μ : Nat}, xcow μ = true → Jvm.Cond.codeWith (xmy μ) (xmb μ) (xml μ) (xmr μ) (xmh μ) ∈ xgw
  | 0, h => absurd h (by decide)
  | 1, h => absurd h (by decide)
  | 2, h => absurd h (by decide)
  | 3, h => absurd h (by decide)
  | 4, h => absurd h (by decide)
  | 5, h => absurd h (by decide)
  | 6, h => absurd h (by decide)
  | 7, h => absurd h (by decide)
  | 8, h => absurd h (by decide)
  | 9, h => absurd h (by decide)
  | 10, h => absurd h (by decide)
  | 11, h => absurd h (by decide)
  | 12, h => absurd h (by decide)
  | 13, h => absurd h (by decide)
  | 14, h => absurd h (by decide)
  | 15, h => absurd h (by decide)
  | 16, h => absurd h (by decide)
  | 17, h => absurd h (by decide)
  | 18, h => absurd h (by decide)
  | 19, h => absurd h (by decide)
  | 20, h => absurd h (by decide)
  | 21, h => absurd h (by decide)
  | 22, h => absurd h (by decide)
  | 23, h => absurd h (by decide)
  | 24, h => absurd h (by decide)
  | 25, h => absurd h (by decide)
  | 26, h => absurd h (by decide)
  | 27, h => absurd h (by decide)
  | 28, h => absurd h (by decide)
  | 29, h => absurd h (by decide)
  | 30, h => absurd h (by decide)
  | 31, h => absurd h (by decide)
  | 32, h => absurd h (by decide)
  | 33, h => absurd h (by decide)
  | 34, h => absurd h (by decide)
  | 35, h => absurd h (by decide)
  | 36, h => absurd h (by decide)
  | 37, h => absurd h (by decide)
  | 38, h => absurd h (by decide)
  | 39, h => absurd h (by decide)
  | 40, h => absurd h (by decide)
  | 41, h => absurd h (by decide)
  | 42, h => absurd h (by decide)
  | 43, h => absurd h (by decide)
  | 44, h => absurd h (by decide)
  | 45, h => absurd h (by decide)
  | 46, h => absurd h (by decide)
  | 47, h => absurd h (by decide)
  | 48, h => absurd h (by decide)
  | 49, h => absurd h (by decide)
  | 50, h => absurd h (by decide)
  | 51, h => absurd h (by decide)
  | 52, h => absurd h (by decide)
  | 53, h => absurd h (by decide)
  | 54, h => absurd h (by decide)
  | 55, h => absurd h (by decide)
  | 56, h => absurd h (by decide)
  | 57, h => absurd h (by decide)
  | 58, h => absurd h (by decide)
  | 59, h => absurd h (by decide)
  | 60, h => absurd h (by decide)
  | 61, h => absurd h (by decide)
  | 62, h => absurd h (by decide)
  | 63, h => absurd h (by decide)
  | 64, h => absurd h (by decide)
  | 65, h => absurd h (by decide)
  | 66, h => absurd h (by decide)
  | 67, h => absurd h (by decide)
  | 68, _ => xcv68
  | 69, h => absurd h (by decide)
  | 70, h => absurd h (by decide)
  | 71, h => absurd h (by decide)
  | 72, _ => xcv72
  | 73, h => absurd h (by decide)
  | 74, h => absurd h (by decide)
  | 75, _ => xcv75
  | 76, h => absurd h (by decide)
  | 77, h => absurd h (by decide)
  | 78, h => absurd h (by decide)
  | 79, h => absurd h (by decide)
  | 80, h => absurd h (by decide)
  | 81, _ => xcv81
  | 82, h => absurd h (by decide)
  | 83, h => absurd h (by decide)
  | 84, h => absurd h (by decide)
  | 85, _ => xcv85
  | 86, h => absurd h (by decide)
  | 87, h => absurd h (by decide)
  | 88, h => absurd h (by decide)
  | 89, h => absurd h (by decide)
  | 90, h => absurd h (by decide)
  | 91, _ => xcv91
  | 92, h => absurd h (by decide)
  | 93, _ => xcv93
  | 94, h => absurd h (by decide)
  | 95, h => absurd h (by decide)
  | 96, h => absurd h (by decide)
  | 97, h => absurd h (by decide)
  | 98, h => absurd h (by decide)
  | 99, _ => xcv99
  | 100, h => absurd h (by decide)
  | 101, h => absurd h (by decide)
  | 102, _ => xcv102
  | 103, h => absurd h (by decide)
  | 104, h => absurd h (by decide)
  | 105, h => absurd h (by decide)
  | 106, _ => xcv106
  | 107, h => absurd h (by decide)
  | 108, h => absurd h (by decide)
  | 109, h => absurd h (by decide)
  | 110, _ => xcv110
  | 111, h => absurd h (by decide)
  | 112, h => absurd h (by decide)
  | 113, _ => xcv113
  | 114, h => absurd h (by decide)
  | 115, h => absurd h (by decide)
  | 116, h => absurd h (by decide)
  | 117, h => absurd h (by decide)
  | 118, h => absurd h (by decide)
  | 119, h => absurd h (by decide)
  | 120, h => absurd h (by decide)
  | 121, _ => xcv121
  | 122, _ => xcv122
  | 123, _ => xcv123
  | 124, _ => xcv124
  | 125, _ => xcv125
  | 126, _ => xcv126
  | 127, _ => xcv127
  | 128, _ => xcv128
  | 129, h => absurd h (by decide)
  | 130, h => absurd h (by decide)
  | 131, h => absurd h (by decide)
  | 132, _ => xcv132
  | 133, h => absurd h (by decide)
  | 134, h => absurd h (by decide)
  | 135, _ => xcv135
  | 136, h => absurd h (by decide)
  | 137, h => absurd h (by decide)
  | 138, h => absurd h (by decide)
  | 139, h => absurd h (by decide)
  | 140, h => absurd h (by decide)
  | 141, h => absurd h (by decide)
  | 142, h => absurd h (by decide)
  | 143, h => absurd h (by decide)
  | 144, h => absurd h (by decide)
  | 145, h => absurd h (by decide)
  | 146, h => absurd h (by decide)
  | 147, h => absurd h (by decide)
  | 148, h => absurd h (by decide)
  | 149, h => absurd h (by decide)
  | 150, h => absurd h (by decide)
  | 151, h => absurd h (by decide)
  | 152, h => absurd h (by decide)
  | 153, h => absurd h (by decide)
  | 154, h => absurd h (by decide)
  | 155, h => absurd h (by decide)
  | 156, h => absurd h (by decide)
  | 157, h => absurd h (by decide)
  | 158, h => absurd h (by decide)
  | 159, h => absurd h (by decide)
  | 160, h => absurd h (by decide)
  | 161, h => absurd h (by decide)
  | 162, h => absurd h (by decide)
  | 163, h => absurd h (by decide)
  | 164, h => absurd h (by decide)
  | 165, h => absurd h (by decide)
  | 166, h => absurd h (by decide)
  | 167, h => absurd h (by decide)
  | 168, h => absurd h (by decide)
  | 169, h => absurd h (by decide)
  | 170, h => absurd h (by decide)
  | 171, h => absurd h (by decide)
  | 172, h => absurd h (by decide)
  | 173, h => absurd h (by decide)
  | 174, h => absurd h (by decide)
  | 175, h => absurd h (by decide)
  | 176, h => absurd h (by decide)
  | 177, h => absurd h (by decide)
  | 178, h => absurd h (by decide)
  | 179, h => absurd h (by decide)
  | 180, h => absurd h (by decide)
  | 181, h => absurd h (by decide)
  | 182, h => absurd h (by decide)
  | 183, h => absurd h (by decide)
  | 184, h => absurd h (by decide)
  | 185, h => absurd h (by decide)
  | 186, h => absurd h (by decide)
  | 187, h => absurd h (by decide)
  | 188, h => absurd h (by decide)
  | 189, h => absurd h (by decide)
  | 190, h => absurd h (by decide)
  | 191, h => absurd h (by decide)
  | 192, h => absurd h (by decide)
  | 193, h => absurd h (by decide)
  | 194, h => absurd h (by decide)
  | 195, h => absurd h (by decide)
  | 196, h => absurd h (by decide)
  | 197, h => absurd h (by decide)
  | 198, h => absurd h (by decide)
  | (k + 199), h => absurd h (by show ¬ false = true; decide)
theorem xcow_lt : ∀ {μ : Nat}, xcow μ = true → μ < xNM
  | 0, _ => by decide
  | 1, _ => by decide
  | 2, _ => by decide
  | 3, _ => by decide
  | 4, _ => by decide
  | 5, _ => by decide
  | 6, _ => by decide
  | 7, _ => by decide
  | 8, _ => by decide
  | 9, _ => by decide
  | 10, _ => by decide
  | 11, _ => by decide
  | 12, _ => by decide
  | 13, _ => by decide
  | 14, _ => by decide
  | 15, _ => by decide
  | 16, _ => by decide
  | 17, _ => by decide
  | 18, _ => by decide
  | 19, _ => by decide
  | 20, _ => by decide
  | 21, _ => by decide
  | 22, _ => by decide
  | 23, _ => by decide
  | 24, _ => by decide
  | 25, _ => by decide
  | 26, _ => by decide
  | 27, _ => by decide
  | 28, _ => by decide
  | 29, _ => by decide
  | 30, _ => by decide
  | 31, _ => by decide
  | 32, _ => by decide
  | 33, _ => by decide
  | 34, _ => by decide
  | 35, _ => by decide
  | 36, _ => by decide
  | 37, _ => by decide
  | 38, _ => by decide
  | 39, _ => by decide
  | 40, _ => by decide
  | 41, _ => by decide
  | 42, _ => by decide
  | 43, _ => by decide
  | 44, _ => by decide
  | 45, _ => by decide
  | 46, _ => by decide
  | 47, _ => by decide
  | 48, _ => by decide
  | 49, _ => by decide
  | 50, _ => by decide
  | 51, _ => by decide
  | 52, _ => by decide
  | 53, _ => by decide
  | 54, _ => by decide
  | 55, _ => by decide
  | 56, _ => by decide
  | 57, _ => by decide
  | 58, _ => by decide
  | 59, _ => by decide
  | 60, _ => by decide
  | 61, _ => by decide
  | 62, _ => by decide
  | 63, _ => by decide
  | 64, _ => by decide
  | 65, _ => by decide
  | 66, _ => by decide
  | 67, _ => by decide
  | 68, _ => by decide
  | 69, _ => by decide
  | 70, _ => by decide
  | 71, _ => by decide
  | 72, _ => by decide
  | 73, _ => by decide
  | 74, _ => by decide
  | 75, _ => by decide
  | 76, _ => by decide
  | 77, _ => by decide
  | 78, _ => by decide
  | 79, _ => by decide
  | 80, _ => by decide
  | 81, _ => by decide
  | 82, _ => by decide
  | 83, _ => by decide
  | 84, _ => by decide
  | 85, _ => by decide
  | 86, _ => by decide
  | 87, _ => by decide
  | 88, _ => by decide
  | 89, _ => by decide
  | 90, _ => by decide
  | 91, _ => by decide
  | 92, _ => by decide
  | 93, _ => by decide
  | 94, _ => by decide
  | 95, _ => by decide
  | 96, _ => by decide
  | 97, _ => by decide
  | 98, _ => by decide
  | 99, _ => by decide
  | 100, _ => by decide
  | 101, _ => by decide
  | 102, _ => by decide
  | 103, _ => by decide
  | 104, _ => by decide
  | 105, _ => by decide
  | 106, _ => by decide
  | 107, _ => by decide
  | 108, _ => by decide
  | 109, _ => by decide
  | 110, _ => by decide
  | 111, _ => by decide
  | 112, _ => by decide
  | 113, _ => by decide
  | 114, _ => by decide
  | 115, _ => by decide
  | 116, _ => by decide
  | 117, _ => by decide
  | 118, _ => by decide
  | 119, _ => by decide
  | 120, _ => by decide
  | 121, _ => by decide
  | 122, _ => by decide
  | 123, _ => by decide
  | 124, _ => by decide
  | 125, _ => by decide
  | 126, _ => by decide
  | 127, _ => by decide
  | 128, _ => by decide
  | 129, _ => by decide
  | 130, _ => by decide
  | 131, _ => by decide
  | 132, _ => by decide
  | 133, _ => by decide
  | 134, _ => by decide
  | 135, _ => by decide
  | 136, _ => by decide
  | 137, _ => by decide
  | 138, _ => by decide
  | 139, _ => by decide
  | 140, _ => by decide
  | 141, _ => by decide
  | 142, _ => by decide
  | 143, _ => by decide
  | 144, _ => by decide
  | 145, _ => by decide
  | 146, _ => by decide
  | 147, _ => by decide
  | 148, _ => by decide
  | 149, _ => by decide
  | 150, _ => by decide
  | 151, _ => by decide
  | 152, _ => by decide
  | 153, _ => by decide
  | 154, _ => by decide
  | 155, _ => by decide
  | 156, _ => by decide
  | 157, _ => by decide
  | 158, _ => by decide
  | 159, _ => by decide
  | 160, _ => by decide
  | 161, _ => by decide
  | 162, _ => by decide
  | 163, _ => by decide
  | 164, _ => by decide
  | 165, _ => by decide
  | 166, _ => by decide
  | 167, _ => by decide
  | 168, _ => by decide
  | 169, _ => by decide
  | 170, _ => by decide
  | 171, _ => by decide
  | 172, _ => by decide
  | 173, _ => by decide
  | 174, _ => by decide
  | 175, _ => by decide
  | 176, _ => by decide
  | 177, _ => by decide
  | 178, _ => by decide
  | 179, _ => by decide
  | 180, _ => by decide
  | 181, _ => by decide
  | 182, _ => by decide
  | 183, _ => by decide
  | 184, _ => by decide
  | 185, _ => by decide
  | 186, _ => by decide
  | 187, _ => by decide
  | 188, _ => by decide
  | 189, _ => by decide
  | 190, _ => by decide
  | 191, _ => by decide
  | 192, _ => by decide
  | 193, _ => by decide
  | 194, _ => by decide
  | 195, _ => by decide
  | 196, _ => by decide
  | 197, _ => by decide
  | 198, _ => by decide
  | (k + 199), h => absurd h (by show ¬ false = true; decide)
end XCW
end
section
/-! what the tables say of calls, checked by program; the words that stay when the tables warm -/
section XCF
def xmetC (μ : Nat) : Bool := plainName (xmy μ).cls && decide ((xmy μ).cls ≠ "java/lang/invoke/MethodHandle") && decide ((xmy μ).cls ≠ "java/lang/invoke/VarHandle") && decide ((parseMethodDescriptor (xmy μ).desc).map (fun d => d.parameters.length) = some (xmn μ)) && decide (xown (xmo μ) = (xmy μ).cls) && (!xini μ || decide ((xmy μ).name = "<init>"))
set_option maxRecDepth 100000 in
theorem xmet_all : (List.range xNM).all (fun μ => !(xcod μ || xcow μ) || xmetC μ) = true := by decide +kernel
theorem xmet_ok {μ : Nat} (hcd : xcod μ = true ∨ xcow μ = true) : plainName (xmy μ).cls = true ∧ (xmy μ).cls ≠ "java/lang/invoke/MethodHandle" ∧ (xmy μ).cls ≠ "java/lang/invoke/VarHandle" ∧ (parseMethodDescriptor (xmy μ).desc).map (fun d => d.parameters.length) = some (xmn μ) ∧ xown (xmo μ) = (xmy μ).cls ∧ (xini μ = true → (xmy μ).name = "<init>") := by
  have h1 := List.all_eq_true.mp xmet_all μ (List.mem_range.mpr (hcd.elim xcod_lt xcow_lt))
  have hcd : (xcod μ || xcow μ) = true := by rw [Bool.or_eq_true]; exact hcd
  rw [hcd] at h1
  unfold xmetC at h1
  simp only [Bool.not_true, Bool.false_or, Bool.and_eq_true, decide_eq_true_eq, Bool.or_eq_true, Bool.not_eq_true'] at h1
  obtain ⟨⟨⟨⟨⟨a, b⟩, c⟩, d⟩, e⟩, f⟩ := h1
  refine ⟨a, b, c, d, e, fun hi => ?_⟩
  rcases f with f | f
  · rw [hi] at f; cases f
  · exact f
def xcalC (o : Nat) (q : Nat × Nat × Nat × Nat × Nat × Nat × Nat) : Bool :=
  let y := xmy q.2.2.1
  match q.2.1 with
  | 0 => xig (.methodLink (xown o) q.1 y) q.2.2.2.1 && xig (.instanceMethod y) q.2.2.2.2.1 && xig (.initialized y.cls) q.2.2.2.2.2.1
  | 1 => xig (.methodLink (xown o) q.1 y) q.2.2.2.1 && xig (.instanceMethod y) q.2.2.2.2.1 && xig (.selects y.cls y y) q.2.2.2.2.2.1 && xig (.initialized y.cls) q.2.2.2.2.2.2
  | 2 => xig (.methodLink (xown o) q.1 y) q.2.2.2.1 && xig (.static y) q.2.2.2.2.1 && xig (.initialized y.cls) q.2.2.2.2.2.1
  | 3 => xinw (.methodLinkNest (xown o) q.1 y (xhost o)) q.2.2.2.1 && xig (.static y) q.2.2.2.2.1 && xig (.initialized y.cls) q.2.2.2.2.2.1
  | 4 => xinw (.methodLinkNest (xown o) q.1 y (xhost o)) q.2.2.2.1 && xig (.instanceMethod y) q.2.2.2.2.1 && xig (.initialized y.cls) q.2.2.2.2.2.1
  | 6 => xig (.methodLink (xown o) q.1 objectInit) q.2.2.2.1 && xig (.instanceMethod objectInit) q.2.2.2.2.1 && xig (.code objectInit ⟨#[0xb1]⟩ 1 none) q.2.2.2.2.2.1
  | 7 => xig (.methodLink (xown o) q.1 Lib.Math.max.name) q.2.2.2.1 && xig (.static Lib.Math.max.name) q.2.2.2.2.1 && xig (.initialized "java/lang/Math") q.2.2.2.2.2.1 && xig (.code Lib.Math.max.name Lib.Math.max.code 2 (some .int)) q.2.2.2.2.2.2
  | 8 => xig (.methodLink (xown o) q.1 Lib.Math.min.name) q.2.2.2.1 && xig (.static Lib.Math.min.name) q.2.2.2.2.1 && xig (.initialized "java/lang/Math") q.2.2.2.2.2.1 && xig (.code Lib.Math.min.name Lib.Math.min.code 2 (some .int)) q.2.2.2.2.2.2
  | 9 => xig (.methodLink (xown o) q.1 Lib.Math.abs.name) q.2.2.2.1 && xig (.static Lib.Math.abs.name) q.2.2.2.2.1 && xig (.initialized "java/lang/Math") q.2.2.2.2.2.1 && xig (.code Lib.Math.abs.name Lib.Math.abs.code 1 (some .int)) q.2.2.2.2.2.2
  | _ => true
set_option maxRecDepth 100000 in
theorem xcal_all : ∀ o, o < xNO → (xcalT o).all (xcalC o) = true := by decide +kernel
theorem xcal_ok {o x : Nat} {r : Nat × Nat × Nat × Nat × Nat × Nat} (h : xfnd (xcalT o) x = some r) : xcalC o (x, r) = true := by
  have hm := xfnd_mem h
  by_cases ho : o < xNO
  · exact List.all_eq_true.mp (xcal_all o ho) _ hm
  · have : xcalT o = [] := by
      unfold xNO at ho
      unfold xcalT
      split <;> first | omega | rfl
    rw [this] at hm
    cases hm
set_option maxRecDepth 100000 in
theorem xcl_all : (List.range xNX).all (fun ci => match xcl[ci]? with | some (C, _, _) => decide (C = xown ci) | none => false) = true := by decide +kernel
theorem xcl_own {ci : Nat} {C : String} {T : u_T} {N : Nat} (hc : xcl[ci]? = some (C, T, N)) (h : ci < xNX) : C = xown ci := by
  have h1 := List.all_eq_true.mp xcl_all ci (List.mem_range.mpr h)
  rw [hc] at h1
  exact of_decide_eq_true h1
-- the interface's call
def xitfC (o : Nat) (q : Nat × Nat × Nat × Nat × Nat × Nat) : Bool :=
  let y := xmy q.2.1
  decide (y = ⟨"java/util/ArrayList", "size", "()I"⟩) && xal && xig (.methodLink (xown o) q.1 ⟨"java/util/List", "size", "()I"⟩) q.2.2.1 && xig (.selects "java/util/ArrayList" ⟨"java/util/List", "size", "()I"⟩ y) q.2.2.2.1 && xig (.instanceMethod y) q.2.2.2.2.1 && xig (.initialized y.cls) q.2.2.2.2.2
set_option maxRecDepth 100000 in
theorem xitf_all : ∀ o, o < xNO → (xitfT o).all (xitfC o) = true := by decide +kernel
theorem xitf_ok {o x : Nat} {r : Nat × Nat × Nat × Nat × Nat} (h : xfnd (xitfT o) x = some r) : xitfC o (x, r) = true := by
  have hm := xfnd_mem h
  by_cases ho : o < xNO
  · exact List.all_eq_true.mp (xitf_all o ho) _ hm
  · have : xitfT o = [] := by
      unfold xNO at ho
      unfold xitfT
      split <;> first | omega | rfl
    rw [this] at hm
    cases hm
def xgstC (o : Nat) (q : Nat × Nat) : Bool := xal && xig (.fieldLink (xown o) q.1 "java/util/ArrayList" "DEFAULTCAPACITY_EMPTY_ELEMENTDATA" "[Ljava/lang/Object;") q.2
set_option maxRecDepth 100000 in
theorem xgst_all : ∀ o, o < xNO → (xgstT o).all (xgstC o) = true := by decide +kernel
theorem xgst_ok {o x : Nat} {r : Nat} (h : xfnd (xgstT o) x = some r) : xgstC o (x, r) = true := by
  have hm := xfnd_mem h
  by_cases ho : o < xNO
  · exact List.all_eq_true.mp (xgst_all o ho) _ hm
  · have : xgstT o = [] := by
      unfold xNO at ho
      unfold xgstT
      split <;> first | omega | rfl
    rw [this] at hm
    cases hm
-- words that stay
theorem xAO_moved {t : FieldType} {u U : State} (hvm : u.vm.Alike U.vm) (h : va_Nw (.arrayOver (.array t)) u) : va_Nw (.arrayOver (.array t)) U := by
  unfold va_Nw Cond.before Cond.holds at h ⊢
  simp only [Cond.value, beq_iff_eq] at h ⊢
  rw [hvm.findClass]
  cases hc : u.vm.findClass (FieldType.array t).toString with
  | none => rw [hc] at h; simp at h
  | some comp =>
    rw [hc] at h
    simp only [Option.bind_some, Option.bind_eq_some_iff, Option.map_eq_some_iff] at h ⊢
    obtain ⟨c, hi, k, hk, hb⟩ := h
    obtain ⟨k', hk', he⟩ := hvm.2.2 _ _ hk
    refine ⟨c, ?_, k', hk', ?_⟩
    · have e1 := va_idx_bare U.vm comp
      have e2 := va_idx_bare u.vm comp
      have e3 : U.vm.bare = u.vm.bare := by first | exact hvm.bare_eq | exact hvm.bare_eq.symm
      rw [e3] at e1
      exact (e1.symm.trans e2).trans hi
    · rw [he]
      rw [hvm.findClass]
      exact hb
def xnwC (w : Jvm.Cond) : Bool := !xnwB w || (match w with
  | .arrayOver (.object _) => true
  | .arrayOver (.array _) => true
  | .arrayOver _ => false
  | _ => true)
set_option maxRecDepth 100000 in
theorem xnwC_all : lw_tbl.all xnwC = true := by decide +kernel
theorem xAO_only {t : FieldType} (h : Jvm.Cond.arrayOver t ∈ xnw) : (∃ C, t = .object C) ∨ ∃ t', t = .array t' := by
  obtain ⟨h1, h2⟩ := List.mem_filter.mp h
  have h3 := List.all_eq_true.mp xnwC_all _ h1
  cases t with
  | object C => exact Or.inl ⟨C, rfl⟩
  | array t => exact Or.inr ⟨t, rfl⟩
  | _ => cases h3
theorem xnw_warm {w : Jvm.Cond} (hw : w ∈ xnw) {s U : State} (hW : s.WarmedH U.vm) (h : va_Nw w s) : va_Nw w U := by
  have hb := (List.mem_filter.mp hw).2
  cases w with
  | fieldLinkNest => exact va_Nw.warmF hW h
  | methodLinkNest => exact va_Nw.warmM hW h
  | castable => exact va_Nw.warmC hW h
  | declares => exact va_Nw.warmD hW h
  | arrayOver t =>
    cases t with
    | object C => exact va_AO.moved hW.alike h
    | array t => exact xAO_moved hW.alike h
    | _ =>
      rcases xAO_only hw with ⟨_, q⟩ | ⟨_, q⟩ <;> cases q
  | _ => cases hb
end XCF
end
section
/-! one instruction: what the lists say, the machine does -/
section XQ
def xcell (D : va_G) (tA : Nat → ClassId) (ad : Nat → Nat) (a : Nat) (e : xE) (H : Heap) : Prop := if e.1 < 100 then va_at D xcl (a, .inr (e.1, e.2.map (xv ad))) H else H[a]? = some { cls := tA (e.1 - 100), slots := (e.2.map (xv ad)).toArray, vm := .none }
def xP (D : va_G) (tA : Nat → ClassId) (ad : Nat → Nat) (h : xH) (H : Heap) : Prop := ∀ (k : Nat) (e : xE), h[k]? = some e → xcell D tA ad (ad (k + 4)) e H
def xcomp : Nat → Nat
  | 3 => 0
  | 4 => 3
  | 5 => 2
  | _ => 0
def xK (D : va_G) (tA : Nat → ClassId) (U : State) : Prop := va_K D xcl [] U ∧ ∀ t, t < 6 → U.vm.findClass ("[" ++ (xtT t).toString) = some (tA t) ∧ ∃ (k : Class) (comp : ClassId), U.vm.classes[tA t]? = some k ∧ k.kind = .array comp (xtT t) ∧ (3 ≤ t → comp = tA (xcomp t))
def xX (sc : Option (List Int32)) (old : Nat → Nat) (n0 : Nat) (U : State) : Prop := match sc with
  | none => True
  | some l => va_X (old 0) l.length (fun j => l.getD j 0) U U.heap ∧ old 0 < n0
theorem xad_new (old : Nat → Nat) (n0 k : Nat) : xad old n0 (k + 4) = n0 + k := by
  unfold xad
  rw [if_neg (by omega), Nat.add_sub_cancel]
theorem xget_ok {h : xH} {a : Nat} {e : xE} (hg : xget h a = some e) : ∃ k, a = k + 4 ∧ h[k]? = some e := by
  unfold xget at hg
  cases hb : Nat.ble 4 a with
  | true =>
    rw [hb] at hg
    have := Nat.le_of_ble_eq_true hb
    exact ⟨a - 4, by omega, hg⟩
  | false =>
    rw [hb] at hg
    cases hg
theorem xcell_kept {D : va_G} {tA : Nat → ClassId} {ad : Nat → Nat} {a : Nat} {e : xE} {H H1 : Heap} (h : xcell D tA ad a e H) (hq : H1[a]? = H[a]?) : xcell D tA ad a e H1 := by
  unfold xcell at h ⊢
  split
  · rename_i hlt
    rw [if_pos hlt] at h
    exact va_at.kept h hq
  · rename_i hlt
    rw [if_neg hlt] at h
    rw [hq]
    exact h
theorem xP_arr {D : va_G} {tA : Nat → ClassId} {ad : Nat → Nat} {h : xH} {H : Heap} {a t : Nat} {vs : List Value} (hP : xP D tA ad h H) (hg : xget h a = some (t, vs)) (ht : 100 ≤ t) : H[ad a]? = some { cls := tA (t - 100), slots := (vs.map (xv ad)).toArray, vm := .none } := by
  obtain ⟨k, rfl, hk⟩ := xget_ok hg
  have := hP k _ hk
  unfold xcell at this
  rw [if_neg (by show ¬ t < 100; omega)] at this
  exact this
theorem xP_obj {D : va_G} {tA : Nat → ClassId} {ad : Nat → Nat} {h : xH} {H : Heap} {a t : Nat} {vs : List Value} (hP : xP D tA ad h H) (hg : xget h a = some (t, vs)) (ht : t < 100) : va_at D xcl (ad a, .inr (t, vs.map (xv ad))) H := by
  obtain ⟨k, rfl, hk⟩ := xget_ok hg
  have := hP k _ hk
  unfold xcell at this
  rw [if_pos (show t < 100 from ht)] at this
  exact this
theorem xP_set {D : va_G} {tA : Nat → ClassId} {old : Nat → Nat} {n0 a : Nat} {h : xH} {H H1 : Heap} {e e0 : xE} (hP : xP D tA (xad old n0) h H) (hg : xget h a = some e0) (h1 : xcell D tA (xad old n0) (xad old n0 a) e H1) (hq : ∀ q, q ≠ xad old n0 a → H1[q]? = H[q]?) : xP D tA (xad old n0) (xset h a e) H1 := by
  obtain ⟨k, rfl, hk⟩ := xget_ok hg
  intro j e9 hj
  unfold xset at hj
  rw [Nat.add_sub_cancel, List.getElem?_set] at hj
  by_cases hkj : k = j
  · subst hkj
    rw [if_pos rfl] at hj
    split at hj
    · cases hj
      exact h1
    · cases hj
  · rw [if_neg hkj] at hj
    exact xcell_kept (hP j e9 hj) (hq _ (by rw [xad_new, xad_new]; omega))
theorem xP_push {D : va_G} {tA : Nat → ClassId} {old : Nat → Nat} {n0 : Nat} {h : xH} {H H1 : Heap} {e : xE} (hP : xP D tA (xad old n0) h H) (hz : H.size = n0 + h.length) (h1 : xcell D tA (xad old n0) H.size e H1) (hq : ∀ q, q < H.size → H1[q]? = H[q]?) : xP D tA (xad old n0) (h ++ [e]) H1 := by
  intro j e9 hj
  by_cases hlt : j < h.length
  · rw [List.getElem?_append_left hlt] at hj
    exact xcell_kept (hP j e9 hj) (hq _ (by rw [xad_new]; omega))
  · rw [List.getElem?_append_right (by omega)] at hj
    have h0 : j - h.length < 1 := (List.getElem?_eq_some_iff.mp hj).1
    rw [show j - h.length = 0 by omega] at hj
    cases hj
    rw [xad_new, show n0 + j = H.size by omega]
    exact h1
theorem xfit (ty : FieldType) (ad : Nat → Nat) (v : Value) : fits ty (xv ad v) = fits ty v := by cases v <;> cases ty <;> rfl
theorem xnar {ty : FieldType} {ad : Nat → Nat} {v : Value} (h : narrow ty v = v) : narrow ty (xv ad v) = xv ad v := by
  cases v with
  | ref k => cases ty <;> rfl
  | _ => exact h
theorem xdl {cc : ByteArray} {pc n : Nat} {i : Instr} (h : ∃ len, decode cc pc = .ok (i, len) ∧ (xlen i = 0 ∨ len = xlen i)) (hn : xlen i = n + 1) : decode cc pc = .ok (i, n + 1) := by
  obtain ⟨len, h1, h2⟩ := h
  rcases h2 with h2 | h2
  · omega
  · rw [h1, h2, hn]
section
variable {p : Program} {l : Launch} {e : Env} {R : Room} {s : State} {m : MethodId} {args : Array Value} {below : List Frame} {meth : Method} {c : Code} {H : Heap} {locs : List Loc} {cells slots : Nat} {Q : State → Prop}
theorem xIsA {D : va_G} {tA : Nat → ClassId} {t : Nat} {sl : Array Value} (hK : xK D tA s) (ht : t < 6) : s.isArrayOf { cls := tA t, slots := sl, vm := .none } (xtT t) := by
  obtain ⟨-, k, comp, h1, h2, -⟩ := hK.2 t ht
  exact ⟨fun q h => by (cases h), k, h1, comp, h2⟩
/-- a field is written: plain, final in a constructor, or a nest mate's -/
theorem x_put {cc : ByteArray} {pc : Nat} {ls : Array Slot} {rest : List Value} {D : va_G} {tA : Nat → ClassId} {a o x ci k kd pp : Nat} {fs : List Value} {v : Value} {C : String} {T : u_T} {N : Nat}
    (hx : p.tables.exec = Jvm.exec) (hb : c.code = cc) (hown : s.vm.findClass (xown o) = some m.cls) (hts : ∀ w ∈ xgw, w.before args s = true) (hnw : ∀ w ∈ xnw, w.before args s = true) (hK : xK D tA s)
    (hc : xcl[ci]? = some (C, T, N)) (hl : xfnd (xfldT o) x = some (ci, k, kd, pp)) (hat : va_at D xcl (a, .inr (ci, fs)) H) (hkl : k < fs.length) (hn : narrow (xtyf ci k) v = v) (hfit : fits (xtyf ci k) v = true)
    (hfin : (T k).2.2.2 = false ∨ (meth.name = "<init>" ∧ kd = 0 ∧ (T k).1 = xown o)) (hdg : decode cc pc = .ok (.putfield x, 3))
    (kk : ∀ (H1 : Heap) (i : Nat), va_at D xcl (a, .inr (ci, fs.set k v)) H1 → H1.size = H.size → (∀ q, q ≠ a → H1[q]? = H[q]?) → W p l e R s m args below meth c H1 (locs ++ [⟨a, i⟩]) cells slots Q (F0 m (pc + 3) ls rest)) : W p l e R s m args below meth c H locs cells slots Q (F0 m pc ls (v :: .ref a :: rest)) := by
  obtain ⟨hin, hty, hnm, -, -⟩ := xcls_ok hc
  obtain ⟨C', T', N', hc', hk, hlink⟩ := xfld_ok hl
  cases hc.symm.trans hc'
  have hap := va_apart (own := xown o) hts hin (xtyf ci) hty hnm hK.1 hc
  obtain ⟨r, h1, cell, q1, q2, q3, q4⟩ := hat
  have hr : r = (C, T, N) := Option.some.inj (h1.symm.trans hc)
  subst hr
  obtain ⟨hS, hfc, kC, hkC, hkind⟩ := hK.1.1 ci _ hc
  obtain ⟨cf, kf, fi, f, hi, hsl⟩ := hS k hk
  have hlay := hts _ (hin _ (u_in_lay hk))
  unfold u_lay at hlay
  have hst := (u_facts hfc hkC (u_lays hts hin hk) hi).1
  have fin : ∀ H' : Heap, H'[a]? = some (cell.setSlot f.slot v) → H'.size = H.size → (∀ q, q ≠ a → H'[q]? = H[q]?) → W p l e R s m args below meth c H' (locs ++ [⟨a, f.slot⟩]) cells slots Q (F0 m (pc + 3) ls rest) := fun H' e1 e2 e3 => by
    rw [hsl] at e1 ⊢
    exact kk H' _ ⟨_, hc, t_OB.to (V := updV (vp_V fs) k v) ⟨_, e1, q2, q3, t_set q4 hap hk v⟩ (fun j _ => vp_updV_set hkl v j)⟩ e2 e3
  rcases hfin with hfin | ⟨hin2, hkd, hdecl⟩
  · rw [if_neg (by rw [hfin]; decide)] at hlay
    have h6 := u_store hfc hkC hkind hlay hi (hty k hk) hn hfit
    by_cases hkd : kd = 0
    · rw [if_pos hkd] at hlink
      exact W.putK hx hb (f := f) ⟨hown, hts _ hlink, ⟨_, _, _, hi⟩, hst⟩ (by rw [q2]; exact h6) q1 q3 (by rw [hsl]; exact k2_hasslot (q4 k hk)) rfl rfl hdg fin
    · rw [if_neg hkd] at hlink
      exact va_WputK hx hb (f := f) hown (hnw _ hlink) hi hst (by rw [q2]; exact h6) q1 q3 (by rw [hsl]; exact k2_hasslot (q4 k hk)) rfl rfl hdg fin
  · rw [if_pos hkd] at hlink
    by_cases hf : (T k).2.2.2 = true
    · rw [if_pos hf] at hlay
      have hcf : m.cls = cf := by
        obtain ⟨_, _, c', _, _, _, -, -, hf', -, -, -, hown2, -⟩ := Cond.laysFinal_spec hlay
        have e1 : c' = cf := by have := hi.symm.trans hf'; simp at this; exact this.1.symm
        rw [hdecl] at hown2
        rw [← e1]; exact Option.some.inj (hown.symm.trans hown2)
      have h6 := u_fits hfc hkC hkind (Or.inr hlay) hi (hty k hk) hn hfit
      exact W.putFinK hx hb hown (hts _ hlink) hi hst hcf hin2 (by rw [q2]; exact h6) q1 q3 (by rw [hsl]; exact k2_hasslot (q4 k hk)) rfl rfl hdg fin
    · rw [if_neg hf] at hlay
      have h6 := u_store hfc hkC hkind hlay hi (hty k hk) hn hfit
      exact W.putK hx hb (f := f) ⟨hown, hts _ hlink, ⟨_, _, _, hi⟩, hst⟩ (by rw [q2]; exact h6) q1 q3 (by rw [hsl]; exact k2_hasslot (q4 k hk)) rfl rfl hdg fin
/-- a field is read -/
theorem x_gf {cc : ByteArray} {pc : Nat} {ls : Array Slot} {rest : List Value} {D : va_G} {tA : Nat → ClassId} {a o x ci k kd pp : Nat} {fs : List Value} {v : Value}
    (hx : p.tables.exec = Jvm.exec) (hb : c.code = cc) (hown : s.vm.findClass (xown o) = some m.cls) (hts : ∀ w ∈ xgw, w.before args s = true) (hnw : ∀ w ∈ xnw, w.before args s = true) (hK : xK D tA s)
    (hl : xfnd (xfldT o) x = some (ci, k, kd, pp)) (hat : va_at D xcl (a, .inr (ci, fs)) H) (hv : fs[k]? = some v) (hdg : decode cc pc = .ok (.getfield x, 3))
    (kk : W p l e R s m args below meth c H locs cells slots Q (F0 m (pc + 3) ls (v :: rest))) : W p l e R s m args below meth c H locs cells slots Q (F0 m pc ls (.ref a :: rest)) := by
  obtain ⟨C, T, N, hc, hk, hlink⟩ := xfld_ok hl
  obtain ⟨hin, -⟩ := xcls_ok hc
  have hP : va_P D xcl [(a, .inr (ci, fs))] H := fun j q hj => by
    have h0 : j < 1 := (List.getElem?_eq_some_iff.mp hj).1
    rw [show j = 0 by omega] at hj
    cases hj
    exact hat
  by_cases hkd : kd = 0
  · rw [if_pos hkd] at hlink
    exact va_get (D := D) (ci := ci) (v := v) (C := C) (T := T) (N := N) hx hb hts hin hown hK.1 hP 0 rfl hc k hk (hts _ hlink) (fun _ h9 => h9) hv hdg kk
  · rw [if_neg hkd] at hlink
    exact va_getN (D := D) (ci := ci) (v := v) (C := C) (T := T) (N := N) hx hb hts hin hown hK.1 hP 0 rfl hc k hk (hnw _ hlink) (fun _ h9 => h9) hv hdg kk
end
/-- at this point of the lists' run the machine goes to Q -/
def xG (p : Program) (l : Launch) (e : Env) (R : Room) (s : State) (m : MethodId) (args : Array Value) (below : List Frame) (meth : Method) (c : Code) (Q : State → Prop) (D : va_G) (tA : Nat → ClassId) (old : Nat → Nat) (n0 hb kb nL : Nat) (pc : Nat) (lv : xL) (st : List Value) (h : xH) (ks : Nat) : Prop :=
  ∀ (H : Heap) (locs : List Loc) (ls : Array Slot), H.size = n0 + h.length → xP D tA (xad old n0) h H → va_S (fun q => n0 ≤ q) s.heap H locs → lv_has ls nL (xm (xad old n0) lv) →
    W p l e R s m args below meth c H locs (h.length - hb) (ks - kb) Q (F0 m pc ls (st.map (xv (xad old n0))))
end XQ
end
section
section XI0
theorem xdef_map (ci : Nat) (ad : Nat → Nat) : (xdef ci).map (xv ad) = xdef ci := by
  unfold xdef
  split <;> rfl
theorem xati_ok {aty : ArrayType} {t : Nat} (h : xati aty = some t) : newarray.typeOf aty = xtT t := by
  cases aty <;> simp only [xati, reduceCtorEq, Option.some.injEq] at h <;> subst h <;> rfl
theorem xati_lt {aty : ArrayType} {t : Nat} (h : xati aty = some t) : t < 3 := by
  cases aty <;> simp only [xati, reduceCtorEq, Option.some.injEq] at h <;> omega
theorem xdv_ok {t : Nat} (h : t < 3) : defaultValue (xtT t) = xdv t := by
  match t, h with
  | 0, _ => rfl
  | 1, _ => rfl
  | 2, _ => rfl
theorem xdv_map (ad : Nat → Nat) (t : Nat) : xv ad (xdv t) = xdv t := by
  unfold xdv
  split <;> rfl
theorem xget_ge {h : xH} {a : Nat} {e : xE} {old : Nat → Nat} {n0 : Nat} (hg : xget h a = some e) : n0 ≤ xad old n0 a := by
  obtain ⟨k9, e9, -⟩ := xget_ok hg
  rw [e9, xad_new]
  exact Nat.le_add_right _ _
theorem xtoI (n : Nat) : n.toInt32 = Int32.ofNat n := rfl
theorem xtT_ref {t : Nat} (h : 103 ≤ t ∧ t < 106) : (xtT (t - 100)).isReference = true := by
  obtain ⟨h1, h2⟩ := h
  rcases (show t = 103 ∨ t = 104 ∨ t = 105 by omega) with rfl | rfl | rfl <;> rfl
theorem xvI (ad : Nat → Nat) (x : Int32) : xv ad (.int x) = .int x := rfl
theorem xvL (ad : Nat → Nat) (x : Int64) : xv ad (.long x) = .long x := rfl
theorem xvR (ad : Nat → Nat) (x : Nat) : xv ad (.ref x) = .ref (ad x) := rfl
theorem xnarB (ad : Nat → Nat) (x : Int32) : xv ad (narrow .boolean (.int x)) = narrow .boolean (.int x) := rfl
theorem xcomp_ok {t t2 : Nat} (h : (t = 103 ∧ t2 = 100) ∨ (t = 104 ∧ t2 = 103) ∨ (t = 105 ∧ t2 = 102)) : t2 - 100 = xcomp (t - 100) := by
  rcases h with ⟨rfl, rfl⟩ | ⟨rfl, rfl⟩ | ⟨rfl, rfl⟩ <;> rfl
end XI0
/-! one instruction of the machine, out of one on lists -/
section XI
variable {p : Program} {l : Launch} {e : Env} {R : Room} {s : State} {m : MethodId} {args : Array Value} {below : List Frame} {meth : Method} {c : Code} {Q : State → Prop}
set_option maxHeartbeats 4000000 in
set_option maxRecDepth 100000 in
theorem x_step {cc : ByteArray} {D : va_G} {tA : Nat → ClassId} {old : Nat → Nat} {n0 hb kb nL o : Nat} {ini : Bool} {sc : Option (List Int32)} {i : Instr} {pc : Nat} {lv : xL} {st : List Value} {h : xH} {ks : Nat} {pc' : Nat} {lv' : xL} {st' : List Value} {h' : xH} {ks' : Nat}
    (hx : p.tables.exec = Jvm.exec) (hb9 : c.code = cc) (hown : s.vm.findClass (xown o) = some m.cls) (hts : ∀ w ∈ xgw, w.before args s = true) (hnw : ∀ w ∈ xnw, w.before args s = true) (hK : xK D tA s) (hX : xX sc old n0 s)
    (hini : ini = true → meth.name = "<init>") (hac : ∀ t, t < 3 → (Jvm.Cond.arrayClass (xtT t)).before args s = true) (hlb : hb ≤ h.length) (hkb : kb ≤ ks) (hn0 : n0 ≤ s.heap.size)
    (hd : ∃ len, decode cc pc = .ok (i, len) ∧ (xlen i = 0 ∨ len = xlen i))
    (he : xstep o nL ini sc i pc lv st h ks = some (pc', lv', st', h', ks'))
    (hRc : h'.length - hb ≤ R.cells) (hRs : ks' - kb ≤ R.slots)
    (kk : xG p l e R s m args below meth c Q D tA old n0 hb kb nL pc' lv' st' h' ks') : xG p l e R s m args below meth c Q D tA old n0 hb kb nL pc lv st h ks := by
  intro H locs ls hz hP hS hl
  cases i
  case iconst n =>
    have hd1 := xdl hd rfl
    simp only [xstep] at he
    cases he
    exact lv_iconst hx hb9 hd1 rfl (kk H locs ls hz hP hS hl)
  case bipush n =>
    have hd1 := xdl hd rfl
    simp only [xstep] at he
    cases he
    exact lv_bipush hx hb9 hd1 rfl (kk H locs ls hz hP hS hl)
  case sipush n =>
    have hd1 := xdl hd rfl
    simp only [xstep] at he
    cases he
    exact lv_sipush hx hb9 hd1 rfl (kk H locs ls hz hP hS hl)
  case lconst n =>
    have hd1 := xdl hd rfl
    simp only [xstep] at he
    cases he
    exact lv_lconst hx hb9 hd1 rfl (kk H locs ls hz hP hS hl)
  case aconst_null =>
    have hd1 := xdl hd rfl
    simp only [xstep] at he
    cases he
    exact lv_null hx hb9 hd1 (kk H locs ls hz hP hS hl)
  case dconst n =>
    have hd1 := xdl hd rfl
    simp only [xstep] at he
    cases he
    by_cases hn : n = 0
    · subst hn
      exact lv_dconst0 hx hb9 hd1 (kk H locs ls hz hP hS hl)
    · have : n = 1 := by omega
      subst this
      exact lv_dconst1 hx hb9 hd1 (kk H locs ls hz hP hS hl)
  case ldc x =>
    have hd1 := xdl hd rfl
    simp only [xstep] at he
    split at he
    · rename_i hf
      cases he
      exact lv_ldc hx hb9 hown (hts _ (xcon_ok hf)) hd1 (kk H locs ls hz hP hS hl)
    · cases he
  case ldc_w x =>
    have hd1 := xdl hd rfl
    simp only [xstep] at he
    split at he
    · rename_i hf
      cases he
      exact lv_ldcw hx hb9 hown (hts _ (xcon_ok hf)) hd1 (kk H locs ls hz hP hS hl)
    · cases he
  case ldc2_w x =>
    have hd1 := xdl hd rfl
    simp only [xstep] at he
    split at he
    · rename_i hf
      cases he
      exact lv_ldc2 hx hb9 hown (hts _ (xcol_ok hf)) hd1 (kk H locs ls hz hP hS hl)
    · cases he
  case iload_n k =>
    have hd1 := xdl hd rfl
    simp only [xstep] at he
    split at he
    · rename_i hf
      cases he
      exact lv_iload_n hx hb9 hd1 rfl (xlk_has hf hl) (kk H locs ls hz hP hS hl)
    · cases he
  case iload k =>
    have hd1 := xdl hd rfl
    simp only [xstep] at he
    split at he
    · rename_i hf
      cases he
      exact lv_iload hx hb9 hd1 (xlk_has hf hl) (kk H locs ls hz hP hS hl)
    · cases he
  case lload_n k =>
    have hd1 := xdl hd rfl
    simp only [xstep] at he
    split at he
    · rename_i hf
      cases he
      exact lv_lload_n hx hb9 hd1 rfl (xlk_has hf hl) (kk H locs ls hz hP hS hl)
    · cases he
  case lload k =>
    have hd1 := xdl hd rfl
    simp only [xstep] at he
    split at he
    · rename_i hf
      cases he
      exact lv_lload hx hb9 hd1 (xlk_has hf hl) (kk H locs ls hz hP hS hl)
    · cases he
  case dload k =>
    have hd1 := xdl hd rfl
    simp only [xstep] at he
    split at he
    · rename_i hf
      cases he
      exact lv_dload hx hb9 hd1 (xlk_has hf hl) (kk H locs ls hz hP hS hl)
    · cases he
  case aload_n k =>
    have hd1 := xdl hd rfl
    simp only [xstep] at he
    split at he
    · rename_i hf
      cases he
      exact lv_aload_n hx hb9 hd1 rfl (xlk_has hf hl) (kk H locs ls hz hP hS hl)
    · cases he
  case aload k =>
    have hd1 := xdl hd rfl
    simp only [xstep] at he
    split at he
    · rename_i hf
      cases he
      exact lv_aload hx hb9 hd1 (xlk_has hf hl) (kk H locs ls hz hP hS hl)
    · cases he
  case istore_n k =>
    have hd1 := xdl hd rfl
    simp only [xstep] at he
    split at he
    · split at he
      · rename_i hk
        cases he
        exact lv_istore_n hx hb9 hd1 rfl hl hk (xs1_m _ (.int _) lv (xad old n0)) (fun ls' hl' => kk H locs ls' hz hP hS hl')
      · cases he
    · cases he
  case istore k =>
    have hd1 := xdl hd rfl
    simp only [xstep] at he
    split at he
    · split at he
      · rename_i hk
        cases he
        exact lv_istore hx hb9 hd1 hl hk (xs1_m _ (.int _) lv (xad old n0)) (fun ls' hl' => kk H locs ls' hz hP hS hl')
      · cases he
    · cases he
  case astore_n k =>
    have hd1 := xdl hd rfl
    simp only [xstep] at he
    split at he
    · split at he
      · rename_i hk
        cases he
        exact lv_astore_n hx hb9 hd1 rfl hl hk (xs1_m _ (.ref _) lv (xad old n0)) (fun ls' hl' => kk H locs ls' hz hP hS hl')
      · cases he
    · cases he
  case astore k =>
    have hd1 := xdl hd rfl
    simp only [xstep] at he
    split at he
    · split at he
      · rename_i hk
        cases he
        exact lv_astore hx hb9 hd1 hl hk (xs1_m _ (.ref _) lv (xad old n0)) (fun ls' hl' => kk H locs ls' hz hP hS hl')
      · cases he
    · cases he
  case lstore_n k =>
    have hd1 := xdl hd rfl
    simp only [xstep] at he
    split at he
    · split at he
      · rename_i hk
        cases he
        exact lv_lstore_n hx hb9 hd1 rfl hl hk (xs2_m _ (.long _) lv (xad old n0)) (fun ls' hl' => kk H locs ls' hz hP hS hl')
      · cases he
    · cases he
  case lstore k =>
    have hd1 := xdl hd rfl
    simp only [xstep] at he
    split at he
    · split at he
      · rename_i hk
        cases he
        exact lv_lstore hx hb9 hd1 hl hk (xs2_m _ (.long _) lv (xad old n0)) (fun ls' hl' => kk H locs ls' hz hP hS hl')
      · cases he
    · cases he
  case dstore k =>
    have hd1 := xdl hd rfl
    simp only [xstep] at he
    split at he
    · split at he
      · rename_i hk
        cases he
        exact lv_dstore hx hb9 hd1 hl hk (xs2_m _ (.double _) lv (xad old n0)) (fun ls' hl' => kk H locs ls' hz hP hS hl')
      · cases he
    · cases he
  case iinc k n =>
    have hd1 := xdl hd rfl
    simp only [xstep] at he
    split at he
    · rename_i hf
      split at he
      · rename_i hk
        cases he
        obtain ⟨j, hj⟩ := xlk_at (ad := xad old n0) hf
        exact lv_iinc hx hb9 hd1 hl hj rfl hk (xs1_m _ (.int _) lv (xad old n0)) (fun ls' hl' => kk H locs ls' hz hP hS hl')
      · cases he
    · cases he
  case iadd =>
    have hd1 := xdl hd rfl
    simp only [xstep] at he
    split at he
    · cases he
      exact lv_iadd hx hb9 hd1 (kk H locs ls hz hP hS hl)
    · cases he
  case isub =>
    have hd1 := xdl hd rfl
    simp only [xstep] at he
    split at he
    · cases he
      exact lv_isub hx hb9 hd1 (kk H locs ls hz hP hS hl)
    · cases he
  case imul =>
    have hd1 := xdl hd rfl
    simp only [xstep] at he
    split at he
    · cases he
      exact lv_imul hx hb9 hd1 (kk H locs ls hz hP hS hl)
    · cases he
  case ineg =>
    have hd1 := xdl hd rfl
    simp only [xstep] at he
    split at he
    · cases he
      exact lv_ineg hx hb9 hd1 (kk H locs ls hz hP hS hl)
    · cases he
  case iand =>
    have hd1 := xdl hd rfl
    simp only [xstep] at he
    split at he
    · cases he
      exact lv_iand hx hb9 hd1 (kk H locs ls hz hP hS hl)
    · cases he
  case ior =>
    have hd1 := xdl hd rfl
    simp only [xstep] at he
    split at he
    · cases he
      exact lv_ior hx hb9 hd1 (kk H locs ls hz hP hS hl)
    · cases he
  case ixor =>
    have hd1 := xdl hd rfl
    simp only [xstep] at he
    split at he
    · cases he
      exact lv_ixor hx hb9 hd1 (kk H locs ls hz hP hS hl)
    · cases he
  case ishl =>
    have hd1 := xdl hd rfl
    simp only [xstep] at he
    split at he
    · cases he
      exact lv_ishl hx hb9 hd1 (kk H locs ls hz hP hS hl)
    · cases he
  case ishr =>
    have hd1 := xdl hd rfl
    simp only [xstep] at he
    split at he
    · cases he
      exact lv_ishr hx hb9 hd1 (kk H locs ls hz hP hS hl)
    · cases he
  case ladd =>
    have hd1 := xdl hd rfl
    simp only [xstep] at he
    split at he
    · cases he
      exact lv_ladd hx hb9 hd1 (kk H locs ls hz hP hS hl)
    · cases he
  case lmul =>
    have hd1 := xdl hd rfl
    simp only [xstep] at he
    split at he
    · cases he
      exact lv_lmul hx hb9 hd1 (kk H locs ls hz hP hS hl)
    · cases he
  case idiv =>
    have hd1 := xdl hd rfl
    simp only [xstep] at he
    split at he
    · split at he
      · cases he
      · rename_i hne
        cases he
        exact lv_idiv hx hb9 hd1 hne (kk H locs ls hz hP hS hl)
    · cases he
  case irem =>
    have hd1 := xdl hd rfl
    simp only [xstep] at he
    split at he
    · split at he
      · cases he
      · rename_i hne
        cases he
        exact lv_irem hx hb9 hd1 hne (kk H locs ls hz hP hS hl)
    · cases he
  case iushr =>
    have hd1 := xdl hd rfl
    simp only [xstep] at he
    split at he
    · cases he
      exact lv_iushr hx hb9 hd1 rfl (kk H locs ls hz hP hS hl)
    · cases he
  case i2l =>
    have hd1 := xdl hd rfl
    simp only [xstep] at he
    split at he
    · cases he
      exact lv_i2l hx hb9 hd1 rfl (kk H locs ls hz hP hS hl)
    · cases he
  case lcmp =>
    have hd1 := xdl hd rfl
    simp only [xstep] at he
    split at he
    · cases he
      exact W.lcmp hx hb9 hd1 (kk H locs ls hz hP hS hl)
    · cases he
  case dcmp op =>
    have hd1 := xdl hd rfl
    simp only [xstep] at he
    split at he
    · cases he
      exact lv_dcmp hx hb9 hd1 (kk H locs ls hz hP hS hl)
    · cases he
  case dup =>
    have hd1 := xdl hd rfl
    simp only [xstep] at he
    split at he
    · split at he
      · rename_i hc
        cases he
        exact lv_dup hx hb9 hd1 (by rw [xv_cat]; exact hc) (kk H locs ls hz hP hS hl)
      · cases he
    · cases he
  case pop =>
    have hd1 := xdl hd rfl
    simp only [xstep] at he
    split at he
    · split at he
      · rename_i hc
        cases he
        exact lv_pop hx hb9 hd1 (by rw [xv_cat]; exact hc) (kk H locs ls hz hP hS hl)
      · cases he
    · cases he
  case dup_x1 =>
    have hd1 := xdl hd rfl
    simp only [xstep] at he
    split at he
    · split at he
      · rename_i hc
        split at he
        · rename_i hc2
          cases he
          exact lv_dup_x1 hx hb9 hd1 (by rw [xv_cat]; exact hc) (by rw [xv_cat]; exact hc2) (kk H locs ls hz hP hS hl)
        · cases he
      · cases he
    · cases he
  case dup2 =>
    have hd1 := xdl hd rfl
    simp only [xstep] at he
    split at he
    · split at he
      · rename_i hc
        split at he
        · rename_i hc2
          cases he
          exact lv_dup2_11 hx hb9 hd1 (by rw [xv_cat]; exact hc) (by rw [xv_cat]; exact hc2) (kk H locs ls hz hP hS hl)
        · cases he
      · cases he
    · cases he
  case if_icmp cd off =>
    have hd1 := xdl hd rfl
    simp only [xstep] at he
    split at he
    · split at he
      · rename_i ht
        cases cd
        case eq =>
          refine lv_icmp_eq hx hb9 hd1 (xj_eq ht) (fun hc => ?_) (fun hc => ?_)
          · simp only [xcmp, hc, decide_true, decide_false, Bool.not_false, Bool.not_true, not_false_eq_true, cond_true, cond_false] at he
            cases he
            exact kk H locs ls hz hP hS hl
          · simp only [xcmp, hc, decide_true, decide_false, Bool.not_false, Bool.not_true, not_false_eq_true, cond_true, cond_false] at he
            cases he
            exact kk H locs ls hz hP hS hl
        case ne =>
          refine lv_icmp_ne hx hb9 hd1 (xj_eq ht) (fun hc => ?_) (fun hc => ?_)
          · simp only [xcmp, hc, decide_true, decide_false, Bool.not_false, Bool.not_true, not_false_eq_true, cond_true, cond_false] at he
            cases he
            exact kk H locs ls hz hP hS hl
          · simp only [xcmp, hc, decide_true, decide_false, Bool.not_false, Bool.not_true, not_false_eq_true, cond_true, cond_false] at he
            cases he
            exact kk H locs ls hz hP hS hl
        case lt =>
          refine lv_icmp_lt hx hb9 hd1 (xj_eq ht) (fun hc => ?_) (fun hc => ?_)
          · simp only [xcmp, hc, decide_true, decide_false, Bool.not_false, Bool.not_true, not_false_eq_true, cond_true, cond_false] at he
            cases he
            exact kk H locs ls hz hP hS hl
          · simp only [xcmp, hc, decide_true, decide_false, Bool.not_false, Bool.not_true, not_false_eq_true, cond_true, cond_false] at he
            cases he
            exact kk H locs ls hz hP hS hl
        case ge =>
          refine lv_icmp_ge hx hb9 hd1 (xj_eq ht) (fun hc => ?_) (fun hc => ?_)
          · simp only [xcmp, hc, decide_true, decide_false, Bool.not_false, Bool.not_true, not_false_eq_true, cond_true, cond_false] at he
            cases he
            exact kk H locs ls hz hP hS hl
          · simp only [xcmp, hc, decide_true, decide_false, Bool.not_false, Bool.not_true, not_false_eq_true, cond_true, cond_false] at he
            cases he
            exact kk H locs ls hz hP hS hl
        case gt =>
          refine lv_icmp_gt hx hb9 hd1 (xj_eq ht) (fun hc => ?_) (fun hc => ?_)
          · simp only [xcmp, hc, decide_true, decide_false, Bool.not_false, Bool.not_true, not_false_eq_true, cond_true, cond_false] at he
            cases he
            exact kk H locs ls hz hP hS hl
          · simp only [xcmp, hc, decide_true, decide_false, Bool.not_false, Bool.not_true, not_false_eq_true, cond_true, cond_false] at he
            cases he
            exact kk H locs ls hz hP hS hl
        case le =>
          refine lv_icmp_le hx hb9 hd1 (xj_eq ht) (fun hc => ?_) (fun hc => ?_)
          · simp only [xcmp, hc, decide_true, decide_false, Bool.not_false, Bool.not_true, not_false_eq_true, cond_true, cond_false] at he
            cases he
            exact kk H locs ls hz hP hS hl
          · simp only [xcmp, hc, decide_true, decide_false, Bool.not_false, Bool.not_true, not_false_eq_true, cond_true, cond_false] at he
            cases he
            exact kk H locs ls hz hP hS hl
      · cases he
    · cases he
  case ifCond cd off =>
    have hd1 := xdl hd rfl
    simp only [xstep] at he
    split at he
    · split at he
      · rename_i ht
        cases cd
        case eq =>
          refine lv_if_eq hx hb9 hd1 (xj_eq ht) (fun hc => ?_) (fun hc => ?_)
          · simp only [xcmp, hc, decide_true, decide_false, Bool.not_false, Bool.not_true, not_false_eq_true, cond_true, cond_false] at he
            cases he
            exact kk H locs ls hz hP hS hl
          · simp only [xcmp, hc, decide_true, decide_false, Bool.not_false, Bool.not_true, not_false_eq_true, cond_true, cond_false] at he
            cases he
            exact kk H locs ls hz hP hS hl
        case ne =>
          refine lv_if_ne hx hb9 hd1 (xj_eq ht) (fun hc => ?_) (fun hc => ?_)
          · simp only [xcmp, hc, decide_true, decide_false, Bool.not_false, Bool.not_true, not_false_eq_true, cond_true, cond_false] at he
            cases he
            exact kk H locs ls hz hP hS hl
          · simp only [xcmp, hc, decide_true, decide_false, Bool.not_false, Bool.not_true, not_false_eq_true, cond_true, cond_false] at he
            cases he
            exact kk H locs ls hz hP hS hl
        case lt =>
          refine lv_if_lt hx hb9 hd1 (xj_eq ht) (fun hc => ?_) (fun hc => ?_)
          · simp only [xcmp, hc, decide_true, decide_false, Bool.not_false, Bool.not_true, not_false_eq_true, cond_true, cond_false] at he
            cases he
            exact kk H locs ls hz hP hS hl
          · simp only [xcmp, hc, decide_true, decide_false, Bool.not_false, Bool.not_true, not_false_eq_true, cond_true, cond_false] at he
            cases he
            exact kk H locs ls hz hP hS hl
        case ge =>
          refine lv_if_ge hx hb9 hd1 (xj_eq ht) (fun hc => ?_) (fun hc => ?_)
          · simp only [xcmp, hc, decide_true, decide_false, Bool.not_false, Bool.not_true, not_false_eq_true, cond_true, cond_false] at he
            cases he
            exact kk H locs ls hz hP hS hl
          · simp only [xcmp, hc, decide_true, decide_false, Bool.not_false, Bool.not_true, not_false_eq_true, cond_true, cond_false] at he
            cases he
            exact kk H locs ls hz hP hS hl
        case gt =>
          refine lv_if_gt hx hb9 hd1 (xj_eq ht) (fun hc => ?_) (fun hc => ?_)
          · simp only [xcmp, hc, decide_true, decide_false, Bool.not_false, Bool.not_true, not_false_eq_true, cond_true, cond_false] at he
            cases he
            exact kk H locs ls hz hP hS hl
          · simp only [xcmp, hc, decide_true, decide_false, Bool.not_false, Bool.not_true, not_false_eq_true, cond_true, cond_false] at he
            cases he
            exact kk H locs ls hz hP hS hl
        case le =>
          refine lv_if_le hx hb9 hd1 (xj_eq ht) (fun hc => ?_) (fun hc => ?_)
          · simp only [xcmp, hc, decide_true, decide_false, Bool.not_false, Bool.not_true, not_false_eq_true, cond_true, cond_false] at he
            cases he
            exact kk H locs ls hz hP hS hl
          · simp only [xcmp, hc, decide_true, decide_false, Bool.not_false, Bool.not_true, not_false_eq_true, cond_true, cond_false] at he
            cases he
            exact kk H locs ls hz hP hS hl
      · cases he
    · cases he
  case goto off =>
    have hd1 := xdl hd rfl
    simp only [xstep] at he
    split at he
    · rename_i ht
      cases he
      exact lv_goto hx hb9 hd1 (xj_eq ht) (kk H locs ls hz hP hS hl)
    · cases he
  case tableswitch d lo hi offs =>
    obtain ⟨len, hd1, -⟩ := hd
    simp only [xstep] at he
    split at he
    · split at he
      · rename_i hlo
        split at he
        · rename_i ht
          cases he
          exact lv_tableOut hx hb9 hd1 (Or.inl hlo) (xj_eq ht) (kk H locs ls hz hP hS hl)
        · cases he
      · rename_i hlo
        split at he
        · rename_i hhi
          split at he
          · rename_i ht
            cases he
            exact lv_tableOut hx hb9 hd1 (Or.inr hhi) (xj_eq ht) (kk H locs ls hz hP hS hl)
          · cases he
        · rename_i hhi
          split at he
          · rename_i ho
            split at he
            · rename_i ht
              cases he
              exact lv_tableIn hx hb9 hd1 hlo hhi ho (xj_eq ht) (kk H locs ls hz hP hS hl)
            · cases he
          · cases he
    · cases he
  case lookupswitch d ps =>
    obtain ⟨len, hd1, -⟩ := hd
    simp only [xstep] at he
    split at he
    · cases hq : (ps.toList.zip (ps.toList.drop 1)).all (fun (a, next) => a.1 < next.1) with
      | false => rw [hq] at he; cases he
      | true =>
        rw [hq] at he
        simp only [cond_true] at he
        split at he
        · rename_i ht
          cases he
          exact lv_lookup hx hb9 hd1 hq rfl (xj_eq ht) (kk H locs ls hz hP hS hl)
        · cases he
    · cases he
  case getfield x =>
    have hd1 := xdl hd rfl
    simp only [xstep] at he
    split at he
    · split at he
      · rename_i hf
        split at he
        · rename_i hg
          split at he
          · rename_i hci
            split at he
            · rename_i hv
              cases he
              subst hci
              obtain ⟨C, T, N, hc, -, -⟩ := xfld_ok hf
              have hlt : _ < 100 := Nat.lt_of_lt_of_le (List.getElem?_eq_some_iff.mp hc).1 (by decide)
              exact x_gf hx hb9 hown hts hnw hK hf (xP_obj hP hg hlt) (by rw [List.getElem?_map, hv]; rfl) hd1 (kk H locs ls hz hP hS hl)
            · cases he
          · cases he
        · cases he
      · cases he
    · cases he
  case putfield x =>
    have hd1 := xdl hd rfl
    simp only [xstep] at he
    split at he
    · split at he
      · rename_i hf
        split at he
        · rename_i hg
          split at he
          · rename_i hc
            split at he
            · rename_i hcnd
              obtain ⟨hci, hkl, hn, hfit, hfin⟩ := hcnd
              cases he
              subst hci
              have hlt : _ < 100 := Nat.lt_of_lt_of_le (List.getElem?_eq_some_iff.mp hc).1 (by decide)
              refine x_put hx hb9 hown hts hnw hK hc hf (xP_obj hP hg hlt) (by rw [List.length_map]; exact hkl) (xnar hn) (by rw [xfit]; exact hfit) (hfin.imp id (fun q => ⟨hini q.1, q.2⟩)) hd1 (fun H1 i9 h1 h2 h3 => ?_)
              have hge := xget_ge (old := old) (n0 := n0) hg
              have hk := kk H1 (locs ++ [⟨_, i9⟩]) ls (by rw [h2, hz]; unfold xset; rw [List.length_set]) (xP_set hP hg (by unfold xcell; rw [if_pos hlt]; rw [← List.map_set] at h1; exact h1) h3) (hS.put h2 h3 hge) hl
              unfold xset at hk
              rw [List.length_set] at hk
              exact hk
            · cases he
          · cases he
        · cases he
      · cases he
    · cases he
  case new x =>
    have hd1 := xdl hd rfl
    simp only [xstep] at he
    split at he
    · rename_i ci r hf
      split at he
      · rename_i C T N hc
        split at he
        · rename_i hN
          cases he
          obtain ⟨w1, w2, w3⟩ := xnew_ok hf hc hN
          obtain ⟨hin, hty, -, hdf, hdl⟩ := xcls_ok hc
          have hKn := hK.1.1 _ _ hc
          have hlt : _ < 100 := Nat.lt_of_lt_of_le (List.getElem?_eq_some_iff.mp hc).1 (by decide)
          rw [List.length_append, List.length_singleton] at hRc
          refine W.newcK hx hb9 hown (hts _ w1) (hts _ w2) (hts _ w3) rfl hd1 (by omega) (by omega) hKn.2.1 rfl fun H1 kC hkC e1 z1 o1 => ?_
          have hk := kk H1 locs ls (by rw [z1, hz, List.length_append, List.length_singleton]; omega) (xP_push hP hz (by
              unfold xcell
              rw [if_pos hlt]
              show va_at D xcl (H.size, .inr (ci, (xdef ci).map (xv (xad old n0)))) H1
              rw [xdef_map]
              exact ⟨_, hc, (u_born _ hts hin hKn hkC e1 hty).to hdf⟩) o1) ⟨Nat.le_trans hS.1 (by omega), fun q h1 h2 => (o1 q (Nat.lt_of_lt_of_le h1 hS.1)).trans (hS.2.1 q h1 h2), hS.2.2⟩ hl
          rw [List.length_append, List.length_singleton, show h.length + 1 - hb = h.length - hb + 1 by omega, show ks + N - kb = ks - kb + N by omega] at hk
          simp only [List.map_cons, xv] at hk
          rw [xad_new, ← hz] at hk
          exact hk
        · cases he
      · cases he
    · cases he
  case newarray aty =>
    have hd1 := xdl hd rfl
    simp only [xstep] at he
    split at he
    · rename_i n st1
      split at he
      · rename_i t hf
        split at he
        · cases he
        · rename_i hn
          split at he
          · rename_i hby
            cases he
            rw [List.length_append, List.length_singleton] at hRc
            have hty := xati_ok hf
            have ht3 := xati_lt hf
            refine W.newa hx hb9 (by rw [hty]; exact hac _ ht3) rfl hd1 rfl hn (by rw [hty]; exact hby) (by omega) (by omega) fun cA kA comp f1 f2 f3 => ?_
            have ecA : cA = tA t := by
              have := (hK.2 t (by omega)).1
              rw [hty] at f1
              exact Option.some.inj (f1.symm.trans this)
            have hk := kk (H.push { cls := cA, slots := Array.replicate n.toNatClampNeg (defaultValue (newarray.typeOf aty)), vm := .none }) locs ls (by rw [Array.size_push, hz, List.length_append, List.length_singleton]; omega) (xP_push hP hz (by
                unfold xcell
                rw [if_neg (by omega), Nat.add_sub_cancel_left, ← ecA, hty, xdv_ok ht3, List.map_replicate, xdv_map, List.toArray_replicate]
                simp) (fun q hq => by rw [Array.getElem?_push, if_neg (Nat.ne_of_lt hq)])) ⟨Nat.le_trans hS.1 (by rw [Array.size_push]; omega), fun q h1 h2 => by rw [Array.getElem?_push, if_neg (by have := hS.1; omega)]; exact hS.2.1 q h1 h2, hS.2.2⟩ hl
            rw [List.length_append, List.length_singleton, show h.length + 1 - hb = h.length - hb + 1 by omega, show ks + n.toNatClampNeg - kb = ks - kb + n.toNatClampNeg by omega] at hk
            simp only [List.map_cons, xv] at hk
            rw [xad_new, ← hz] at hk
            exact hk
          · cases he
      · cases he
    · cases he
  case arraylength =>
    have hd1 := xdl hd rfl
    simp only [xstep] at he
    split at he
    · split at he
      · rename_i hg
        split at he
        · rename_i ht
          cases he
          exact W.alen hx hb9 (xP_arr hP hg ht.1) (xIsA hK (by omega)) (by simp [xtoI]) rfl rfl hd1 (kk H locs ls hz hP hS hl)
        · cases he
      · split at he
        · rename_i hg
          split at he
          · rename_i ha
            cases he
            subst ha
            exact va_slen hx hb9 hX.1 (Nat.lt_of_lt_of_le hX.2 hn0) (Nat.not_le.mpr hX.2) hS hd1 (kk H locs ls hz hP hS hl)
          · cases he
        · cases he
    · cases he
  case iaload =>
    have hd1 := xdl hd rfl
    simp only [xstep] at he
    split at he
    · split at he
      · rename_i hg
        split at he
        · rename_i ht
          subst ht
          split at he
          · rename_i hi
            split at he
            · rename_i hv
              cases he
              obtain ⟨hin, hik⟩ := xix_in hi
              exact W.iald hx hb9 (xP_arr hP hg (by omega)) (xIsA (t := 0) hK (by omega)) (by intro q; cases q) (by simpa using hin) (by simp [hik, hv]) rfl rfl hd1 (kk H locs ls hz hP hS hl)
            · cases he
          · cases he
        · cases he
      · split at he
        · split at he
          · rename_i ha
            split at he
            · rename_i hi
              cases he
              subst ha
              obtain ⟨hin, hik⟩ := xix_in hi
              subst hik
              exact va_sld hx hb9 hX.1 (Nat.lt_of_lt_of_le hX.2 hn0) (Nat.not_le.mpr hX.2) hS hin hd1 (kk H locs ls hz hP hS hl)
            · cases he
          · cases he
        · cases he
    · cases he
  case laload =>
    have hd1 := xdl hd rfl
    simp only [xstep] at he
    split at he
    · split at he
      · rename_i hg
        split at he
        · rename_i ht
          subst ht
          split at he
          · rename_i hi
            split at he
            · rename_i hv
              cases he
              obtain ⟨hin, hik⟩ := xix_in hi
              exact W.lald hx hb9 (xP_arr hP hg (by omega)) (xIsA (t := 1) hK (by omega)) (by intro q; cases q) (by simpa using hin) (by simp [hik, hv]) rfl rfl hd1 (kk H locs ls hz hP hS hl)
            · cases he
          · cases he
        · cases he
      · cases he
    · cases he
  case baload =>
    have hd1 := xdl hd rfl
    simp only [xstep] at he
    split at he
    · split at he
      · rename_i hg
        split at he
        · rename_i ht
          subst ht
          split at he
          · rename_i hi
            split at he
            · rename_i hv
              cases he
              obtain ⟨hin, hik⟩ := xix_in hi
              exact W.zald hx hb9 (xP_arr hP hg (by omega)) (xIsA (t := 2) hK (by omega)) (by intro q; cases q) (by simpa using hin) (by simp [hik, hv]) rfl rfl hd1 (kk H locs ls hz hP hS hl)
            · cases he
          · cases he
        · cases he
      · cases he
    · cases he
  case aaload =>
    have hd1 := xdl hd rfl
    simp only [xstep] at he
    split at he
    · split at he
      · rename_i hg
        split at he
        · rename_i ht
          split at he
          · rename_i hi
            split at he
            · rename_i hv
              cases he
              obtain ⟨hin, hik⟩ := xix_in hi
              exact W.aald hx hb9 (xP_arr hP hg (by omega)) (xIsA hK (by omega)) (xtT_ref ht) (by intro q; cases q) (by simpa using hin) (by simp [hik, hv]) rfl rfl hd1 (kk H locs ls hz hP hS hl)
            · cases he
          · cases he
        · cases he
      · cases he
    · cases he
  case iastore =>
    have hd1 := xdl hd rfl
    simp only [xstep] at he
    split at he
    · rename_i v x a st1
      split at he
      · rename_i hg
        split at he
        · rename_i ht
          subst ht
          split at he
          · rename_i hi
            cases he
            obtain ⟨hin, hik⟩ := xix_in hi
            have hge := xget_ge (old := old) (n0 := n0) hg
            refine W.iast hx hb9 (xP_arr hP hg (by omega)) (xIsA (t := 0) hK (by omega)) (by intro q; cases q) (by simpa using hin) rfl rfl hd1 fun H1 h1 h2 h3 => ?_
            have hk := kk H1 (locs ++ [⟨_, x.toNatClampNeg⟩]) ls (by rw [h2, hz]; unfold xset; rw [List.length_set]) (xP_set hP hg (by
              unfold xcell
              rw [if_neg (by show ¬ (100 : Nat) < 100; omega), h1]
              simp only [List.map_set, xnarB, xvI, xvL]
              simp [Cell.setSlot, hik]) h3) (hS.put h2 h3 hge) hl
            unfold xset at hk
            rw [List.length_set] at hk
            exact hk
          · cases he
        · cases he
      · cases he
    · cases he
  case lastore =>
    have hd1 := xdl hd rfl
    simp only [xstep] at he
    split at he
    · rename_i v x a st1
      split at he
      · rename_i hg
        split at he
        · rename_i ht
          subst ht
          split at he
          · rename_i hi
            cases he
            obtain ⟨hin, hik⟩ := xix_in hi
            have hge := xget_ge (old := old) (n0 := n0) hg
            refine W.last hx hb9 (xP_arr hP hg (by omega)) (xIsA (t := 1) hK (by omega)) (by intro q; cases q) (by simpa using hin) rfl rfl hd1 fun H1 h1 h2 h3 => ?_
            have hk := kk H1 (locs ++ [⟨_, x.toNatClampNeg⟩]) ls (by rw [h2, hz]; unfold xset; rw [List.length_set]) (xP_set hP hg (by
              unfold xcell
              rw [if_neg (by show ¬ (101 : Nat) < 100; omega), h1]
              simp only [List.map_set, xnarB, xvI, xvL]
              simp [Cell.setSlot, hik]) h3) (hS.put h2 h3 hge) hl
            unfold xset at hk
            rw [List.length_set] at hk
            exact hk
          · cases he
        · cases he
      · cases he
    · cases he
  case bastore =>
    have hd1 := xdl hd rfl
    simp only [xstep] at he
    split at he
    · rename_i v x a st1
      split at he
      · rename_i hg
        split at he
        · rename_i ht
          subst ht
          split at he
          · rename_i hi
            cases he
            obtain ⟨hin, hik⟩ := xix_in hi
            have hge := xget_ge (old := old) (n0 := n0) hg
            refine W.zast hx hb9 (xP_arr hP hg (by omega)) (xIsA (t := 2) hK (by omega)) (by intro q; cases q) (by simpa using hin) rfl rfl hd1 fun H1 h1 h2 h3 => ?_
            have hk := kk H1 (locs ++ [⟨_, x.toNatClampNeg⟩]) ls (by rw [h2, hz]; unfold xset; rw [List.length_set]) (xP_set hP hg (by
              unfold xcell
              rw [if_neg (by show ¬ (102 : Nat) < 100; omega), h1]
              simp only [List.map_set, xnarB, xvI, xvL]
              simp [Cell.setSlot, hik]) h3) (hS.put h2 h3 hge) hl
            unfold xset at hk
            rw [List.length_set] at hk
            exact hk
          · cases he
        · cases he
      · cases he
    · cases he
  case aastore =>
    have hd1 := xdl hd rfl
    simp only [xstep] at he
    split at he
    · rename_i v x a st1
      split at he
      · rename_i t vs t2 vs2 hg hg2
        split at he
        · rename_i ht
          split at he
          · rename_i hi
            cases he
            obtain ⟨hin, hik⟩ := xix_in hi
            have hge := xget_ge (old := old) (n0 := n0) hg
            have ht1 : 103 ≤ t ∧ t < 106 := ⟨by omega, by omega⟩
            obtain ⟨-, kA, comp, k1, k2, k3⟩ := hK.2 (t - 100) (by omega)
            have hcomp := k3 (by omega)
            obtain ⟨-, kB, compB, b1, -, -⟩ := hK.2 (xcomp (t - 100)) (by unfold xcomp; split <;> omega)
            have he2 : t2 - 100 = xcomp (t - 100) := xcomp_ok ht
            refine W.aast hx hb9 (xP_arr hP hg (by omega)) (by intro q h; cases h) (by intro h; cases h) k1 k2 (xtT_ref ht1) (by rw [hcomp]; exact b1) ⟨fun q => hin (Or.inl q), by have := fun q => hin (Or.inr q); simpa using this⟩ (xP_arr hP hg2 (by omega)) (by intro q h; cases h) (by rw [he2]; exact b1) (by rw [hcomp, he2]; exact va_asg _ _) rfl rfl hd1 fun H1 h1 h2 h3 => ?_
            have hk := kk H1 (locs ++ [⟨_, x.toNatClampNeg⟩]) ls (by rw [h2, hz]; unfold xset; rw [List.length_set]) (xP_set hP hg (by
              unfold xcell
              rw [if_neg (by show ¬ t < 100; omega), h1]
              simp only [List.map_set, xvR]
              simp [Cell.setSlot, hik]) h3) (hS.put h2 h3 hge) hl
            unfold xset at hk
            rw [List.length_set] at hk
            exact hk
          · cases he
        · cases he
      · cases he
    · cases he
  all_goals (simp only [xstep, reduceCtorEq] at he)
end XI
end
section
/-! a run on lists: instruction by instruction, call by call -/
section XO
/-- how a run ends: the class thrown, if one was; the answer; the cells; how many slots were made -/
abbrev xO : Type := Option Nat × Option Value × xH × Nat
def xexit (μ : Nat) (i : Instr) (st : List Value) : Option (Option Value) := match i, st with
  | .ireturn, [.int v] => match xmr μ with
    | some t => if narrow t (.int v) = .int v then some (some (.int v)) else none
    | none => none
  | .lreturn, [.long v] => if xmr μ = some .long then some (some (.long v)) else none
  | .dreturn, [.double v] => if xmr μ = some .double then some (some (.double v)) else none
  | .areturn, [.ref a] => match xmr μ with
    | some (.object _) => some (some (.ref a))
    | some (.array _) => some (some (.ref a))
    | _ => none
  | .return_, [] => if xmr μ = none then some none else none
  | _, _ => none
def xinv (o μ x : Nat) (st : List Value) : Option (Nat × Nat × List Value × List Value) := match xfnd (xcalT o) x with
  | some (k, μ', _) =>
    if xmn μ' ≤ st.length then
      if k = 2 ∨ k = 3 then
        if ((st.drop (xmn μ')).map fun v => v.category).sum ≤ 8 ∧ xmf μ' + 1 ≤ xmf μ ∧ 8 + (xml μ' + 11) + xmlo μ' ≤ xmlo μ then some (k, μ', (st.take (xmn μ')).reverse, st.drop (xmn μ')) else none
      else match st.drop (xmn μ') with
        | .ref b :: rest => if (rest.map fun v => v.category).sum ≤ 8 ∧ xmf μ' + 1 ≤ xmf μ ∧ 8 + (xml μ' + 11) + xmlo μ' ≤ xmlo μ then some (k, μ', .ref b :: (st.take (xmn μ')).reverse, rest) else none
        | _ => none
    else none
  | none => none
/-- Math's own -/
def xmath (o μ x : Nat) (st : List Value) : Option (Int32 × List Value) := match xfnd (xcalT o) x with
  | some (7, _) => match st with
    | .int y :: .int x :: rest => if (rest.map fun v => v.category).sum + 13 ≤ xmlo μ ∧ 1 ≤ xmf μ then some (if x < y then y else x, rest) else none
    | _ => none
  | some (8, _) => match st with
    | .int y :: .int x :: rest => if (rest.map fun v => v.category).sum + 13 ≤ xmlo μ ∧ 1 ≤ xmf μ then some (if y < x then y else x, rest) else none
    | _ => none
  | some (9, _) => match st with
    | .int x :: rest => if (rest.map fun v => v.category).sum + 13 ≤ xmlo μ ∧ 1 ≤ xmf μ then some (if 0 ≤ x then x else 0 - x, rest) else none
    | _ => none
  | _ => none
/-- the rows of outer arrays -/
def xmk2 (t n k lab : Nat) : xH := (100 + (if t = 0 then 3 else 5), (List.range n).map (fun i => Value.ref (lab + 1 + i))) :: List.replicate n (100 + t, List.replicate k (xdv t))
def xmk3 (n k r lab : Nat) : xH := (104, (List.range n).map (fun i => Value.ref (lab + 1 + i * (1 + k)))) :: (List.range n).flatMap (fun i => xmk2 0 k r (lab + 1 + i * (1 + k)))
def xmul (o x dm : Nat) (st : List Value) (lab : Nat) : Option (List Value × xH × Nat) := match xfnd (xmulT o) x with
  | some (t, _) =>
    if dm = 2 ∧ (t = 3 ∨ t = 5) then match st with
      | .int k :: .int n :: rest => if n < 0 ∨ k < 0 ∨ 1000 < n ∨ 1000 < k then none else some (rest, xmk2 (xcomp t) n.toNatClampNeg k.toNatClampNeg lab, n.toNatClampNeg + n.toNatClampNeg * k.toNatClampNeg)
      | _ => none
    else if dm = 3 ∧ t = 4 then match st with
      | .int r :: .int k :: .int n :: rest => if n < 0 ∨ k < 0 ∨ r < 0 ∨ 1000 < n ∨ 1000 < k ∨ 1000 < r then none else some (rest, xmk3 n.toNatClampNeg k.toNatClampNeg r.toNatClampNeg lab, n.toNatClampNeg + n.toNatClampNeg * (k.toNatClampNeg + k.toNatClampNeg * r.toNatClampNeg))
      | _ => none
    else none
  | none => none
def xrecv (μ' : Nat) (as : List Value) (h : xH) : Bool := match as with
  | .ref b :: _ => match xget h b with
    | some (ci, _) => decide (ci = xmo μ') && Nat.blt ci xNX
    | none => false
  | _ => false
/-- the one is not the other -/
def xnc (ci ci' : Nat) : Bool := match xcl[ci]?, xcl[ci']? with
  | some (C, _, _), some (C', _, _) => xncT.any (fun z => decide (z.1 = C) && decide (z.2 = C'))
  | _, _ => false
/-- the handler of a class thrown at pc -/
def xhnd (o pc ci : Nat) : List (Nat × Nat × Nat × Nat) → Option Nat
  | [] => none
  | (s, e, hp, ct) :: r => if s ≤ pc ∧ pc < e then (match xfnd (xnewT o) ct with
      | some (ci', _) => if ci' = ci then some hp else if xnc ci ci' = true then xhnd o pc ci r else none
      | none => none) else xhnd o pc ci r
def xctch (o μ pc ci : Nat) (cod : List (Option Instr)) : Option (Nat × Nat × Nat) := match xhnd o pc ci (xmh μ) with
  | some hp => match cod[hp]? with
    | some (some (.astore_n k)) => some (hp, hp + 1, k)
    | some (some (.astore k)) => some (hp, hp + 2, k)
    | _ => none
  | none => none
def xdel (i : Nat) (lv : xL) : xL := lv.filter (fun q => !(q.1 == i) && !(q.1 + 1 == i && q.2.category == 2))
/-- the run of one method, by fuel; 'call' runs the others -/
def xloop (call : Nat → List Value → xH → Nat → Option xO) (sc : Option (List Int32)) (μ o nL : Nat) (ini : Bool) (cod : List (Option Instr)) : Nat → Nat → xL → List Value → xH → Nat → Option xO
  | 0, _, _, _, _, _ => none
  | n + 1, pc, lv, st, h, ks => match cod[pc]? with
    | some (some i) => match i with
      | .ireturn => match xexit μ .ireturn st with | some r => some (none, r, h, ks) | none => none
      | .lreturn => match xexit μ .lreturn st with | some r => some (none, r, h, ks) | none => none
      | .dreturn => match xexit μ .dreturn st with | some r => some (none, r, h, ks) | none => none
      | .areturn => match xexit μ .areturn st with | some r => some (none, r, h, ks) | none => none
      | .return_ => match xexit μ .return_ st with | some r => some (none, r, h, ks) | none => none
      | .invokestatic x => match xmath o μ x st with
        | some (v, rest) => xloop call sc μ o nL ini cod n (pc + 3) lv (.int v :: rest) h ks
        | none => match xinv o μ x st with
          | some (k, μ', as, rest) => if k = 2 then (match call μ' as h ks with
              | some (none, r, h', ks') => xloop call sc μ o nL ini cod n (pc + 3) lv (r.toList ++ rest) h' ks'
              | some (some t, _, h', ks') => if xcod μ' = true then (if xmh μ = [] then some (some t, none, h', ks') else (match xctch o μ pc t cod with
                | some (_, pc', j) => if j < nL then xloop call sc μ o nL ini cod n pc' (xdel j lv) [] h' ks' else none
                | none => none)) else none
              | none => none) else if k = 3 ∧ xcod μ' = true then (match call μ' as h ks with
              | some (none, r, h', ks') => xloop call sc μ o nL ini cod n (pc + 3) lv (r.toList ++ rest) h' ks'
              | _ => none) else none
          | none => none
      | .invokevirtual x => match xinv o μ x st with
        | some (k, μ', as, rest) => if k = 1 ∧ xrecv μ' as h = true ∧ xcod μ' = true then (match call μ' as h ks with
            | some (none, r, h', ks') => xloop call sc μ o nL ini cod n (pc + 3) lv (r.toList ++ rest) h' ks'
            | some (some t, _, h', ks') => if xmh μ = [] then some (some t, none, h', ks') else (match xctch o μ pc t cod with
              | some (_, pc', j) => if j < nL then xloop call sc μ o nL ini cod n pc' (xdel j lv) [] h' ks' else none
              | none => none)
            | none => none) else none
        | none => none
      | .invokespecial x => match xfnd (xcalT o) x with
        | some (6, _) => match st with
          | .ref _ :: rest => if (rest.map fun v => v.category).sum + 12 ≤ xmlo μ ∧ 1 ≤ xmf μ then xloop call sc μ o nL ini cod n (pc + 3) lv rest h ks else none
          | _ => none
        | _ => match xinv o μ x st with
          | some (k, μ', as, rest) => if (k = 0 ∨ k = 4) ∧ xmr μ' = none ∧ xini μ' = true ∧ xcod μ' = true then (match call μ' as h ks with
              | some (none, r, h', ks') => xloop call sc μ o nL ini cod n (pc + 3) lv (r.toList ++ rest) h' ks'
              | _ => none) else none
          | none => none
      | .getstatic x => match xfnd (xgstT o) x with
        | some _ => xloop call sc μ o nL ini cod n (pc + 3) lv (.ref 1 :: st) h ks
        | none => none
      | .invokeinterface x _ => match xfnd (xitfT o) x with
        | some (μ', _) => match st with
          | .ref b :: rest => if (rest.map fun v => v.category).sum ≤ 8 ∧ xmf μ' + 1 ≤ xmf μ ∧ 8 + (xml μ' + 11) + xmlo μ' ≤ xmlo μ ∧ xrecv μ' [.ref b] h = true ∧ xcod μ' = true then (match call μ' [.ref b] h ks with
              | some (none, r, h', ks') => xloop call sc μ o nL ini cod n (pc + 5) lv (r.toList ++ rest) h' ks'
              | _ => none) else none
          | _ => none
        | none => none
      | .multianewarray x dm => match xmul o x dm st (h.length + 4) with
        | some (rest, es, sl) => xloop call sc μ o nL ini cod n (pc + 4) lv (.ref (h.length + 4) :: rest) (h ++ es) (ks + sl)
        | none => none
      | .new x => match xfnd (xthrT μ) pc with
        | some (ci, _) => (match st with
          | [] => if xmh μ = [] then some (some ci, none, h ++ [(ci, [])], ks + 6) else none
          | _ => none)
        | none => match xstep o nL ini sc (.new x) pc lv st h ks with
          | some (pc', lv', st', h', ks') => xloop call sc μ o nL ini cod n pc' lv' st' h' ks'
          | none => none
      | i => match xstep o nL ini sc i pc lv st h ks with
        | some (pc', lv', st', h', ks') => xloop call sc μ o nL ini cod n pc' lv' st' h' ks'
        | none => none
    | _ => none
/-- a call, by the depth of calls; 'F' is the fuel of each -/
def xcall (F : Nat) (sc : Option (List Int32)) : Nat → Nat → List Value → xH → Nat → Option xO
  | 0, _, _, _, _ => none
  | d + 1, μ, as, h, ks => if (xcod μ = true ∨ xcow μ = true) ∧ (lg_sl as).length ≤ xml μ then xloop (xcall F sc d) sc μ (xmo μ) (xml μ) (xini μ) (xmc μ) F 0 (lv_args 0 as) [] h ks else none
end XO
end
section
/-! a run on lists grows -/
section XMO
set_option maxHeartbeats 4000000 in
theorem xstep_mono {o nL : Nat} {ini : Bool} {sc : Option (List Int32)} {i : Instr} {pc : Nat} {lv : xL} {st : List Value} {h : xH} {ks : Nat} {pc' : Nat} {lv' : xL} {st' : List Value} {h' : xH} {ks' : Nat}
    (he : xstep o nL ini sc i pc lv st h ks = some (pc', lv', st', h', ks')) : h.length ≤ h'.length ∧ ks ≤ ks' := by
  unfold xstep at he
  simp only [Bool.cond_eq_ite] at he
  repeat' split at he
  all_goals first
    | (cases he; exact ⟨Nat.le_refl _, Nat.le_refl _⟩)
    | (cases he; simp only [xset, List.length_set, List.length_append, List.length_singleton]; omega)
    | cases he
theorem xloop_mono {call : Nat → List Value → xH → Nat → Option xO} (hcall : ∀ μ as h ks out, call μ as h ks = some out → h.length ≤ out.2.2.1.length ∧ ks ≤ out.2.2.2) {sc : Option (List Int32)} {μ o nL : Nat} {ini : Bool} {cod : List (Option Instr)} :
    ∀ (n pc : Nat) (lv : xL) (st : List Value) (h : xH) (ks : Nat) (out : xO), xloop call sc μ o nL ini cod n pc lv st h ks = some out → h.length ≤ out.2.2.1.length ∧ ks ≤ out.2.2.2 := by
  intro n
  induction n with
  | zero => intro pc lv st h ks out he; cases he
  | succ n ih =>
    intro pc lv st h ks out he
    have down : ∀ (pc' : Nat) (lv' : xL) (st' : List Value) (h' : xH) (ks' : Nat), h.length ≤ h'.length → ks ≤ ks' → xloop call sc μ o nL ini cod n pc' lv' st' h' ks' = some out → h.length ≤ out.2.2.1.length ∧ ks ≤ out.2.2.2 := fun pc' lv' st' h' ks' a b q => by
      have := ih pc' lv' st' h' ks' out q
      exact ⟨Nat.le_trans a this.1, Nat.le_trans b this.2⟩
    unfold xloop at he
    split at he
    · split at he
      · split at he
        · cases he; exact ⟨Nat.le_refl _, Nat.le_refl _⟩
        · cases he
      · split at he
        · cases he; exact ⟨Nat.le_refl _, Nat.le_refl _⟩
        · cases he
      · split at he
        · cases he; exact ⟨Nat.le_refl _, Nat.le_refl _⟩
        · cases he
      · split at he
        · cases he; exact ⟨Nat.le_refl _, Nat.le_refl _⟩
        · cases he
      · split at he
        · cases he; exact ⟨Nat.le_refl _, Nat.le_refl _⟩
        · cases he
      · split at he
        · exact down _ _ _ _ _ (Nat.le_refl _) (Nat.le_refl _) he
        · split at he
          · split at he
            · split at he
              · rename_i hc
                have := hcall _ _ _ _ _ hc
                exact down _ _ _ _ _ this.1 this.2 he
              · rename_i hc
                have := hcall _ _ _ _ _ hc
                split at he
                · split at he
                  · cases he
                    exact this
                  · split at he
                    · split at he
                      · exact down _ _ _ _ _ this.1 this.2 he
                      · cases he
                    · cases he
                · cases he
              · cases he
            · split at he
              · split at he
                · rename_i hc
                  have := hcall _ _ _ _ _ hc
                  exact down _ _ _ _ _ this.1 this.2 he
                · cases he
              · cases he
          · cases he
      · split at he
        · split at he
          · split at he
            · rename_i hc
              have := hcall _ _ _ _ _ hc
              exact down _ _ _ _ _ this.1 this.2 he
            · rename_i hc
              have := hcall _ _ _ _ _ hc
              split at he
              · cases he
                exact this
              · split at he
                · split at he
                  · exact down _ _ _ _ _ this.1 this.2 he
                  · cases he
                · cases he
            · cases he
          · cases he
        · cases he
      · split at he
        · split at he
          · split at he
            · exact down _ _ _ _ _ (Nat.le_refl _) (Nat.le_refl _) he
            · cases he
          · cases he
        · split at he
          · split at he
            · split at he
              · rename_i hc
                have := hcall _ _ _ _ _ hc
                exact down _ _ _ _ _ this.1 this.2 he
              · cases he
            · cases he
          · cases he
      · split at he
        · exact down _ _ _ _ _ (Nat.le_refl _) (Nat.le_refl _) he
        · cases he
      · split at he
        · split at he
          · split at he
            · split at he
              · rename_i hc
                have := hcall _ _ _ _ _ hc
                exact down _ _ _ _ _ this.1 this.2 he
              · cases he
            · cases he
          · cases he
        · cases he
      · split at he
        · exact down _ _ _ _ _ (by rw [List.length_append]; exact Nat.le_add_right _ _) (Nat.le_add_right _ _) he
        · cases he
      · split at he
        · split at he
          · split at he
            · cases he
              exact ⟨by rw [List.length_append]; exact Nat.le_add_right _ _, Nat.le_add_right _ _⟩
            · cases he
          · cases he
        · split at he
          · rename_i hs
            have := xstep_mono hs
            exact down _ _ _ _ _ this.1 this.2 he
          · cases he
      · split at he
        · rename_i hs
          have := xstep_mono hs
          exact down _ _ _ _ _ this.1 this.2 he
        · cases he
    · cases he
theorem xcall_mono {F : Nat} {sc : Option (List Int32)} : ∀ (d μ : Nat) (as : List Value) (h : xH) (ks : Nat) (out : xO), xcall F sc d μ as h ks = some out → h.length ≤ out.2.2.1.length ∧ ks ≤ out.2.2.2 := by
  intro d
  induction d with
  | zero => intro μ as h ks out he; cases he
  | succ d ih =>
    intro μ as h ks out he
    unfold xcall at he
    split at he
    · exact xloop_mono ih _ _ _ _ _ _ _ he
    · cases he
end XMO
end
section
/-! a method: what its run on lists says, the machine does -/
section XLP
set_option maxRecDepth 100000 in
theorem xcodw_all : (List.range xNM).all (fun μ => !(xcod μ && xcow μ)) = true := by decide +kernel
/-- the statics that a throw reads, the texts it takes -/
abbrev xLs : MethodName := ⟨"java/util/List", "size", "()I"⟩
abbrev xAs : MethodName := ⟨"java/util/ArrayList", "size", "()I"⟩
def xZ (old : Nat → Nat) (n0 : Nat) (U : State) : Prop := vx_Zq Bundle.tN "UNASSIGNED_STACK" Bundle.steD (fun q => n0 ≤ q) U U.heap ∧ vx_Zq Bundle.tN "SUPPRESSED_SENTINEL" Bundle.listD (fun q => n0 ≤ q) U U.heap ∧ (∀ q ∈ xstrT, ∃ sa, vk_R (xown q.1) q.2.1 q.2.2 sa U) ∧ (∀ q ∈ xncT, va_Nc q.1 q.2 U) ∧
  (xal = true → va_Z "java/util/ArrayList" "DEFAULTCAPACITY_EMPTY_ELEMENTDATA" "[Ljava/lang/Object;" (.ref (old 1)) (fun q => n0 ≤ q) U U.heap ∧ va_Fw "java/util/ArrayList" xLs xAs U)
def xPc (D : va_G) (tA : Nat → ClassId) (old : Nat → Nat) (n0 : Nat) (sc : Option (List Int32)) (h : xH) (U : State) : Prop :=
  U.heap.size = n0 + h.length ∧ xP D tA (xad old n0) h U.heap ∧ xK D tA U ∧ (∀ w ∈ xnw, va_Nw w U) ∧ xX sc old n0 U ∧ xZ old n0 U
def xQc (D : va_G) (tA : Nat → ClassId) (old : Nat → Nat) (n0 : Nat) (out : xO) : Array Value → State → Outcome → State → Prop := fun _ st oc t =>
  (out.1 = none ∧ oc = .returned (out.2.1.map (xv (xad old n0))) ∧ t.heap.size = n0 + out.2.2.1.length ∧ xP D tA (xad old n0) out.2.2.1 t.heap) ∧ va_F (fun q => n0 ≤ q) st t
def xXc (D : va_G) (tA : Nat → ClassId) (old : Nat → Nat) (n0 : Nat) (out : xO) : String → State → State → Prop := fun E st t =>
  ((∃ (ci : Nat) (C : String) (T : u_T) (N : Nat), out.1 = some ci ∧ xcl[ci]? = some (C, T, N) ∧ E = C) ∧ t.heap.size = n0 + out.2.2.1.length ∧ xP D tA (xad old n0) out.2.2.1 t.heap) ∧ va_F (fun q => n0 ≤ q) st t
def xws (μ : Nat) : List Jvm.Cond := (if xcow μ = true then .codeWith (xmy μ) (xmb μ) (xml μ) (xmr μ) (xmh μ) else .code (xmy μ) (xmb μ) (xml μ) (xmr μ)) :: xgw
def xMet (l : Launch) (D : va_G) (tA : Nat → ClassId) (old : Nat → Nat) (n0 : Nat) (sc : Option (List Int32)) (μ : Nat) (as : List Value) (h : xH) (ks : Nat) (out : xO) : Prop :=
  vx_Met l (xmy μ) (xws μ) ({ frames := xmf μ, cells := out.2.2.1.length - h.length, slots := out.2.2.2 - ks, locals := xmlo μ } : Room) (va_Pc (as.map (xv (xad old n0))) (xPc D tA old n0 sc h)) (xQc D tA old n0 out) (xXc D tA old n0 out) (out.2.2.1.length - h.length) (out.2.2.2 - ks) (fun q => n0 ≤ q)
theorem xnw_of {w : Jvm.Cond} (hw : w ∈ xnw) {A : Array Value} {U : State} (h : w.before A U = true) : va_Nw w U := by
  have hb := (List.mem_filter.mp hw).2
  cases w with
  | fieldLinkNest => exact va_Nw.of rfl h
  | methodLinkNest => exact va_Nw.of rfl h
  | castable => exact va_Nw.of rfl h
  | declares => exact va_Nw.of rfl h
  | arrayOver t => exact h
  | _ => cases hb
theorem xnw_use {w : Jvm.Cond} (hw : w ∈ xnw) {A : Array Value} {U : State} (h : va_Nw w U) : w.before A U = true := by
  have hb := (List.mem_filter.mp hw).2
  cases w with
  | fieldLinkNest => exact va_Nw.use rfl h
  | methodLinkNest => exact va_Nw.use rfl h
  | castable => exact va_Nw.use rfl h
  | declares => exact va_Nw.use rfl h
  | arrayOver t => exact h
  | _ => cases hb
theorem xGood {L : List Jvm.Cond} (h : ∀ w ∈ L, w ∈ xgw) : GoodIn xgw L := fun w hw => ⟨h w hw, good_of_word (xgood (h w hw))⟩
theorem xcodw {μ : Nat} (h : xcod μ = true) : ¬ xcow μ = true := by
  intro h2
  have h1 := List.all_eq_true.mp xcodw_all μ (List.mem_range.mpr (xcod_lt h))
  rw [h, h2] at h1
  cases h1
theorem xws_c {μ : Nat} (h : xcod μ = true) : xws μ = .code (xmy μ) (xmb μ) (xml μ) (xmr μ) :: xgw := by
  unfold xws
  rw [if_neg (xcodw h)]
theorem xws_w {μ : Nat} (h : xcow μ = true) : xws μ = .codeWith (xmy μ) (xmb μ) (xml μ) (xmr μ) (xmh μ) :: xgw := by
  unfold xws
  rw [if_pos h]
theorem xws_in {μ : Nat} (h : xcod μ = true ∨ xcow μ = true) : ∀ w ∈ xws μ, w ∈ xgw := fun w hw => by
  rcases h with h | h
  · rw [xws_c h] at hw
    exact (List.mem_cons.mp hw).elim (fun e => e ▸ xcod_ok h) id
  · rw [xws_w h] at hw
    exact (List.mem_cons.mp hw).elim (fun e => e ▸ xcow_ok h) id
theorem xK_moved {D : va_G} {tA : Nat → ClassId} {u U : State} (hvm : u.vm.Alike U.vm) (h : xK D tA u) : xK D tA U := by
  refine ⟨va_K.moved hvm h.1, fun t ht => ?_⟩
  obtain ⟨h1, k, comp, h2, h3, h4⟩ := h.2 t ht
  obtain ⟨k', hk', he⟩ := hvm.2.2 _ _ h2
  exact ⟨by rw [hvm.findClass]; exact h1, k', comp, hk', by rw [he]; exact h3, h4⟩
theorem xX_moved {sc : Option (List Int32)} {old : Nat → Nat} {n0 : Nat} {u U : State} (hvm : u.vm.Alike U.vm) (hq : ∀ q : Nat, q < n0 → U.heap[q]? = u.heap[q]?) (h : xX sc old n0 u) : xX sc old n0 U := by
  cases sc with
  | none => trivial
  | some l => exact ⟨va_X.moved hvm (va_X.kept h.1 (hq _ h.2)), h.2⟩
theorem xZ_moved {old : Nat → Nat} {n0 : Nat} {u U : State} (hW : u.WarmedH U.vm) (hq : ∀ q : Nat, q < u.heap.size → ¬ n0 ≤ q → U.heap[q]? = u.heap[q]?) (h : xZ old n0 u) : xZ old n0 U :=
  ⟨vx_Zq.moved hW.alike (h.1.kept hq), vx_Zq.moved hW.alike (h.2.1.kept hq), fun q hm => (h.2.2.1 q hm).imp fun sa hs => vk_R.warm hW hs, fun q hm => va_Nc.moved hW.alike (h.2.2.2.1 q hm), fun ha => ⟨va_Z.moved hW.alike ((h.2.2.2.2 ha).1.kept hq), va_Fw.moved (by decide) hW.alike (h.2.2.2.2 ha).2⟩⟩
theorem xPc_blind {D : va_G} {tA : Nat → ClassId} {old : Nat → Nat} {n0 : Nat} {sc : Option (List Int32)} {h : xH} {av : List Value} : FrameBlind (va_Pc av (xPc D tA old n0 sc h)) := by
  intro a U g mk q
  obtain ⟨q0, q1, q2, q3, q4, q5, q6⟩ := q
  exact ⟨q0, q1, q2, xK_moved (u := U) (U := U.calling g mk a) (Vm.Alike.refl U.vm) q3, fun w hw => xnw_warm hw (s := U) (U := U.calling g mk a) (State.WarmedH.refl U) (q4 w hw), xX_moved (u := U) (U := U.calling g mk a) (Vm.Alike.refl U.vm) (fun _ _ => rfl) q5, xZ_moved (u := U) (U := U.calling g mk a) (State.WarmedH.refl U) (fun _ _ _ => rfl) q6⟩
theorem xcat_m (ad : Nat → Nat) (l : List Value) : ((l.map (xv ad)).map fun v => v.category).sum = (l.map fun v => v.category).sum := by
  rw [List.map_map]
  congr 1
  exact List.map_congr_left fun v _ => xv_cat ad v
theorem xstk {st r : List Value} {n : Nat} {f : Value → Value} (h : st.drop n = r) : st.map f = (((st.take n).reverse).map f).reverse ++ r.map f := by
  rw [← h, List.map_reverse, List.reverse_reverse, ← List.map_append, List.take_append_drop]
section
variable {p : Program} {l : Launch} {e : Env} {R : Room} {s : State} {m : MethodId} {args : Array Value} {below : List Frame} {meth : Method} {c : Code} {H : Heap} {locs : List Loc} {cells slots : Nat} {Q : State → Prop}
/-- the callee's start, out of the caller's -/
theorem xPc_at {D : va_G} {tA : Nat → ClassId} {old : Nat → Nat} {n0 : Nat} {sc : Option (List Int32)} {h : xH} (hnw : ∀ w ∈ xnw, w.before args s = true) (hK : xK D tA s) (hX : xX sc old n0 s) (hZ : xZ old n0 s) (hn0 : n0 ≤ s.heap.size)
    (hz : H.size = n0 + h.length) (hP : xP D tA (xad old n0) h H) (hS : va_S (fun q => n0 ≤ q) s.heap H locs) (U : State) (hU : U.heap = H) (hW : s.WarmedH U.vm) : xPc D tA old n0 sc h U := by
  subst hU
  refine ⟨hz, hP, xK_moved hW.alike hK, fun w hw => xnw_warm hw hW ?_, xX_moved hW.alike (fun q hq => hS.2.1 q (Nat.lt_of_lt_of_le hq hn0) (Nat.not_le.mpr hq)) hX, xZ_moved hW hS.2.1 hZ⟩
  exact xnw_of hw (hnw w hw)
/-- a call that returns -/
theorem x_cret {D : va_G} {tA : Nat → ClassId} {old : Nat → Nat} {n0 mc ms pc : Nat} {ls : Array Slot} {st0 rest : List Value} {a : Array Value} {out : xO} {h' : xH} {ks' : Nat} {r : Option Value}
    (hr : vx_Run p l e R s m args below meth c H locs cells slots mc ms (F0 m pc ls st0) rest (xQc D tA old n0 out a) (xXc D tA old n0 out) (fun q => n0 ≤ q)) (ho : out = (none, r, h', ks')) (hS : va_S (fun q => n0 ≤ q) s.heap H locs)
    (kk : ∀ (H1 : Heap) (locs1 : List Loc), H1.size = n0 + h'.length → xP D tA (xad old n0) h' H1 → va_S (fun q => n0 ≤ q) s.heap H1 locs1 → W p l e R s m args below meth c H1 locs1 (cells + mc) (slots + ms) Q (F0 m (pc + 3) ls ((r.toList ++ []).map (xv (xad old n0)) ++ rest))) : W p l e R s m args below meth c H locs cells slots Q (F0 m pc ls st0) := by
  subst ho
  intro T hT X
  rcases hr T hT X with ⟨v, st₀, t, T', L, h0, X', hL, e1, e2, ⟨⟨-, hv, hsz, hp⟩, hF⟩, st⟩ | ⟨q, st₀, t, T', L, E, ce, h0, X', hL, e1, e2, ⟨⟨⟨ci, C, T9, N, hx1, -⟩, -⟩, -⟩, -⟩
  · obtain ⟨k1, k2, k3⟩ := vx_keep h0 e1 hS (fun _ _ h => h) (fun _ h => h) hL hF
    obtain ⟨t2, a1, b1⟩ := kk T'.heap (locs ++ L) (by rw [e1]; exact hsz) (by rw [e1]; exact hp) k3 T' rfl X'
    refine ⟨t2, st t2 ?_, b1⟩
    have hv : v = r.map (xv (xad old n0)) := Outcome.returned.inj hv
    subst hv
    have e : (r.toList ++ []).map (xv (xad old n0)) ++ rest = (r.map (xv (xad old n0))).toList ++ rest := by cases r <;> rfl
    rw [e] at a1
    exact a1
  · cases hx1
/-- a call that throws: it goes on to the caller -/
theorem x_cthr {D : va_G} {tA : Nat → ClassId} {old : Nat → Nat} {n0 mc ms mc2 ms2 pc : Nat} {ls : Array Slot} {st0 rest : List Value} {a : Array Value} {out : xO} {h' : xH} {ks' ci : Nat} {r : Option Value}
    (hr : vx_Run p l e R s m args below meth c H locs cells slots mc ms (F0 m pc ls st0) rest (xQc D tA old n0 out a) (xXc D tA old n0 out) (fun q => n0 ≤ q)) (ho : out = (some ci, r, h', ks')) (hS : va_S (fun q => n0 ≤ q) s.heap H locs)
    (hnoh : ∀ x ∈ c.exceptionTable.toList, False) (hlocks : meth.locks = false) (hc : cells + mc ≤ mc2) (hs : slots + ms ≤ ms2) :
    W p l e R s m args below meth c H locs cells slots (vx_MQ below (xQc D tA old n0 (some ci, none, h', ks')) (xXc D tA old n0 (some ci, none, h', ks')) args s mc2 ms2 (fun q => n0 ≤ q)) (F0 m pc ls st0) := by
  subst ho
  intro T hT X
  rcases hr T hT X with ⟨v, st₀, t, T', L, h0, X', hL, e1, e2, ⟨⟨hv, -⟩, -⟩, -⟩ | ⟨q, st₀, t, T', L, E, ce, h0, X', hL, e1, e2, ⟨⟨⟨ci2, C, T9, N, hx1, hx2, hx3⟩, hsz, hp⟩, hF⟩, hce, hcv, hcl, st⟩
  · cases hv
  · obtain ⟨k1, k2, k3⟩ := vx_keep h0 e1 hS (fun _ _ h => h) (fun _ h => h) hL hF
    have hw := vx_out (p := p) (l := l) (e := e) (R := R) (s := s) (m := m) (args := args) (below := below) (meth := meth) (c := c) (H := T'.heap) (locs := locs ++ L) (cells := cells + mc) (slots := slots + ms) (pc := pc) (ls := ls) (rest := rest) (Qc := xQc D tA old n0 (some ci, none, h', ks')) (XC := xXc D tA old n0 (some ci, none, h', ks')) (free := fun q => n0 ≤ q) (E := E) (ce := ce) (q := q) (mc := mc2) (ms := ms2)
      (fun x hx => (hnoh x hx).elim) hlocks (by rw [e1]; exact hce) hcv hcl (fun t9 ht9 hal => ⟨⟨⟨ci2, C, T9, N, hx1, hx2, hx3⟩, by rw [ht9, e1]; exact hsz, by rw [ht9, e1]; exact hp⟩, va_S.F k3 ht9⟩) k3.2.2 hc hs
    obtain ⟨t2, a1, b1⟩ := hw T' rfl X'
    exact ⟨t2, st.trans a1, b1⟩
end
/-- a callee that throws nothing -/
theorem xMet_plain {l : Launch} {D : va_G} {tA : Nat → ClassId} {old : Nat → Nat} {n0 : Nat} {sc : Option (List Int32)} {μ : Nat} {as : List Value} {h : xH} {ks : Nat} {r : Option Value} {h' : xH} {ks' : Nat} (hm : xMet l D tA old n0 sc μ as h ks (none, r, h', ks')) :
    Met l (xmy μ) (xws μ) ({ frames := xmf μ, cells := h'.length - h.length, slots := ks' - ks, locals := xmlo μ } : Room) (va_Pc (as.map (xv (xad old n0))) (xPc D tA old n0 sc h)) (xQc D tA old n0 (none, r, h', ks')) (h'.length - h.length) (ks' - ks) (fun q => n0 ≤ q) := by
  intro p e ha hc hk s m args below hf happ hP hK
  obtain ⟨n, o, h1, h2, h3, h4⟩ := hm p e ha hc hk s m args below hf happ hP hK
  rcases h4 with h4 | ⟨q, -, E, ce, L, ⟨⟨⟨ci, C, T, N, hx, -⟩, -⟩, -⟩, -⟩
  · exact ⟨n, o, h1, h2, h3, h4⟩
  · cases hx
end XLP
end
section
section XLA
set_option maxRecDepth 100000 in
theorem xarr_all : (List.range 3).all (fun t => lw_tbl.any (fun w => decide (w = Jvm.Cond.arrayClass (xtT t)))) = true := by decide +kernel
theorem xarr_ok {t : Nat} (ht : t < 3) : Jvm.Cond.arrayClass (xtT t) ∈ xgw := by
  obtain ⟨w, hw, he⟩ := List.any_eq_true.mp (List.all_eq_true.mp xarr_all t (List.mem_range.mpr ht))
  have := of_decide_eq_true he
  subst this
  exact List.mem_filter.mpr ⟨hw, rfl⟩
end XLA
end
section
section XLB
theorem xexit_i {μ : Nat} {st : List Value} {r : Option Value} (h : xexit μ .ireturn st = some r) : ∃ v t, st = [.int v] ∧ xmr μ = some t ∧ narrow t (.int v) = .int v ∧ r = some (.int v) := by
  match st, h with
  | [.int v], h =>
    unfold xexit at h
    dsimp only at h
    split at h
    · rename_i t ht
      split at h
      · rename_i hn
        exact ⟨v, t, rfl, ht, hn, (Option.some.inj h).symm⟩
      · cases h
    · cases h
theorem xexit_l {μ : Nat} {st : List Value} {r : Option Value} (h : xexit μ .lreturn st = some r) : ∃ v, st = [.long v] ∧ xmr μ = some .long ∧ r = some (.long v) := by
  match st, h with
  | [.long v], h =>
    unfold xexit at h
    dsimp only at h
    split at h
    · rename_i ht
      exact ⟨v, rfl, ht, (Option.some.inj h).symm⟩
    · cases h
theorem xexit_d {μ : Nat} {st : List Value} {r : Option Value} (h : xexit μ .dreturn st = some r) : ∃ v, st = [.double v] ∧ xmr μ = some .double ∧ r = some (.double v) := by
  match st, h with
  | [.double v], h =>
    unfold xexit at h
    dsimp only at h
    split at h
    · rename_i ht
      exact ⟨v, rfl, ht, (Option.some.inj h).symm⟩
    · cases h
theorem xexit_a {μ : Nat} {st : List Value} {r : Option Value} (h : xexit μ .areturn st = some r) : ∃ v t, st = [.ref v] ∧ xmr μ = some t ∧ ((∃ n, t = .object n) ∨ ∃ t', t = .array t') ∧ r = some (.ref v) := by
  match st, h with
  | [.ref v], h =>
    unfold xexit at h
    dsimp only at h
    split at h
    · rename_i n ht
      exact ⟨v, _, rfl, ht, Or.inl ⟨n, rfl⟩, (Option.some.inj h).symm⟩
    · rename_i n ht
      exact ⟨v, _, rfl, ht, Or.inr ⟨n, rfl⟩, (Option.some.inj h).symm⟩
    · cases h
theorem xexit_v {μ : Nat} {st : List Value} {r : Option Value} (h : xexit μ .return_ st = some r) : st = [] ∧ xmr μ = none ∧ r = none := by
  match st, h with
  | [], h =>
    unfold xexit at h
    dsimp only at h
    split at h
    · rename_i ht
      exact ⟨rfl, ht, (Option.some.inj h).symm⟩
    · cases h
theorem xinv_ok {o μ x k μ' : Nat} {st as rest : List Value} (h : xinv o μ x st = some (k, μ', as, rest)) : ∃ r', xfnd (xcalT o) x = some (k, μ', r') ∧ xmn μ' ≤ st.length ∧ (rest.map fun v => v.category).sum ≤ 8 ∧ xmf μ' + 1 ≤ xmf μ ∧ 8 + (xml μ' + 11) + xmlo μ' ≤ xmlo μ ∧
    ((k = 2 ∨ k = 3) → as = (st.take (xmn μ')).reverse ∧ st.drop (xmn μ') = rest) ∧ (¬ (k = 2 ∨ k = 3) → ∃ b, as = .ref b :: (st.take (xmn μ')).reverse ∧ st.drop (xmn μ') = .ref b :: rest) := by
  unfold xinv at h
  split at h
  · rename_i k2 μ2 r2 hf
    split at h
    · rename_i hle
      split at h
      · rename_i hk
        split at h
        · rename_i hc
          cases h
          exact ⟨r2, hf, hle, hc.1, hc.2.1, hc.2.2, fun _ => ⟨rfl, rfl⟩, fun q => absurd hk q⟩
        · cases h
      · rename_i hk
        split at h
        · rename_i b rest2 hdr
          split at h
          · rename_i hc
            cases h
            exact ⟨r2, hf, hle, hc.1, hc.2.1, hc.2.2, fun q => absurd q hk, fun _ => ⟨b, rfl, hdr⟩⟩
          · cases h
        · cases h
    · cases h
  · cases h
section
variable {p : Program} {l : Launch} {e : Env} {R : Room} {s : State} {m : MethodId} {args : Array Value} {below : List Frame} {meth : Method} {c : Code} {H : Heap} {locs : List Loc} {cells slots : Nat} {Q : State → Prop}
theorem x_ofva {mc ms : Nat} {g : JFrame} {rest : List Value} {Qa : State → Outcome → State → Prop} {free : Addr → Prop} {XC : String → State → State → Prop} (h : va_Run p l e R s m args below meth c H locs cells slots mc ms g rest Qa free) : vx_Run p l e R s m args below meth c H locs cells slots mc ms g rest Qa XC free :=
  fun T hT X => Or.inl (h T hT X)
/-- the call's run, by its kind -/
theorem x_run {D : va_G} {tA : Nat → ClassId} {old : Nat → Nat} {n0 μ μ' x k pc : Nat} {sc : Option (List Int32)} {st as rest : List Value} {h : xH} {ks : Nat} {out : xO} {ls : Array Slot} {lv : xL} {i : Instr} {r' : Nat × Nat × Nat × Nat}
    (hM : xMet l D tA old n0 sc μ' as h ks out) (hcd : xcod μ' = true ∨ (xcow μ' = true ∧ k = 2 ∧ out.1 = none)) (hfix : CallFix p m c (xmb μ) (xml μ) s args xgw (xown (xmo μ)))
    (hnw : ∀ w ∈ xnw, w.before args s = true) (hK : xK D tA s) (hX : xX sc old n0 s) (hZ : xZ old n0 s) (hn0 : n0 ≤ s.heap.size) (hRf : xmf μ ≤ R.frames) (hRl : xmlo μ ≤ R.locals)
    (hz : H.size = n0 + h.length) (hP : xP D tA (xad old n0) h H) (hS : va_S (fun q => n0 ≤ q) s.heap H locs) (hl : lv_has ls (xml μ) (xm (xad old n0) lv))
    (hf : xfnd (xcalT (xmo μ)) x = some (k, μ', r')) (hn : xmn μ' ≤ st.length) (hcat : (rest.map fun v => v.category).sum ≤ 8) (hfr : xmf μ' + 1 ≤ xmf μ) (hlo : 8 + (xml μ' + 11) + xmlo μ' ≤ xmlo μ)
    (hsp : ((k = 2 ∨ k = 3) → as = (st.take (xmn μ')).reverse ∧ st.drop (xmn μ') = rest) ∧ (¬ (k = 2 ∨ k = 3) → ∃ b, as = .ref b :: (st.take (xmn μ')).reverse ∧ st.drop (xmn μ') = .ref b :: rest))
    (hk : (k = 1 ∧ i = .invokevirtual x ∧ xrecv μ' as h = true) ∨ ((k = 2 ∨ (k = 3 ∧ out.1 = none)) ∧ i = .invokestatic x) ∨ ((k = 0 ∨ k = 4) ∧ i = .invokespecial x ∧ xmr μ' = none ∧ xini μ' = true ∧ out.1 = none))
    (hdg : decode (xmb μ) pc = .ok (i, 3)) (hc1 : cells + (out.2.2.1.length - h.length) ≤ R.cells) (hc2 : slots + (out.2.2.2 - ks) ≤ R.slots) :
    vx_Run p l e R s m args below meth c H locs cells slots (out.2.2.1.length - h.length) (out.2.2.2 - ks) (F0 m pc ls (st.map (xv (xad old n0)))) (rest.map (xv (xad old n0))) (xQc D tA old n0 out (as.map (xv (xad old n0))).toArray) (xXc D tA old n0 out) (fun q => n0 ≤ q) := by
  have hcw : xcod μ' = true ∨ xcow μ' = true := hcd.imp id (fun q => q.1)
  obtain ⟨m1, m2, m3, m4, m5, m6⟩ := xmet_ok hcw
  have hts := hfix.2.2.2.2
  have hwc := xcal_ok hf
  have hPc : ∀ U : State, U.heap = H → s.WarmedH U.vm → xPc D tA old n0 sc h U := fun U hU hW => xPc_at hnw hK hX hZ hn0 hz hP hS U hU hW
  have hroom : 2 * (F0 m pc ls (st.map (xv (xad old n0)))).monitorRoom + ((rest.map (xv (xad old n0))).map fun v => v.category).sum ≤ 8 := lv_room (by rw [xcat_m]; exact hcat)
  have hlen : ((st.take (xmn μ')).reverse.map (xv (xad old n0))).length = xmn μ' := by rw [List.length_map, List.length_reverse, List.length_take]; omega
  have hR : xmf μ' + 1 ≤ R.frames ∧ 8 + (xml μ' + 11) + xmlo μ' ≤ R.locals := ⟨Nat.le_trans hfr hRf, Nat.le_trans hlo hRl⟩
  have hplain : out.1 = none → Met l (xmy μ') (xws μ') ({ frames := xmf μ', cells := out.2.2.1.length - h.length, slots := out.2.2.2 - ks, locals := xmlo μ' } : Room) (va_Pc (as.map (xv (xad old n0))) (xPc D tA old n0 sc h)) (xQc D tA old n0 out) (out.2.2.1.length - h.length) (out.2.2.2 - ks) (fun q => n0 ≤ q) := fun ho => by
    obtain ⟨o1, o2, o3, o4⟩ := out
    cases ho
    exact xMet_plain hM
  rcases hk with ⟨rfl, rfl, hrec⟩ | ⟨hk, rfl⟩ | ⟨hk, rfl, hmr, hin, ho⟩
  · have hcd : xcod μ' = true := by
      rcases hcd with q | ⟨-, q, -⟩
      · exact q
      · cases q
    obtain ⟨b, rfl, hdr⟩ := hsp.2 (by omega)
    simp only [xcalC, Bool.and_eq_true] at hwc
    obtain ⟨⟨⟨w1, w2⟩, w3⟩, w4⟩ := hwc
    have hcell : ∃ cellB : Cell, H[xad old n0 b]? = some cellB ∧ cellB.vm.isStatics = false ∧ s.vm.findClass (xmy μ').cls = some cellB.cls := by
      unfold xrecv at hrec
      dsimp only at hrec
      split at hrec
      · rename_i ci fs hg
        rw [Bool.and_eq_true, decide_eq_true_eq] at hrec
        obtain ⟨rfl, hlt⟩ := hrec
        have hlt := Nat.blt_eq.mp hlt
        obtain ⟨⟨C, T, N⟩, hc, cell, q1, q2, q3, -⟩ := xP_obj hP hg (Nat.lt_of_lt_of_le hlt (by decide))
        have hC := xcl_own hc hlt
        obtain ⟨-, hfc, -⟩ := hK.1.1 _ _ hc
        refine ⟨cell, q1, by rw [q3]; rfl, ?_⟩
        rw [q2, ← m5, ← hC]
        exact hfc
      · cases hrec
    exact vx_runV hfix hM (cwV (xmn μ') hts (xGood (fun w hw => by
        rcases List.mem_append.mp hw with h9 | h9
        · rcases List.mem_cons.mp h9 with rfl | h9
          · exact xig_mem w1
          · rcases List.mem_cons.mp h9 with rfl | h9
            · exact xig_mem w2
            · rcases List.mem_cons.mp h9 with rfl | h9
              · exact xig_mem w3
              · rw [List.mem_singleton.mp h9]
                exact xig_mem w4
        · exact xws_in hcw w h9)) (xws_c hcd) rfl rfl ⟨rfl, m2, m3, m4⟩ hR) ⟨xPc_blind, hcell, fun U hU hW => ⟨rfl, hPc U hU hW⟩⟩ rfl hlen hl.1 (xstk hdr) hroom hdg ⟨hc1, hc2⟩
  · obtain ⟨rfl, hdr⟩ := hsp.1 (by omega)
    rcases hk with rfl | ⟨rfl, ho⟩
    · simp only [xcalC, Bool.and_eq_true] at hwc
      obtain ⟨⟨w1, w2⟩, w3⟩ := hwc
      have hGS : GoodIn xgw (va_wsS (xown (xmo μ)) x (xmy μ') (xws μ')) := xGood (fun w hw => by
        rcases List.mem_append.mp hw with h9 | h9
        · rcases List.mem_cons.mp h9 with rfl | h9
          · exact xig_mem w1
          · rcases List.mem_cons.mp h9 with rfl | h9
            · exact xig_mem w2
            · rw [List.mem_singleton.mp h9]
              exact xig_mem w3
        · exact xws_in hcw w h9)
      rcases hcd with hcd | ⟨hcd, -, ho⟩
      · exact vx_runS hfix hM (va_cwS (xmn μ') hts hGS (xws_c hcd) rfl rfl ⟨m2, m3, m4⟩ hR) ⟨xPc_blind, fun U hU hW => ⟨rfl, hPc U hU hW⟩⟩ rfl hlen hl.1 (xstk hdr) hroom hdg ⟨hc1, hc2⟩
      · exact x_ofva (vx_runSW hfix (hplain ho) (vx_cwSW (xmn μ') hts hGS (xws_w hcd) rfl rfl ⟨m2, m3, m4⟩ hR) ⟨xPc_blind, fun U hU hW => ⟨rfl, hPc U hU hW⟩⟩ rfl hlen hl.1 (xstk hdr) hroom hdg ⟨hc1, hc2⟩)
    · have hcd : xcod μ' = true := by
        rcases hcd with q | ⟨-, q, -⟩
        · exact q
        · cases q
      simp only [xcalC, Bool.and_eq_true] at hwc
      obtain ⟨⟨w1, w2⟩, w3⟩ := hwc
      exact x_ofva (va_runSN hfix (hplain ho) ⟨va_cnB (xmn μ') hts (xGood (xws_in hcw)) (xws_c hcd) rfl rfl (xnw_of (xinw_mem w1) (hnw _ (xinw_mem w1))) (hts _ (xig_mem w3)) ⟨m2, m3, m4⟩ hR, hts _ (xig_mem w2), trivial⟩ ⟨xPc_blind, fun U hU hW => ⟨rfl, hPc U hU hW⟩⟩ rfl hlen hl.1 (xstk hdr) hroom hdg ⟨hc1, hc2⟩)
  · have hcd : xcod μ' = true := by
      rcases hcd with q | ⟨-, q, -⟩
      · exact q
      · omega
    obtain ⟨b, rfl, hdr⟩ := hsp.2 (by omega)
    have hw0 : xws μ' = Jvm.Cond.code (xmy μ') (xmb μ') (xml μ') none :: xgw := by rw [xws_c hcd, hmr]
    rcases hk with rfl | rfl
    · simp only [xcalC, Bool.and_eq_true] at hwc
      obtain ⟨⟨w1, w2⟩, w3⟩ := hwc
      exact x_ofva (va_runI hfix (hplain ho) (cwI (xmn μ') hts (xGood (xws_in hcw)) hw0 rfl rfl (hts _ (xig_mem w3)) (hts _ (xig_mem w1)) (hts _ (xig_mem w2)) (m6 hin) ⟨m2, m3, m4⟩ hR) ⟨xPc_blind, fun U hU hW => ⟨rfl, hPc U hU hW⟩⟩ rfl hlen hl.1 (xstk hdr) hroom hdg ⟨hc1, hc2⟩)
    · simp only [xcalC, Bool.and_eq_true] at hwc
      obtain ⟨⟨w1, w2⟩, w3⟩ := hwc
      exact x_ofva (va_runIN hfix (hplain ho) ⟨va_cnB (xmn μ') hts (xGood (xws_in hcw)) hw0 rfl rfl (xnw_of (xinw_mem w1) (hnw _ (xinw_mem w1))) (hts _ (xig_mem w3)) ⟨m2, m3, m4⟩ hR, m6 hin, hts _ (xig_mem w2)⟩ ⟨xPc_blind, fun U hU hW => ⟨rfl, hPc U hU hW⟩⟩ rfl hlen hl.1 (xstk hdr) hroom hdg ⟨hc1, hc2⟩)
/-- List.size of an ArrayList -/
theorem x_itf {D : va_G} {tA : Nat → ClassId} {old : Nat → Nat} {n0 μ μ' x cnt pc b : Nat} {sc : Option (List Int32)} {rest : List Value} {h h' : xH} {ks ks' : Nat} {rv : Option Value} {ls : Array Slot} {lv : xL} {r' : Nat × Nat × Nat × Nat}
    (hM : xMet l D tA old n0 sc μ' [.ref b] h ks (none, rv, h', ks')) (hcd : xcod μ' = true) (hfix : CallFix p m c (xmb μ) (xml μ) s args xgw (xown (xmo μ)))
    (hnw : ∀ w ∈ xnw, w.before args s = true) (hK : xK D tA s) (hX : xX sc old n0 s) (hZ : xZ old n0 s) (hn0 : n0 ≤ s.heap.size) (hRf : xmf μ ≤ R.frames) (hRl : xmlo μ ≤ R.locals)
    (hz : H.size = n0 + h.length) (hP : xP D tA (xad old n0) h H) (hS : va_S (fun q => n0 ≤ q) s.heap H locs) (hl : lv_has ls (xml μ) (xm (xad old n0) lv))
    (hf : xfnd (xitfT (xmo μ)) x = some (μ', r')) (hcat : (rest.map fun v => v.category).sum ≤ 8) (hfr : xmf μ' + 1 ≤ xmf μ) (hlo : 8 + (xml μ' + 11) + xmlo μ' ≤ xmlo μ) (hrec : xrecv μ' [.ref b] h = true)
    (hdg : decode (xmb μ) pc = .ok (.invokeinterface x cnt, 5)) (hc1 : cells + (h'.length - h.length) ≤ R.cells) (hc2 : slots + (ks' - ks) ≤ R.slots)
    (kk : ∀ (H1 : Heap) (locs1 : List Loc), H1.size = n0 + h'.length → xP D tA (xad old n0) h' H1 → va_S (fun q => n0 ≤ q) s.heap H1 locs1 → W p l e R s m args below meth c H1 locs1 (cells + (h'.length - h.length)) (slots + (ks' - ks)) Q (F0 m (pc + 5) ls ((rv.toList ++ rest).map (xv (xad old n0))))) :
    W p l e R s m args below meth c H locs cells slots Q (F0 m pc ls (((.ref b : Value) :: rest).map (xv (xad old n0)))) := by
  obtain ⟨m1, m2, m3, m4, m5, m6⟩ := xmet_ok (Or.inl hcd)
  have hts := hfix.2.2.2.2
  have hw := xitf_ok hf
  unfold xitfC at hw
  simp only [Bool.and_eq_true, decide_eq_true_eq] at hw
  obtain ⟨⟨⟨⟨⟨hy, hal⟩, w1⟩, w2⟩, w3⟩, w4⟩ := hw
  have hFw := (hZ.2.2.2.2 hal).2
  have hcell : ∃ (cC : ClassId), ClassAt s "java/util/ArrayList" cC ∧ ∃ cellB : Cell, H[xad old n0 b]? = some cellB ∧ cellB.vm.isStatics = false ∧ s.vm.findClass "java/util/ArrayList" = some cellB.cls := by
    unfold xrecv at hrec
    dsimp only at hrec
    split at hrec
    · rename_i ci fs hg
      rw [Bool.and_eq_true, decide_eq_true_eq] at hrec
      obtain ⟨rfl, hlt⟩ := hrec
      have hlt := Nat.blt_eq.mp hlt
      obtain ⟨⟨C, T, N⟩, hc, cell, q1, q2, q3, -⟩ := xP_obj hP hg (Nat.lt_of_lt_of_le hlt (by decide))
      have hC := xcl_own hc hlt
      have hk := hK.1.1 _ _ hc
      have e1 : C = "java/util/ArrayList" := by rw [hC, m5, hy]
      subst e1
      exact ⟨_, hk.2, cell, q1, by rw [q3]; rfl, by rw [q2]; exact hk.2.1⟩
    · cases hrec
  obtain ⟨cC, hat, hcell⟩ := hcell
  have hrun := va_runF (x := xLs) hat hfix (xMet_plain hM) (va_cwF (x := xLs) 0 hts (xGood (fun w hw => by
        rcases List.mem_append.mp hw with h9 | h9
        · rcases List.mem_cons.mp h9 with rfl | h9
          · exact xig_mem w1
          · rcases List.mem_cons.mp h9 with rfl | h9
            · exact xig_mem w2
            · rcases List.mem_cons.mp h9 with rfl | h9
              · exact xig_mem w3
              · rw [List.mem_singleton.mp h9]
                exact xig_mem w4
        · exact xws_in (Or.inl hcd) w h9)) (xws_c hcd) rfl rfl (by rw [hy]; exact hFw) ⟨by decide, by decide, by decide +kernel⟩ ⟨Nat.le_trans hfr hRf, Nat.le_trans hlo hRl⟩)
    (b := xad old n0 b) (As := []) (rest := rest.map (xv (xad old n0))) (g := F0 m pc ls (((.ref b : Value) :: rest).map (xv (xad old n0)))) (locs := locs) (below := below) (meth := meth) (e := e) (cells := cells) (slots := slots) ⟨xPc_blind, hcell, fun U hU hW => ⟨rfl, xPc_at hnw hK hX hZ hn0 hz hP hS U hU hW⟩⟩ rfl rfl hl.1 rfl (lv_room (by rw [xcat_m]; exact hcat)) hdg ⟨hc1, hc2⟩
  intro T hT X
  obtain ⟨v, st₀, t, T', L, h0, X', hL, e1, e2, ⟨⟨-, hv, hsz, hp⟩, hF⟩, st⟩ := hrun T hT X
  obtain ⟨k1, k2, k3⟩ := vx_keep h0 e1 hS (fun _ _ h => h) (fun _ h => h) hL hF
  obtain ⟨t2, a1, b1⟩ := kk T'.heap (locs ++ L) (by rw [e1]; exact hsz) (by rw [e1]; exact hp) k3 T' rfl X'
  refine ⟨t2, st t2 ?_, b1⟩
  have hv : v = rv.map (xv (xad old n0)) := Outcome.returned.inj hv
  subst hv
  have e9 : (rv.toList ++ rest).map (xv (xad old n0)) = (rv.map (xv (xad old n0))).toList ++ rest.map (xv (xad old n0)) := by cases rv <;> rfl
  rw [e9] at a1
  exact a1
end
end XLB
end
section
/-! arrays of arrays, two and three deep -/
section XMA
theorem x_outE (c : ClassId) (N h0 : Nat) : ∀ i, Jvm.Free.Multi.outerC c N h0 i = { cls := c, slots := (Jvm.Free.Multi.outerC c N h0 i).slots, vm := .none }
  | 0 => rfl
  | i + 1 => by
    show (Jvm.Free.Multi.outerC c N h0 i).setSlot i _ = _
    rw [x_outE c N h0 i]
    rfl
theorem x_out (c : ClassId) (N h0 : Nat) : Jvm.Free.Multi.outerC c N h0 N = { cls := c, slots := ((List.range N).map (fun j => Value.ref (h0 + 1 + j))).toArray, vm := .none } := by
  rw [x_outE]
  congr 1
  refine Array.ext_getElem? fun j => ?_
  by_cases hj : j < N
  · rw [Jvm.Free.Multi.outerC_slot c N h0 N j hj, if_pos hj]
    simp [hj]
  · rw [Array.getElem?_eq_none (by rw [(Jvm.Free.Multi.outerC_facts c N h0 N).2.2]; omega)]
    simp [hj]
def x_o3 (c : ClassId) (N h0 K : Nat) : Nat → Cell
  | 0 => { cls := c, slots := Array.replicate N .null, vm := .none }
  | i + 1 => (x_o3 c N h0 K i).setSlot i (.ref (h0 + 1 + i * (1 + K)))
def x_f3 (s : State) (c comp cc : ClassId) (N K M : Nat) (dv : Value) : Nat → State
  | 0 => s.pushCell (x_o3 c N s.heap.size K 0)
  | i + 1 => (Jvm.Free.Multi.fill (x_f3 s c comp cc N K M dv i) comp cc K M dv K).setCell s.heap.size (x_o3 c N s.heap.size K (i + 1))
theorem x_o3_facts (c : ClassId) (N h0 K : Nat) : ∀ i, (x_o3 c N h0 K i).cls = c ∧ (x_o3 c N h0 K i).vm = .none ∧ (x_o3 c N h0 K i).slots.size = N
  | 0 => ⟨rfl, rfl, by simp [x_o3]⟩
  | i + 1 => by
    obtain ⟨a, b, d⟩ := x_o3_facts c N h0 K i
    exact ⟨by simp [x_o3, Cell.setSlot, a], by simp [x_o3, Cell.setSlot, b], by simp [x_o3, Cell.setSlot, d]⟩
theorem x_f3_facts (s : State) (c comp cc : ClassId) (N K M : Nat) (dv : Value) : ∀ i, (x_f3 s c comp cc N K M dv i).heap.size = s.heap.size + 1 + i * (1 + K) ∧ (x_f3 s c comp cc N K M dv i).heap[s.heap.size]? = some (x_o3 c N s.heap.size K i) ∧
    (x_f3 s c comp cc N K M dv i).vm = s.vm ∧ (x_f3 s c comp cc N K M dv i).slotsUsed = s.slotsUsed + N + i * (K + K * M)
  | 0 => ⟨by simp [x_f3], by simp [x_f3], rfl, by simp [x_f3, x_o3]⟩
  | i + 1 => by
    obtain ⟨a, b, d, u⟩ := x_f3_facts s c comp cc N K M dv i
    obtain ⟨f1, f2, f3, f4⟩ := Jvm.Free.Multi.fill_facts (x_f3 s c comp cc N K M dv i) comp cc K M dv K
    have hlt : s.heap.size < (x_f3 s c comp cc N K M dv i).heap.size := by omega
    have hb' : (Jvm.Free.Multi.fill (x_f3 s c comp cc N K M dv i) comp cc K M dv K).heap[s.heap.size]? = some (x_o3 c N s.heap.size K i) := by rw [Jvm.Free.Multi.fill_old _ _ _ _ _ _ hlt]; exact b
    have e1 : (i + 1) * (1 + K) = i * (1 + K) + (1 + K) := Nat.succ_mul _ _
    have e2 : (i + 1) * (K + K * M) = i * (K + K * M) + (K + K * M) := Nat.succ_mul _ _
    refine ⟨?_, State.heap_setCell_self hb', by simp [x_f3, f3, d], ?_⟩
    · have e3 : (x_f3 s c comp cc N K M dv (i + 1)).heap.size = (Jvm.Free.Multi.fill (x_f3 s c comp cc N K M dv i) comp cc K M dv K).heap.size := by simp [x_f3, State.setCell]
      rw [e3, f1, a, e1]
      omega
    · have e4 : (x_f3 s c comp cc N K M dv (i + 1)).slotsUsed = (Jvm.Free.Multi.fill (x_f3 s c comp cc N K M dv i) comp cc K M dv K).slotsUsed := by simp [x_f3]
      rw [e4, f4, u, e2]
      omega
theorem x_f3_setTop (s : State) (f : JFrame) (c comp cc : ClassId) (N K M : Nat) (dv : Value) : ∀ i, x_f3 (s.setTop f) c comp cc N K M dv i = (x_f3 s c comp cc N K M dv i).setTop f
  | 0 => rfl
  | i + 1 => by simp only [x_f3, x_f3_setTop s f c comp cc N K M dv i, Jvm.Free.Multi.fill_setTop, State.heap_setTop, State.setCell_setTop]
theorem x_f3_old (s : State) (c comp cc : ClassId) (N K M : Nat) (dv : Value) {a : Addr} (ha : a < s.heap.size) : ∀ i, (x_f3 s c comp cc N K M dv i).heap[a]? = s.heap[a]?
  | 0 => State.heap_pushCell_of_lt _ _ ha
  | i + 1 => by
    have f1 := (x_f3_facts s c comp cc N K M dv i).1
    show ((Jvm.Free.Multi.fill (x_f3 s c comp cc N K M dv i) comp cc K M dv K).setCell s.heap.size _).heap[a]? = _
    rw [State.heap_setCell_other (Nat.ne_of_gt ha), Jvm.Free.Multi.fill_old _ _ _ _ _ _ (Nat.lt_of_lt_of_le ha (by rw [f1, Nat.add_assoc]; exact Nat.le_add_right _ _))]
    exact x_f3_old s c comp cc N K M dv ha i
/-- the middle one number j, and its rows -/
theorem x_f3_mid (s : State) (c comp cc : ClassId) (N K M : Nat) (dv : Value) : ∀ i j, j < i → (x_f3 s c comp cc N K M dv i).heap[s.heap.size + 1 + j * (1 + K)]? = some (Jvm.Free.Multi.outerC comp K (s.heap.size + 1 + j * (1 + K)) K) ∧
    ∀ q, q < K → (x_f3 s c comp cc N K M dv i).heap[s.heap.size + 1 + j * (1 + K) + 1 + q]? = some (Jvm.Free.Multi.innerC cc M dv)
  | 0, _, h => absurd h (Nat.not_lt_zero _)
  | i + 1, j, h => by
    have f1 := (x_f3_facts s c comp cc N K M dv i).1
    have hne : ∀ z : Nat, s.heap.size ≠ s.heap.size + 1 + z := fun z h => by
      have h : (s.heap.size : Nat) = s.heap.size + 1 + z := h
      omega
    have hne2 : ∀ z q : Nat, s.heap.size ≠ s.heap.size + 1 + z + 1 + q := fun z q h => by
      have h : (s.heap.size : Nat) = s.heap.size + 1 + z + 1 + q := h
      omega
    rcases Nat.lt_or_ge j i with hj | hj
    · obtain ⟨h1, h2⟩ := x_f3_mid s c comp cc N K M dv i j hj
      have hle : (j + 1) * (1 + K) ≤ i * (1 + K) := Nat.mul_le_mul_right _ hj
      rw [Nat.succ_mul] at hle
      have b1 : s.heap.size + 1 + j * (1 + K) < (x_f3 s c comp cc N K M dv i).heap.size := by
        rw [f1]
        generalize j * (1 + K) = A at hle ⊢
        generalize i * (1 + K) = B at hle ⊢
        omega
      have b2 : ∀ q, q < K → s.heap.size + 1 + j * (1 + K) + 1 + q < (x_f3 s c comp cc N K M dv i).heap.size := fun q hq => by
        rw [f1]
        generalize j * (1 + K) = A at hle ⊢
        generalize i * (1 + K) = B at hle ⊢
        omega
      refine ⟨?_, fun q hq => ?_⟩
      · show ((Jvm.Free.Multi.fill (x_f3 s c comp cc N K M dv i) comp cc K M dv K).setCell s.heap.size _).heap[_]? = _
        rw [State.heap_setCell_other (hne _), Jvm.Free.Multi.fill_old _ _ _ _ _ _ b1]
        exact h1
      · show ((Jvm.Free.Multi.fill (x_f3 s c comp cc N K M dv i) comp cc K M dv K).setCell s.heap.size _).heap[_]? = _
        rw [State.heap_setCell_other (hne2 _ _), Jvm.Free.Multi.fill_old _ _ _ _ _ _ (b2 q hq)]
        exact h2 q hq
    · have e : j = i := by omega
      subst e
      obtain ⟨-, g2, -, -⟩ := Jvm.Free.Multi.fill_facts (x_f3 s c comp cc N K M dv j) comp cc K M dv K
      refine ⟨?_, fun q hq => ?_⟩
      · show ((Jvm.Free.Multi.fill (x_f3 s c comp cc N K M dv j) comp cc K M dv K).setCell s.heap.size _).heap[_]? = _
        rw [State.heap_setCell_other (hne _), ← f1]
        exact g2
      · show ((Jvm.Free.Multi.fill (x_f3 s c comp cc N K M dv j) comp cc K M dv K).setCell s.heap.size _).heap[_]? = _
        rw [State.heap_setCell_other (hne2 _ _), ← f1]
        exact Jvm.Free.Multi.fill_inner _ _ _ _ _ _ _ _ hq
theorem x_o3_slot (c : ClassId) (N h0 K : Nat) : ∀ i j, j < N → (x_o3 c N h0 K i).slots[j]? = some (if j < i then .ref (h0 + 1 + j * (1 + K)) else .null)
  | 0, j, h => by simp [x_o3, h]
  | i + 1, j, h => by
    have ih := x_o3_slot c N h0 K i j h
    have hs := (x_o3_facts c N h0 K i).2.2
    show ((x_o3 c N h0 K i).setSlot i (.ref (h0 + 1 + i * (1 + K)))).slots[j]? = _
    simp only [Cell.setSlot, Array.getElem?_setIfInBounds]
    by_cases e : i = j
    · subst e; simp [hs, h]
    · rw [if_neg e, ih]
      by_cases hj : j < i
      · rw [if_pos hj, if_pos (by omega)]
      · rw [if_neg hj, if_neg (by omega)]
theorem x_o3E (c : ClassId) (N h0 K : Nat) : ∀ i, x_o3 c N h0 K i = { cls := c, slots := (x_o3 c N h0 K i).slots, vm := .none }
  | 0 => rfl
  | i + 1 => by
    show (x_o3 c N h0 K i).setSlot i _ = _
    rw [x_o3E c N h0 K i]
    rfl
theorem x_o3o (c : ClassId) (N h0 K : Nat) : x_o3 c N h0 K N = { cls := c, slots := ((List.range N).map (fun j => Value.ref (h0 + 1 + j * (1 + K)))).toArray, vm := .none } := by
  rw [x_o3E]
  congr 1
  refine Array.ext_getElem? fun j => ?_
  by_cases hj : j < N
  · rw [x_o3_slot c N h0 K N j hj, if_pos hj]
    simp [hj]
  · rw [Array.getElem?_eq_none (by rw [(x_o3_facts c N h0 K N).2.2]; omega)]
    simp [hj]
section
variable {E : CtlPost} {e : Env} {d : Bool} {acts : List Action} {s : State}
theorem x_make3 {c comp cc cd : ClassId} {k kc kd : Class} {t0 t1 type : FieldType} {n m r : Int32} (hk : s.vm.classes[c]? = some k) (hkind : k.kind = .array comp t0) (href : t0.isReference = true)
    (hkc : s.vm.classes[comp]? = some kc) (hkindc : kc.kind = .array cc t1) (href1 : t1.isReference = true) (hkd : s.vm.classes[cc]? = some kd) (hkindd : kd.kind = .array cd type) (hn : ¬ n < 0) (hm : ¬ m < 0) (hr : ¬ r < 0)
    (hl1 : ¬ n.toNatClampNeg > e.platform.arrayLengthLimit) (hh1 : ¬ n.toNatClampNeg * componentBytes t0 > e.platform.maxHeapBytes)
    (hl2 : ¬ m.toNatClampNeg > e.platform.arrayLengthLimit) (hh2 : ¬ m.toNatClampNeg * componentBytes t1 > e.platform.maxHeapBytes)
    (hl3 : ¬ r.toNatClampNeg > e.platform.arrayLengthLimit) (hh3 : ¬ r.toNatClampNeg * componentBytes type > e.platform.maxHeapBytes)
    (hdf : fits type (defaultValue type) = true) (hdd : (defaultValue type).isDefault = true)
    (hc : s.heap.size + 1 + n.toNatClampNeg * (1 + m.toNatClampNeg) ≤ e.platform.maxCells) (hs : s.slotsUsed + n.toNatClampNeg + n.toNatClampNeg * (m.toNatClampNeg + m.toNatClampNeg * r.toNatClampNeg) ≤ e.platform.maxSlots)
    {Q : Addr → Pre} (hq : ∀ d' acts', Q s.heap.size d' acts' (x_f3 s c comp cc n.toNatClampNeg m.toNatClampNeg r.toNatClampNeg (defaultValue type) n.toNatClampNeg)) :
    wp (multianewarray.make c [n, m, r]) Q E e d acts s := by
  have hfind : ([m, r].find? (· < 0)) = none := by simp [hm, hr]
  rw [multianewarray.make]
  simp only [wp_bind', W.ite, hn, if_false, wp_pure', W.theClass, hk, hkind, Option.some.injEq, exists_eq_left']
  refine Jvm.Free.Multi.wp_newArray hk hkind hl1 hh1 (Jvm.Free.Multi.refFits href _ (Or.inl rfl)) rfl (by have := Nat.zero_le (n.toNatClampNeg * (1 + m.toNatClampNeg)); omega) (by have := Nat.zero_le (n.toNatClampNeg * (m.toNatClampNeg + m.toNatClampNeg * r.toNatClampNeg)); omega) ?_
  simp only [hfind]
  rw [ite_self, wp_bind', Std.Legacy.Range.forIn_eq_forIn_range']
  have hsz : ([:n.toNatClampNeg] : Std.Legacy.Range).size = n.toNatClampNeg := by simp [Std.Legacy.Range.size]
  rw [hsz]
  show wp (forIn (List.range' 0 n.toNatClampNeg 1) PUnit.unit _) _ E e d acts _
  refine wp_forIn_inv (fun rest s' => ∃ i, i ≤ n.toNatClampNeg ∧ rest = List.range' i (n.toNatClampNeg - i) ∧ s' = x_f3 s c comp cc n.toNatClampNeg m.toNatClampNeg r.toNatClampNeg (defaultValue type) i) _ _ ⟨0, Nat.zero_le _, rfl, rfl⟩ ?_ ?_
  · rintro x rest s' d' acts' Q' ⟨i, hi, hl, rfl⟩ hnext
    have hlt : i < n.toNatClampNeg := by
      rcases Nat.lt_or_ge i n.toNatClampNeg with h | h
      · exact h
      · rw [show n.toNatClampNeg - i = 0 from by omega] at hl; simp at hl
    obtain ⟨rfl, hrest⟩ : x = i ∧ rest = List.range' (i + 1) (n.toNatClampNeg - (i + 1)) := by
      rw [show n.toNatClampNeg - i = (n.toNatClampNeg - (i + 1)) + 1 from by omega, List.range'_succ] at hl
      exact ⟨(List.cons.inj hl).1, (List.cons.inj hl).2⟩
    obtain ⟨f1, f2, f3, f4⟩ := x_f3_facts s c comp cc n.toNatClampNeg m.toNatClampNeg r.toNatClampNeg (defaultValue type) x
    obtain ⟨o1, o2, o3⟩ := x_o3_facts c n.toNatClampNeg s.heap.size m.toNatClampNeg x
    have hmul : x * (1 + m.toNatClampNeg) + (1 + m.toNatClampNeg) ≤ n.toNatClampNeg * (1 + m.toNatClampNeg) := by
      have := Nat.mul_le_mul_right (1 + m.toNatClampNeg) (show x + 1 ≤ n.toNatClampNeg from hlt)
      rw [Nat.succ_mul] at this; exact this
    have hmul2 : x * (m.toNatClampNeg + m.toNatClampNeg * r.toNatClampNeg) + (m.toNatClampNeg + m.toNatClampNeg * r.toNatClampNeg) ≤ n.toNatClampNeg * (m.toNatClampNeg + m.toNatClampNeg * r.toNatClampNeg) := by
      have := Nat.mul_le_mul_right (m.toNatClampNeg + m.toNatClampNeg * r.toNatClampNeg) (show x + 1 ≤ n.toNatClampNeg from hlt)
      rw [Nat.succ_mul] at this; exact this
    simp only [wp_bind']
    refine Jvm.Free.Multi.wp_make2 (k := kc) (kc := kd) (comp := cc) (cc := cd) (t0 := t1) (type := type) (by rw [f3]; exact hkc) hkindc href1 (by rw [f3]; exact hkd) hkindd hm hr hl2 hh2 hl3 hh3 hdf hdd (by rw [f1]; omega) (by rw [f4]; omega) (fun d9 acts9 => ?_)
    have hlt0 : s.heap.size < (x_f3 s c comp cc n.toNatClampNeg m.toNatClampNeg r.toNatClampNeg (defaultValue type) x).heap.size := by rw [f1]; omega
    have g3 := (Jvm.Free.Multi.fill_facts (x_f3 s c comp cc n.toNatClampNeg m.toNatClampNeg r.toNatClampNeg (defaultValue type) x) comp cc m.toNatClampNeg r.toNatClampNeg (defaultValue type) m.toNatClampNeg).2.2.1
    simp only [wp_bind', W.writeLoc, wp_pure']
    refine ⟨x_o3 c n.toNatClampNeg s.heap.size m.toNatClampNeg x, by rw [Jvm.Free.Multi.fill_old _ _ _ _ _ _ hlt0]; exact f2, by rw [o2]; simp, by rw [o3]; exact hlt, ?_, hnext _ _ _ ⟨x + 1, hlt, hrest, ?_⟩⟩
    · rw [o1, o2]
      simp [State.fitsSlot, State.slotType?, g3, f3, hk, hkind, Jvm.Free.Multi.refFits href _ (Or.inr ⟨_, rfl⟩)]
    · rw [f1]; rfl
  · rintro s' d' acts' ⟨i, hi, hl, rfl⟩
    have hiN : i = n.toNatClampNeg := by
      rcases Nat.lt_or_ge i n.toNatClampNeg with h | h
      · rw [show n.toNatClampNeg - i = (n.toNatClampNeg - (i + 1)) + 1 from by omega, List.range'_succ] at hl; cases hl
      · omega
    subst hiN
    simp only [wp_pure']
    exact hq _ _
end
end XMA
end
section
section XMB
variable {p : Program} {l : Launch} {e : Env} {R : Room} {s : State} {m : MethodId} {args : Array Value} {below : List Frame} {meth : Method} {c : Code} {T : State} {locs : List Loc} {cells slots : Nat} {H : Heap} {Q : State → Prop}
theorem x_filled3 (X : Stand p l e R s m args below meth c T locs cells slots) (cA comp cc : ClassId) (N K M : Nat) (dv : Value) :
    ∀ i, ∃ L : List Loc, (∀ q ∈ L, T.heap.size ≤ q.base) ∧ Stand p l e R s m args below meth c (x_f3 T cA comp cc N K M dv i) (locs ++ L) (cells + 1 + i * (1 + K)) (slots + N + i * (K + K * M))
  | 0 => by
    have h := X.pushed (x_o3 cA N T.heap.size K 0)
    rw [(x_o3_facts cA N T.heap.size K 0).2.2] at h
    refine ⟨[], fun q hq => (nomatch hq), ?_⟩
    simpa [x_f3] using h
  | i + 1 => by
    obtain ⟨L, hL, Xi⟩ := x_filled3 X cA comp cc N K M dv i
    obtain ⟨f1, f2, f3, f4⟩ := x_f3_facts T cA comp cc N K M dv i
    have hlt0 : T.heap.size < (x_f3 T cA comp cc N K M dv i).heap.size := by rw [f1, Nat.add_assoc]; exact Nat.lt_of_lt_of_le (Nat.lt_succ_self _) (by rw [← Nat.add_assoc]; exact Nat.le_add_right _ _)
    have hcell : (Jvm.Free.Multi.fill (x_f3 T cA comp cc N K M dv i) comp cc K M dv K).heap[T.heap.size]? = some (x_o3 cA N T.heap.size K i) := by rw [Jvm.Free.Multi.fill_old _ _ _ _ _ _ hlt0]; exact f2
    have h := (Xi.filled comp cc K M dv K).stored hcell i (.ref (T.heap.size + 1 + i * (1 + K)))
    refine ⟨L ++ (List.range K).map (fun j => ⟨(x_f3 T cA comp cc N K M dv i).heap.size, j⟩) ++ [⟨T.heap.size, i⟩], fun q hq => ?_, ?_⟩
    · rcases List.mem_append.mp hq with hq | hq
      · rcases List.mem_append.mp hq with hq | hq
        · exact hL q hq
        · obtain ⟨j, -, rfl⟩ := List.mem_map.mp hq
          exact Nat.le_of_lt hlt0
      · rw [List.mem_singleton.mp hq]
        exact Nat.le_refl _
    · have e3 : slots + N + (i + 1) * (K + K * M) = slots + N + i * (K + K * M) + K + K * M := by rw [Nat.succ_mul]; omega
      have e4 : cells + 1 + (i + 1) * (1 + K) = cells + 1 + i * (1 + K) + 1 + K := by rw [Nat.succ_mul]; omega
      rw [e3, e4]
      simpa only [x_f3, x_o3, List.append_assoc] using h
/-- new T[n][k], at W -/
theorem x_mna2 {cc : ByteArray} {pc : Nat} {ls : Array Slot} {rest : List Value} (hexec : p.tables.exec = Jvm.exec) (hb : c.code = cc) {own : String} {index : Nat} {ty : FieldType} (hown : s.vm.findClass own = some m.cls) (hclink : (Jvm.Cond.classLink own index ("[" ++ (FieldType.array ty).toString)).before args s = true)
    (hover : (Jvm.Cond.arrayOver (.array ty)).before args s = true) (harr : (Jvm.Cond.arrayClass ty).before args s = true) {n k : Int32} (hn : ¬ n < 0) (hk : ¬ k < 0)
    (hb1 : n.toNatClampNeg * 4 ≤ 536870912) (hb2 : k.toNatClampNeg * componentBytes ty ≤ 536870912) (hb3 : k.toNatClampNeg ≤ 536870912) (hdf : fits ty (defaultValue ty) = true) (hdd : (defaultValue ty).isDefault = true)
    (hcells : cells + (1 + n.toNatClampNeg) ≤ R.cells) (hslots : slots + (n.toNatClampNeg + n.toNatClampNeg * k.toNatClampNeg) ≤ R.slots) (hdg : decode cc pc = .ok (.multianewarray index 2, 4))
    (kk : ∀ (H1 : Heap) (cA comp : ClassId), s.vm.findClass ("[" ++ (FieldType.array ty).toString) = some cA → s.vm.findClass (FieldType.array ty).toString = some comp → H1.size = H.size + 1 + n.toNatClampNeg → (∀ q, q < H.size → H1[q]? = H[q]?) →
      H1[H.size]? = some { cls := cA, slots := ((List.range n.toNatClampNeg).map (fun j => Value.ref (H.size + 1 + j))).toArray, vm := .none } → (∀ j, j < n.toNatClampNeg → H1[H.size + 1 + j]? = some { cls := comp, slots := Array.replicate k.toNatClampNeg (defaultValue ty), vm := .none }) →
      W p l e R s m args below meth c H1 locs (cells + 1 + n.toNatClampNeg) (slots + n.toNatClampNeg + n.toNatClampNeg * k.toNatClampNeg) Q (F0 m (pc + 4) ls (.ref H.size :: rest))) : W p l e R s m args below meth c H locs cells slots Q (F0 m pc ls (.int k :: .int n :: rest)) := by
  intro T hT X
  obtain ⟨vm₁, cA, comp, -, fA, fC, -, -, X', step⟩ := X.multianewarray2F hexec hown hclink hover harr (g := F0 m pc ls (.int k :: .int n :: rest)) rfl (by rw [hb]; exact hdg) rfl hn hk hb1 hb2 hb3 hdf hdd hcells hslots
  have hTh : (T.setVm vm₁).heap = H := hT
  obtain ⟨f1, f2, -, -⟩ := Jvm.Free.Multi.fill_facts (T.setVm vm₁) cA comp n.toNatClampNeg k.toNatClampNeg (defaultValue ty) n.toNatClampNeg
  rw [hTh] at f1 f2
  rw [x_out] at f2
  obtain ⟨t, a1, b1⟩ := kk _ cA comp fA fC f1 (fun q hq => by
    have := Jvm.Free.Multi.fill_old (T.setVm vm₁) cA comp n.toNatClampNeg k.toNatClampNeg (defaultValue ty) (a := q) (by rw [hTh]; exact hq) n.toNatClampNeg
    rw [hTh] at this
    exact this) f2 (fun j hj => by
    have := Jvm.Free.Multi.fill_inner (T.setVm vm₁) cA comp n.toNatClampNeg k.toNatClampNeg (defaultValue ty) n.toNatClampNeg j hj
    rw [hTh] at this
    exact this) _ rfl X'
  refine ⟨t, step t ?_, b1⟩
  have e : T.heap.size = H.size := by rw [hT]
  rw [e]
  exact a1
/-- new T[n][k][r], at W -/
theorem x_mna3 {cc : ByteArray} {pc : Nat} {ls : Array Slot} {rest : List Value} (hexec : p.tables.exec = Jvm.exec) (hb : c.code = cc) {own : String} {index : Nat} {ty : FieldType} (hown : s.vm.findClass own = some m.cls) (hclink : (Jvm.Cond.classLink own index ("[" ++ (FieldType.array (.array ty)).toString)).before args s = true)
    (hover1 : (Jvm.Cond.arrayOver (.array (.array ty))).before args s = true) (hover2 : (Jvm.Cond.arrayOver (.array ty)).before args s = true) (harr : (Jvm.Cond.arrayClass ty).before args s = true) {n k r : Int32} (hn : ¬ n < 0) (hk : ¬ k < 0) (hr : ¬ r < 0)
    (hb1 : n.toNatClampNeg * 4 ≤ 536870912) (hb2 : k.toNatClampNeg * 4 ≤ 536870912) (hb3 : r.toNatClampNeg * componentBytes ty ≤ 536870912) (hb4 : r.toNatClampNeg ≤ 536870912) (hdf : fits ty (defaultValue ty) = true) (hdd : (defaultValue ty).isDefault = true)
    (hcells : cells + (1 + n.toNatClampNeg * (1 + k.toNatClampNeg)) ≤ R.cells) (hslots : slots + (n.toNatClampNeg + n.toNatClampNeg * (k.toNatClampNeg + k.toNatClampNeg * r.toNatClampNeg)) ≤ R.slots) (hdg : decode cc pc = .ok (.multianewarray index 3, 4))
    (kk : ∀ (H1 : Heap) (cA comp cd : ClassId), s.vm.findClass ("[" ++ (FieldType.array (.array ty)).toString) = some cA → s.vm.findClass ("[" ++ (FieldType.array ty).toString) = some comp → s.vm.findClass (FieldType.array ty).toString = some cd → H1.size = H.size + 1 + n.toNatClampNeg * (1 + k.toNatClampNeg) → (∀ q, q < H.size → H1[q]? = H[q]?) →
      H1[H.size]? = some { cls := cA, slots := ((List.range n.toNatClampNeg).map (fun j => Value.ref (H.size + 1 + j * (1 + k.toNatClampNeg)))).toArray, vm := .none } →
      (∀ j, j < n.toNatClampNeg → H1[H.size + 1 + j * (1 + k.toNatClampNeg)]? = some { cls := comp, slots := ((List.range k.toNatClampNeg).map (fun q => Value.ref (H.size + 1 + j * (1 + k.toNatClampNeg) + 1 + q))).toArray, vm := .none } ∧
        ∀ q, q < k.toNatClampNeg → H1[H.size + 1 + j * (1 + k.toNatClampNeg) + 1 + q]? = some { cls := cd, slots := Array.replicate r.toNatClampNeg (defaultValue ty), vm := .none }) →
      W p l e R s m args below meth c H1 locs (cells + 1 + n.toNatClampNeg * (1 + k.toNatClampNeg)) (slots + n.toNatClampNeg + n.toNatClampNeg * (k.toNatClampNeg + k.toNatClampNeg * r.toNatClampNeg)) Q (F0 m (pc + 4) ls (.ref H.size :: rest))) : W p l e R s m args below meth c H locs cells slots Q (F0 m pc ls (.int r :: .int k :: .int n :: rest)) := by
  intro T hT X
  have hpl : e.platform.magicAccessors = ({} : Platform).magicAccessors := by rw [X.admits.platform]
  obtain ⟨comp, cA, kA, hcomp, hkA, hkindA, hnameA⟩ := Cond.arrayOver_specA hover1
  obtain ⟨cd, c2, kB, hcd, hkB, hkindB, hnameB⟩ := Cond.arrayOver_specA hover2
  obtain ⟨cd', kC, ce, hcd', hkC, hkindC⟩ := Cond.arrayClass_spec harr
  have ecd : cd' = cd := Option.some.inj (hcd'.symm.trans hcd)
  subst ecd
  have ecomp : c2 = comp := Option.some.inj (hnameB.symm.trans hcomp)
  subst ecomp
  obtain ⟨c0, hfc0, hcl⟩ := Cond.classLink_spec hown hclink e.platform hpl
  cases hnameA.symm.trans hfc0
  obtain ⟨hg₁, hwarm₁, hready₁⟩ := State.classEntry (e := e) X.warmed hcl
  generalize T.vm.noted m.cls index (.cls cA) = vm₁ at hg₁ hwarm₁ hready₁
  have hal : s.vm.Alike vm₁ := hwarm₁.alike
  obtain ⟨kA₁, hkA₁, heA⟩ := hal.2.2 _ _ hkA
  obtain ⟨kB₁, hkB₁, heB⟩ := hal.2.2 _ _ hkB
  obtain ⟨kC₁, hkC₁, heC⟩ := hal.2.2 _ _ hkC
  have hkindA₁ : kA₁.kind = .array c2 (.array (.array ty)) := by rw [heA]; exact hkindA
  have hkindB₁ : kB₁.kind = .array cd' (.array ty) := by rw [heB]; exact hkindB
  have hkindC₁ : kC₁.kind = .array ce ty := by rw [heC]; exact hkindC
  have X₁ := X.noted hwarm₁
  obtain ⟨hr1, hr2⟩ := X.roomAbove hcells hslots
  obtain ⟨L, hL, XF0⟩ := x_filled3 X₁ cA c2 cd' n.toNatClampNeg k.toNatClampNeg r.toNatClampNeg (defaultValue ty) n.toNatClampNeg
  have XF := XF0.dropFresh (fun x hx => Nat.le_trans X.heapGrown (hL x hx))
  have hTh : (T.setVm vm₁).heap = H := hT
  obtain ⟨f1, f2, -, -⟩ := x_f3_facts (T.setVm vm₁) cA c2 cd' n.toNatClampNeg k.toNatClampNeg r.toNatClampNeg (defaultValue ty) n.toNatClampNeg
  rw [hTh] at f1 f2
  rw [x_o3o] at f2
  obtain ⟨t, a1, b1⟩ := kk _ cA c2 cd' hnameA hnameB hcd f1 (fun q hq => by
    have := x_f3_old (T.setVm vm₁) cA c2 cd' n.toNatClampNeg k.toNatClampNeg r.toNatClampNeg (defaultValue ty) (a := q) (by rw [hTh]; exact hq) n.toNatClampNeg
    rw [hTh] at this
    exact this) f2 (fun j hj => by
    obtain ⟨g1, g2⟩ := x_f3_mid (T.setVm vm₁) cA c2 cd' n.toNatClampNeg k.toNatClampNeg r.toNatClampNeg (defaultValue ty) n.toNatClampNeg j hj
    rw [hTh] at g1 g2
    rw [x_out] at g1
    exact ⟨g1, g2⟩) _ rfl XF
  refine ⟨t, ?_, b1⟩
  have hl1 : ¬ n.toNatClampNeg > e.platform.arrayLengthLimit := by rw [Launch.admits_arrayLengthLimit X.admits]; omega
  have hh1 : ¬ n.toNatClampNeg * componentBytes (.array (.array ty)) > e.platform.maxHeapBytes := by
    rw [Launch.admits_maxHeapBytes X.admits]; show ¬ n.toNatClampNeg * 4 > 536870912; omega
  have hl2 : ¬ k.toNatClampNeg > e.platform.arrayLengthLimit := by rw [Launch.admits_arrayLengthLimit X.admits]; omega
  have hh2 : ¬ k.toNatClampNeg * componentBytes (.array ty) > e.platform.maxHeapBytes := by
    rw [Launch.admits_maxHeapBytes X.admits]; show ¬ k.toNatClampNeg * 4 > 536870912; omega
  have hl3 : ¬ r.toNatClampNeg > e.platform.arrayLengthLimit := by rw [Launch.admits_arrayLengthLimit X.admits]; omega
  have hh3 : ¬ r.toNatClampNeg * componentBytes ty > e.platform.maxHeapBytes := by rw [Launch.admits_maxHeapBytes X.admits]; omega
  have hdg' : decode c.code pc = .ok (.multianewarray index 3, 4) := by rw [hb]; exact hdg
  jvm_step X.here [hexec, hdg']
  simp only [multianewarray.sem, wp_bind', W.resolveClassAt_links (State.method?_setTop (F0 m pc ls (.int r :: .int k :: .int n :: rest)) X.here.top) hg₁]
  rw [W.popN, if_neg (by decide)]
  refine ⟨F0 m pc ls (.int r :: .int k :: .int n :: rest), State.topJava?_setTop' (s := T.setVm vm₁) _ X.here.top, [.int n, .int k, .int r], rest, rfl, rfl, ?_⟩
  simp only [List.mapM_cons, List.mapM_nil, wp_bind', wp_pure']
  refine x_make3 (k := kA₁) (kc := kB₁) (kd := kC₁) (comp := c2) (cc := cd') (cd := ce) (t0 := .array (.array ty)) (t1 := .array ty) (type := ty) hkA₁ hkindA₁ rfl hkB₁ hkindB₁ rfl hkC₁ hkindC₁ hn hk hr hl1 hh1 hl2 hh2 hl3 hh3 hdf hdd (by show T.heap.size + 1 + _ ≤ _; omega) (by show T.slotsUsed + _ + _ ≤ _; omega) (fun d' acts' => ?_)
  have eS : ((T.setTop (F0 m pc ls (.int r :: .int k :: .int n :: rest))).setVm vm₁).setTop { F0 m pc ls (.int r :: .int k :: .int n :: rest) with stack := rest } = (T.setVm vm₁).setTop { F0 m pc ls (.int r :: .int k :: .int n :: rest) with stack := rest } := by
    show ((T.setVm vm₁).setTop _).setTop _ = _
    rw [State.setTop_setTop]
  rw [eS, x_f3_setTop]
  simp only [wp_bind', W.mark, W.pushRef, State.topJava?_setTop' _ XF.here.top, Option.some.injEq, exists_eq_left', State.setTop_setTop, State.heap_setTop]
  intro acts
  simp [jvm, XF.here.top]
  have e9 : T.heap.size = H.size := by rw [hT]
  rw [e9]
  exact a1
end XMB
end
section
section XMC
def xmulC (o : Nat) (q : Nat × Nat × Nat) : Bool := xig (.classLink (xown o) q.1 ("[" ++ (xtT q.2.1).toString)) q.2.2
set_option maxRecDepth 100000 in
theorem xmul_all : ∀ o, o < xNO → (xmulT o).all (xmulC o) = true := by decide +kernel
theorem xmul_w {o x t p : Nat} (h : xfnd (xmulT o) x = some (t, p)) : Jvm.Cond.classLink (xown o) x ("[" ++ (xtT t).toString) ∈ xgw := by
  have hm := xfnd_mem h
  by_cases ho : o < xNO
  · exact xig_mem (List.all_eq_true.mp (xmul_all o ho) _ hm)
  · have : xmulT o = [] := by
      unfold xNO at ho
      unfold xmulT
      split <;> first | omega | rfl
    rw [this] at hm
    cases hm
set_option maxRecDepth 100000 in
theorem xover_all : [3, 4, 5].all (fun t => lw_tbl.any (fun w => decide (w = Jvm.Cond.arrayOver (xtT t)))) = true := by decide +kernel
theorem xover_ok {t : Nat} (ht : t = 3 ∨ t = 4 ∨ t = 5) : Jvm.Cond.arrayOver (xtT t) ∈ xnw := by
  obtain ⟨w, hw, he⟩ := List.any_eq_true.mp (List.all_eq_true.mp xover_all t (by rcases ht with rfl | rfl | rfl <;> simp))
  have := of_decide_eq_true he
  subst this
  exact List.mem_filter.mpr ⟨hw, rfl⟩
theorem xP_app {D : va_G} {tA : Nat → ClassId} {old : Nat → Nat} {n0 : Nat} {h es : xH} {H H1 : Heap} (hP : xP D tA (xad old n0) h H) (hz : H.size = n0 + h.length) (hq : ∀ q, q < H.size → H1[q]? = H[q]?) (h1 : ∀ (j : Nat) (e : xE), es[j]? = some e → xcell D tA (xad old n0) (H.size + j) e H1) : xP D tA (xad old n0) (h ++ es) H1 := by
  intro j e hj
  by_cases hlt : j < h.length
  · rw [List.getElem?_append_left hlt] at hj
    exact xcell_kept (hP j e hj) (hq _ (by rw [xad_new]; omega))
  · rw [List.getElem?_append_right (by omega)] at hj
    have := h1 _ _ hj
    rw [xad_new, show n0 + j = H.size + (j - h.length) by omega]
    exact this
theorem xmk2_len (t n k lab : Nat) : (xmk2 t n k lab).length = 1 + n := by
  simp [xmk2]; omega
theorem xmk2_ok {D : va_G} {tA : Nat → ClassId} {old : Nat → Nat} {n0 L0 t N K : Nat} {H1 : Heap} (ht : t = 0 ∨ t = 2) (h0 : H1[n0 + L0]? = some { cls := tA (if t = 0 then 3 else 5), slots := ((List.range N).map (fun j => Value.ref (n0 + L0 + 1 + j))).toArray, vm := .none })
    (h1 : ∀ j, j < N → H1[n0 + L0 + 1 + j]? = some { cls := tA t, slots := Array.replicate K (defaultValue (xtT t)), vm := .none }) : ∀ (j : Nat) (e : xE), (xmk2 t N K (L0 + 4))[j]? = some e → xcell D tA (xad old n0) (n0 + L0 + j) e H1 := by
  intro j e he
  unfold xmk2 at he
  cases j with
  | zero =>
    simp only [List.getElem?_cons_zero, Option.some.injEq] at he
    subst he
    unfold xcell
    rw [if_neg (by show ¬ 100 + _ < 100; omega)]
    show H1[n0 + L0 + 0]? = _
    rw [Nat.add_zero, h0]
    have e1 : ∀ i : Nat, xv (xad old n0) (Value.ref (L0 + 4 + 1 + i)) = Value.ref (n0 + L0 + 1 + i) := fun i => by
      show Value.ref (xad old n0 (L0 + 4 + 1 + i)) = _
      rw [show L0 + 4 + 1 + i = (L0 + 1 + i) + 4 by omega, xad_new, show n0 + (L0 + 1 + i) = n0 + L0 + 1 + i by omega]
    simp only [Nat.add_sub_cancel_left, List.map_map, Function.comp_def, e1]
  | succ j =>
    rw [List.getElem?_cons_succ, List.getElem?_replicate] at he
    split at he
    · rename_i hj
      cases he
      unfold xcell
      rw [if_neg (by show ¬ 100 + _ < 100; omega)]
      rw [show n0 + L0 + (j + 1) = n0 + L0 + 1 + j by omega, h1 j hj]
      have hd : defaultValue (xtT t) = xdv t := xdv_ok (by omega)
      simp only [Nat.add_sub_cancel_left, List.map_replicate, xdv_map, List.toArray_replicate, hd]
    · cases he
theorem xflat_len {f : Nat → xH} {c : Nat} (hf : ∀ i, (f i).length = c) : ∀ n, ((List.range n).flatMap f).length = n * c
  | 0 => by simp
  | n + 1 => by
    rw [List.range_succ, List.flatMap_append, List.length_append, xflat_len hf n, Nat.succ_mul]
    simp [hf]
theorem xflat {f : Nat → xH} {c : Nat} (hf : ∀ i, (f i).length = c) : ∀ (n idx : Nat) (e : xE), ((List.range n).flatMap f)[idx]? = some e → ∃ i q, i < n ∧ q < c ∧ idx = i * c + q ∧ (f i)[q]? = some e
  | 0, idx, e, h => by simp at h
  | n + 1, idx, e, h => by
    rw [List.range_succ, List.flatMap_append] at h
    by_cases hlt : idx < n * c
    · rw [List.getElem?_append_left (by rw [xflat_len hf]; exact hlt)] at h
      obtain ⟨i, q, h1, h2, h3, h4⟩ := xflat hf n idx e h
      exact ⟨i, q, by omega, h2, h3, h4⟩
    · rw [List.getElem?_append_right (by rw [xflat_len hf]; omega), xflat_len hf] at h
      simp only [List.flatMap_cons, List.flatMap_nil, List.append_nil] at h
      have hq := (List.getElem?_eq_some_iff.mp h).1
      rw [hf] at hq
      exact ⟨n, idx - n * c, by omega, hq, by omega, h⟩
theorem xmk3_len (n k r lab : Nat) : (xmk3 n k r lab).length = 1 + n * (1 + k) := by
  unfold xmk3
  rw [List.length_cons, xflat_len (fun i => xmk2_len _ _ _ _)]
  omega
theorem xmk3_ok {D : va_G} {tA : Nat → ClassId} {old : Nat → Nat} {n0 L0 N K M : Nat} {H1 : Heap} (h0 : H1[n0 + L0]? = some { cls := tA 4, slots := ((List.range N).map (fun j => Value.ref (n0 + L0 + 1 + j * (1 + K)))).toArray, vm := .none })
    (h1 : ∀ j, j < N → H1[n0 + L0 + 1 + j * (1 + K)]? = some { cls := tA 3, slots := ((List.range K).map (fun q => Value.ref (n0 + L0 + 1 + j * (1 + K) + 1 + q))).toArray, vm := .none } ∧ ∀ q, q < K → H1[n0 + L0 + 1 + j * (1 + K) + 1 + q]? = some { cls := tA 0, slots := Array.replicate M (defaultValue (xtT 0)), vm := .none }) :
    ∀ (j : Nat) (e : xE), (xmk3 N K M (L0 + 4))[j]? = some e → xcell D tA (xad old n0) (n0 + L0 + j) e H1 := by
  intro j e he
  unfold xmk3 at he
  cases j with
  | zero =>
    simp only [List.getElem?_cons_zero, Option.some.injEq] at he
    subst he
    unfold xcell
    rw [if_neg (by show ¬ (104 : Nat) < 100; omega)]
    show H1[n0 + L0 + 0]? = _
    rw [Nat.add_zero, h0]
    have e1 : ∀ i : Nat, xv (xad old n0) (Value.ref (L0 + 4 + 1 + i * (1 + K))) = Value.ref (n0 + L0 + 1 + i * (1 + K)) := fun i => by
      show Value.ref (xad old n0 (L0 + 4 + 1 + i * (1 + K))) = _
      rw [show L0 + 4 + 1 + i * (1 + K) = (L0 + 1 + i * (1 + K)) + 4 by omega, xad_new, show n0 + (L0 + 1 + i * (1 + K)) = n0 + L0 + 1 + i * (1 + K) by omega]
    simp only [List.map_map, Function.comp_def, e1]
  | succ j =>
    rw [List.getElem?_cons_succ] at he
    obtain ⟨i, q, hi, hq, rfl, hf⟩ := xflat (fun i => xmk2_len _ _ _ _) _ _ _ he
    obtain ⟨g1, g2⟩ := h1 i hi
    have e2 : L0 + 4 + 1 + i * (1 + K) = (L0 + 1 + i * (1 + K)) + 4 := by omega
    rw [e2] at hf
    have := xmk2_ok (D := D) (tA := tA) (old := old) (n0 := n0) (L0 := L0 + 1 + i * (1 + K)) (t := 0) (N := K) (K := M) (H1 := H1) (Or.inl rfl) (by rw [if_pos rfl, show n0 + (L0 + 1 + i * (1 + K)) = n0 + L0 + 1 + i * (1 + K) by omega]; exact g1)
      (fun q hq => by rw [show n0 + (L0 + 1 + i * (1 + K)) + 1 + q = n0 + L0 + 1 + i * (1 + K) + 1 + q by omega]; exact g2 q hq) q e hf
    rw [show n0 + (L0 + 1 + i * (1 + K)) + q = n0 + L0 + (i * (1 + K) + q + 1) by omega] at this
    exact this
theorem xclamp {n : Int32} (h0 : ¬ n < 0) (h1 : ¬ 1000 < n) : n.toNatClampNeg ≤ 1000 := by
  have h0 := Int32.not_lt.mp h0
  have h1 := Int32.not_lt.mp h1
  rw [Int32.le_iff_toInt_le] at h0 h1
  have e0 : (0 : Int32).toInt = 0 := by decide
  have e1 : (1000 : Int32).toInt = 1000 := by decide
  rw [e0] at h0
  rw [e1] at h1
  show n.toInt.toNat ≤ 1000
  omega
variable {p : Program} {l : Launch} {e : Env} {R : Room} {s : State} {m : MethodId} {args : Array Value} {below : List Frame} {meth : Method} {c : Code} {Q : State → Prop}
theorem x_mul {D : va_G} {tA : Nat → ClassId} {old : Nat → Nat} {n0 hb kb nL μ x dm sl pc : Nat} {lv : xL} {st rest : List Value} {h es : xH} {ks : Nat}
    (hx : p.tables.exec = Jvm.exec) (hb9 : c.code = xmb μ) (hown : s.vm.findClass (xown (xmo μ)) = some m.cls) (hts : ∀ w ∈ xgw, w.before args s = true) (hnw : ∀ w ∈ xnw, w.before args s = true) (hK : xK D tA s)
    (hac : ∀ t, t < 3 → (Jvm.Cond.arrayClass (xtT t)).before args s = true) (hlb : hb ≤ h.length) (hkb : kb ≤ ks) (hdg : decode (xmb μ) pc = .ok (.multianewarray x dm, 4)) (hm : xmul (xmo μ) x dm st (h.length + 4) = some (rest, es, sl))
    (hRc : (h ++ es).length - hb ≤ R.cells) (hRs : ks + sl - kb ≤ R.slots)
    (kk : xG p l e R s m args below meth c Q D tA old n0 hb kb nL (pc + 4) lv (.ref (h.length + 4) :: rest) (h ++ es) (ks + sl)) : xG p l e R s m args below meth c Q D tA old n0 hb kb nL pc lv st h ks := by
  intro H locs ls hz hP hS hl
  unfold xmul at hm
  split at hm
  · rename_i t pw hf
    have hw := hts _ (xmul_w hf)
    split at hm
    · rename_i ht
      obtain ⟨rfl, ht⟩ := ht
      split at hm
      · rename_i k n rest9
        split at hm
        · cases hm
        · rename_i hc
          cases hm
          have hn : ¬ n < 0 := fun q => hc (Or.inl q)
          have hk : ¬ k < 0 := fun q => hc (Or.inr (Or.inl q))
          have bn := xclamp hn (fun q => hc (Or.inr (Or.inr (Or.inl q))))
          have bk := xclamp hk (fun q => hc (Or.inr (Or.inr (Or.inr q))))
          rw [List.length_append, xmk2_len] at hRc
          have hty : xtT t = .array (xtT (xcomp t)) := by rcases ht with rfl | rfl <;> rfl
          have hc3 : xcomp t = 0 ∨ xcomp t = 2 := by rcases ht with rfl | rfl <;> simp [xcomp]
          have hif : (if xcomp t = 0 then 3 else 5) = t := by rcases ht with rfl | rfl <;> rfl
          have hcb : k.toNatClampNeg * componentBytes (xtT (xcomp t)) ≤ 536870912 := by
            rcases hc3 with q | q <;> rw [q]
            · show k.toNatClampNeg * 4 ≤ 536870912
              omega
            · show k.toNatClampNeg * 1 ≤ 536870912
              omega
          rw [hty] at hw
          refine x_mna2 hx hb9 hown hw (by rw [← hty]; exact hnw _ (xover_ok (by rcases ht with q | q <;> simp [q]))) (hac _ (by rcases hc3 with q | q <;> omega)) hn hk (by omega) hcb (by omega) (by rcases hc3 with q | q <;> rw [q] <;> rfl) (by rcases hc3 with q | q <;> rw [q] <;> rfl) (by omega) (by omega) hdg (fun H1 cA comp f1 f2 z1 o1 g1 g2 => ?_)
          have ecA : cA = tA t := by
            have := (hK.2 t (by rcases ht with rfl | rfl <;> omega)).1
            rw [hty] at this
            exact Option.some.inj (f1.symm.trans this)
          have ecC : comp = tA (xcomp t) := Option.some.inj (f2.symm.trans (hK.2 (xcomp t) (by rcases hc3 with q | q <;> omega)).1)
          subst ecA
          subst ecC
          have hk9 := kk H1 locs ls (by rw [z1, hz, List.length_append, xmk2_len]; omega) (xP_app hP hz o1 (by
            have := xmk2_ok (D := D) (old := old) (n0 := n0) (L0 := h.length) (t := xcomp t) (N := n.toNatClampNeg) (K := k.toNatClampNeg) (H1 := H1) hc3 (by rw [hif, ← hz]; exact g1) (fun j hj => by rw [← hz]; exact g2 j hj)
            rw [← hz] at this
            exact this)) ⟨by have := hS.1; omega, fun q h1 h2 => (o1 q (Nat.lt_of_lt_of_le h1 hS.1)).trans (hS.2.1 q h1 h2), hS.2.2⟩ hl
          rw [List.length_append, xmk2_len, show h.length + (1 + n.toNatClampNeg) - hb = h.length - hb + 1 + n.toNatClampNeg by omega, show ks + (n.toNatClampNeg + n.toNatClampNeg * k.toNatClampNeg) - kb = ks - kb + n.toNatClampNeg + n.toNatClampNeg * k.toNatClampNeg by omega] at hk9
          simp only [List.map_cons, xv] at hk9
          rw [xad_new, ← hz] at hk9
          exact hk9
      · cases hm
    · split at hm
      · rename_i ht
        obtain ⟨rfl, rfl⟩ := ht
        split at hm
        · rename_i r k n rest9
          split at hm
          · cases hm
          · rename_i hc
            cases hm
            have hn : ¬ n < 0 := fun q => hc (Or.inl q)
            have hk : ¬ k < 0 := fun q => hc (Or.inr (Or.inl q))
            have hr : ¬ r < 0 := fun q => hc (Or.inr (Or.inr (Or.inl q)))
            have bn := xclamp hn (fun q => hc (Or.inr (Or.inr (Or.inr (Or.inl q)))))
            have bk := xclamp hk (fun q => hc (Or.inr (Or.inr (Or.inr (Or.inr (Or.inl q))))))
            have br := xclamp hr (fun q => hc (Or.inr (Or.inr (Or.inr (Or.inr (Or.inr q))))))
            rw [List.length_append, xmk3_len] at hRc
            refine x_mna3 (ty := .int) hx hb9 hown hw (hnw _ (xover_ok (t := 4) (by simp))) (hnw _ (xover_ok (t := 3) (by simp))) (hac 0 (by omega)) hn hk hr (by omega) (by omega) (by show r.toNatClampNeg * 4 ≤ 536870912; omega) (by omega) rfl rfl (by omega) (by omega) hdg (fun H1 cA comp cd f1 f2 f3 z1 o1 g1 g2 => ?_)
            have ecA : cA = tA 4 := Option.some.inj (f1.symm.trans (hK.2 4 (by omega)).1)
            have ecB : comp = tA 3 := Option.some.inj (f2.symm.trans (hK.2 3 (by omega)).1)
            have ecC : cd = tA 0 := Option.some.inj (f3.symm.trans (hK.2 0 (by omega)).1)
            subst ecA
            subst ecB
            subst ecC
            have hk9 := kk H1 locs ls (by rw [z1, hz, List.length_append, xmk3_len]; omega) (xP_app hP hz o1 (by
              have := xmk3_ok (D := D) (tA := tA) (old := old) (n0 := n0) (L0 := h.length) (N := n.toNatClampNeg) (K := k.toNatClampNeg) (M := r.toNatClampNeg) (H1 := H1) (by rw [← hz]; exact g1) (fun j hj => by rw [← hz]; exact g2 j hj)
              rw [← hz] at this
              exact this)) ⟨by have := hS.1; omega, fun q h1 h2 => (o1 q (Nat.lt_of_lt_of_le h1 hS.1)).trans (hS.2.1 q h1 h2), hS.2.2⟩ hl
            rw [List.length_append, xmk3_len, show h.length + (1 + n.toNatClampNeg * (1 + k.toNatClampNeg)) - hb = h.length - hb + 1 + n.toNatClampNeg * (1 + k.toNatClampNeg) by omega, show ks + (n.toNatClampNeg + n.toNatClampNeg * (k.toNatClampNeg + k.toNatClampNeg * r.toNatClampNeg)) - kb = ks - kb + n.toNatClampNeg + n.toNatClampNeg * (k.toNatClampNeg + k.toNatClampNeg * r.toNatClampNeg) by omega] at hk9
            simp only [List.map_cons, xv] at hk9
            rw [xad_new, ← hz] at hk9
            exact hk9
        · cases hm
      · cases hm
  · cases hm
end XMC
end
section
section XTH
variable {p : Program} {l : Launch} {e : Env} {R : Room} {s : State} {m : MethodId} {args : Array Value} {below : List Frame} {meth : Method} {c : Code} {H : Heap} {locs : List Loc} {cells slots : Nat} {Q : State → Prop}
variable {free : Addr → Prop} {ls : Array Slot} {rest : List Value} {Qc : Array Value → State → Outcome → State → Prop} {XC : String → State → State → Prop}
theorem x_throwS {cc : ByteArray} {pc : Nat} (hexec : p.tables.exec = Jvm.exec) (hb : c.code = cc) (hl : l.stackTraces = false) {own cls text : String} {names : List String} {ik is ic mc ms sa : Nat} {A : Nat → Prop}
    (hown : s.vm.findClass own = some m.cls) (hcls : Bundle.fit cls = true) (hnames : ∀ n ∈ names, Bundle.fit n = true)
    (hk : (Cond.classLink own ik cls).before args s = true) (hini : (Cond.initialized cls).before args s = true) (hstr : vk_R own is text sa s) (hat : ∀ w ∈ vx_atS own ic cls names, w.before args s = true)
    (hgood : ∀ w ∈ Cond.classLink own ik cls :: Cond.initialized cls :: vx_atS own ic cls names, vx_ot w = true)
    (hU : vx_Zq Bundle.tN "UNASSIGNED_STACK" Bundle.steD A s s.heap) (hN : vx_Zq Bundle.tN "SUPPRESSED_SENTINEL" Bundle.listD A s s.heap) (hS : va_S A s.heap H locs) (hsize : ls.size = c.maxLocals)
    (d0 : decode cc pc = .ok (.new ik, 3)) (d3 : decode cc (pc + 3) = .ok (.dup, 1)) (d4 : decode cc (pc + 4) = .ok (.ldc is, 2)) (d6 : decode cc (pc + 6) = .ok (.invokespecial ic, 3)) (d9 : decode cc (pc + 9) = .ok (.athrow, 1))
    (hout : ∀ x ∈ c.exceptionTable.toList, covers x (pc + 9) = false)
    (hRframes : names.length + 3 < R.frames) (hRlocals : (rest.map fun v => v.category).sum + (13 * (names.length + 1) + 43) ≤ R.locals) (hRcells : cells + 1 ≤ R.cells) (hRslots : slots + 6 ≤ R.slots) (hlocks : meth.locks = false)
    (hx : ∀ (t : State) (ce : Cell), s.vm.Alike t.vm → t.heap.size = H.size + 1 → t.heap[H.size]? = some ce → ce.vm = .none → s.vm.findClass cls = some ce.cls → (∀ q : Nat, q < H.size → t.heap[q]? = H[q]?) → XC cls s t)
    (hf : ∀ z ∈ locs, free z.base) (hc : cells + 1 ≤ mc) (hs : slots + 6 ≤ ms) :
    W p l e R s m args below meth c H locs cells slots (vx_MQ below Qc XC args s mc ms free) (F0 m pc ls rest) := by
  intro T hT X
  have htr : e.platform.stackTraces = false := (show e.platform.stackTraces = l.stackTraces by rw [X.admits.platform]).trans hl
  have Y := vx_rebase X (R' := { frames := R.frames, locals := R.locals, cells := 1, slots := 6 }) (Nat.le_refl _) (Nat.le_refl _) hRcells hRslots
  obtain ⟨s', hA⟩ : ∃ z, z = (T.setVm s.vm).setFrames (.invoking m args :: below) := ⟨_, rfl⟩
  rw [← hA] at Y
  have hvm : s'.vm = s.vm := by rw [hA]; rfl
  have hhp : s'.heap = H := by rw [hA]; exact hT
  have hW0 : s.WarmedH s'.vm := by rw [hvm]; exact State.WarmedH.refl s
  have hat' : ∀ w ∈ vx_atS own ic cls names, w.before args s' = true := fun w hw => vx_ot_at hW0 hvm.symm (hgood w (List.mem_cons_of_mem _ (List.mem_cons_of_mem _ hw))) (hat w hw)
  have hk' : (Cond.classLink own ik cls).before args s' = true := vx_ot_at hW0 hvm.symm (hgood _ List.mem_cons_self) hk
  have hini' : (Cond.initialized cls).before args s' = true := vx_ot_at hW0 hvm.symm (hgood _ (List.mem_cons_of_mem _ List.mem_cons_self)) hini
  have hU' : vx_Zq Bundle.tN "UNASSIGNED_STACK" Bundle.steD A s' s'.heap := by rw [hhp]; exact vx_Zq.moved hW0.alike (hU.kept hS.2.1)
  have hN' : vx_Zq Bundle.tN "SUPPRESSED_SENTINEL" Bundle.listD A s' s'.heap := by rw [hhp]; exact vx_Zq.moved hW0.alike (hN.kept hS.2.1)
  have h : ∀ w ∈ Bundle.ownAtoms own ic cls names, w.before args s' = true := vx_own hat' (vx_isRefq hU'.1) (vx_isRefq hN'.1) hU'.2.word hN'.2.word
  have hown' : s'.vm.findClass own = some m.cls := by rw [hvm]; exact hown
  have hins : (Cond.instantiable cls 6).before args s' = true := h _ (by simp [Bundle.ownAtoms])
  obtain ⟨vm₁, cX, kX, hfX, hkX, -, -, X₁, st1⟩ := Y.newCold hexec (own := own) (C := cls) (index := ik) (n := 6) hown' hk' hins hini'
    (g := F0 m pc ls rest) rfl (by rw [hb]; exact d0) (Nat.le_refl _) (Nat.le_refl _)
  generalize hT1 : (T.setVm vm₁).pushCell { cls := cX, slots := kX.instanceTypes.map defaultValue, vm := .none } = T1 at X₁ st1
  have hcat : (Value.ref T.heap.size).category = 1 := rfl
  have hcellA : T1.heap[T.heap.size]? = some (freshCell cX kX) := by rw [← hT1]; exact State.heap_pushCell_size _ _
  have d3' : decode c.code (pc + 3) = .ok (.dup, 1) := by rw [hb]; exact d3
  have d4' : decode c.code (pc + 4) = .ok (.ldc is, 2) := by rw [hb]; exact d4
  have hstr' : vk_R own is text sa s' := vk_R.warm hW0 hstr
  obtain ⟨U, hsteps, hrun, hend, hW, hsame, ce, hce, hO⟩ := X₁.ctorThrowS hexec htr (own := own) (cls := cls) (names := names) (ic := ic) hown' hcls hnames h (fun x hx => nomatch hx) hfX hkX hcellA (by rw [hhp, hT]; exact Nat.le_refl _) (msg := .ref sa) rfl
    (g := { method := m, pc := pc + 6, locals := ls, stack := .ref sa :: .ref T.heap.size :: .ref T.heap.size :: rest, locked := none }) rfl hsize rfl rfl (rest := rest) rfl
    (by rw [hb]; exact d6) (by rw [hb]; exact d9) hout hRframes (by simp only [List.map_cons, List.sum_cons, hcat]; omega) hlocks
  obtain ⟨f1, f2⟩ := vx_frame hsame
  rw [hhp] at f1 f2
  have hz1 : U.heap.size = H.size + 1 := by
    have a1 : U.heap.size ≤ s'.heap.size + 1 := hsame.2.2.1
    rw [hhp] at a1
    have b1 : T.heap.size < U.heap.size := (Array.getElem?_eq_some_iff.mp hce).1
    rw [hT] at b1
    omega
  have hWs : s.WarmedH U.vm := State.WarmedH.trans hW0 hW
  have hcl : s.vm.findClass cls = some ce.cls := by
    have h9 := hO.cls
    rw [hvm] at h9
    exact h9
  have hall : s.sameButNew ({ U with vm := s.vm } : State) locs mc ms := by
    subst hA
    obtain ⟨e1, e2⟩ := hsame
    rw [State.setFrames_setFrames] at e1
    have h2 : (T.setVm s.vm).sameButNew ({ U with vm := s.vm } : State) [] (0 + 1) (0 + 6) := ⟨e1, e2⟩
    have h3 := X.same.trans h2
    rw [List.append_nil] at h3
    exact h3.mono hc hs
  refine ⟨U, ?_, .threw T.heap.size, hrun, hend, Or.inr ⟨T.heap.size, rfl, cls, ce, locs, hx U ce hWs.alike hz1 (by rw [← hT]; exact hce) hO.vm hcl (fun q hq => f2 q hq (fun z hz => nomatch hz)), hce, hO.vm, hcl, hWs, hall, hf⟩⟩
  refine st1 _ ?_
  show Steps p.tables e below (T1.setTop { method := m, pc := pc + 3, locals := ls, stack := .ref T.heap.size :: rest, locked := none }) _
  jvm_step X₁.here [X₁.here.top, hexec, d3', Value.category]
  exact X₁.ldcString hexec (own := own) (text := text) (index := is) (a := sa) hown' hstr'.1 hstr'.2
    (g := { method := m, pc := pc + 4, locals := ls, stack := .ref T.heap.size :: .ref T.heap.size :: rest, locked := none }) rfl d4' _ hsteps
theorem x_throwSW {cc : ByteArray} {pc : Nat} (hexec : p.tables.exec = Jvm.exec) (hb : c.code = cc) (hl : l.stackTraces = false) {own cls text : String} {names : List String} {ik is ic mc ms sa : Nat} {A : Nat → Prop}
    (hown : s.vm.findClass own = some m.cls) (hcls : Bundle.fit cls = true) (hnames : ∀ n ∈ names, Bundle.fit n = true)
    (hk : (Cond.classLink own ik cls).before args s = true) (hini : (Cond.initialized cls).before args s = true) (hstr : vk_R own is text sa s) (hat : ∀ w ∈ vx_atS own ic cls names, w.before args s = true)
    (hgood : ∀ w ∈ Cond.classLink own ik cls :: Cond.initialized cls :: vx_atS own ic cls names, vx_ot w = true)
    (hU : vx_Zq Bundle.tN "UNASSIGNED_STACK" Bundle.steD A s s.heap) (hN : vx_Zq Bundle.tN "SUPPRESSED_SENTINEL" Bundle.listD A s s.heap) (hS : va_S A s.heap H locs) (hsize : ls.size = c.maxLocals)
    (d0 : decode cc pc = .ok (.new ik, 3)) (d3 : decode cc (pc + 3) = .ok (.dup, 1)) (d4 : decode cc (pc + 4) = .ok (.ldc_w is, 3)) (d7 : decode cc (pc + 7) = .ok (.invokespecial ic, 3)) (d10 : decode cc (pc + 10) = .ok (.athrow, 1))
    (hout : ∀ x ∈ c.exceptionTable.toList, covers x (pc + 10) = false)
    (hRframes : names.length + 3 < R.frames) (hRlocals : (rest.map fun v => v.category).sum + (13 * (names.length + 1) + 43) ≤ R.locals) (hRcells : cells + 1 ≤ R.cells) (hRslots : slots + 6 ≤ R.slots) (hlocks : meth.locks = false)
    (hx : ∀ (t : State) (ce : Cell), s.vm.Alike t.vm → t.heap.size = H.size + 1 → t.heap[H.size]? = some ce → ce.vm = .none → s.vm.findClass cls = some ce.cls → (∀ q : Nat, q < H.size → t.heap[q]? = H[q]?) → XC cls s t)
    (hf : ∀ z ∈ locs, free z.base) (hc : cells + 1 ≤ mc) (hs : slots + 6 ≤ ms) :
    W p l e R s m args below meth c H locs cells slots (vx_MQ below Qc XC args s mc ms free) (F0 m pc ls rest) := by
  intro T hT X
  have htr : e.platform.stackTraces = false := (show e.platform.stackTraces = l.stackTraces by rw [X.admits.platform]).trans hl
  have Y := vx_rebase X (R' := { frames := R.frames, locals := R.locals, cells := 1, slots := 6 }) (Nat.le_refl _) (Nat.le_refl _) hRcells hRslots
  obtain ⟨s', hA⟩ : ∃ z, z = (T.setVm s.vm).setFrames (.invoking m args :: below) := ⟨_, rfl⟩
  rw [← hA] at Y
  have hvm : s'.vm = s.vm := by rw [hA]; rfl
  have hhp : s'.heap = H := by rw [hA]; exact hT
  have hW0 : s.WarmedH s'.vm := by rw [hvm]; exact State.WarmedH.refl s
  have hat' : ∀ w ∈ vx_atS own ic cls names, w.before args s' = true := fun w hw => vx_ot_at hW0 hvm.symm (hgood w (List.mem_cons_of_mem _ (List.mem_cons_of_mem _ hw))) (hat w hw)
  have hk' : (Cond.classLink own ik cls).before args s' = true := vx_ot_at hW0 hvm.symm (hgood _ List.mem_cons_self) hk
  have hini' : (Cond.initialized cls).before args s' = true := vx_ot_at hW0 hvm.symm (hgood _ (List.mem_cons_of_mem _ List.mem_cons_self)) hini
  have hU' : vx_Zq Bundle.tN "UNASSIGNED_STACK" Bundle.steD A s' s'.heap := by rw [hhp]; exact vx_Zq.moved hW0.alike (hU.kept hS.2.1)
  have hN' : vx_Zq Bundle.tN "SUPPRESSED_SENTINEL" Bundle.listD A s' s'.heap := by rw [hhp]; exact vx_Zq.moved hW0.alike (hN.kept hS.2.1)
  have h : ∀ w ∈ Bundle.ownAtoms own ic cls names, w.before args s' = true := vx_own hat' (vx_isRefq hU'.1) (vx_isRefq hN'.1) hU'.2.word hN'.2.word
  have hown' : s'.vm.findClass own = some m.cls := by rw [hvm]; exact hown
  have hins : (Cond.instantiable cls 6).before args s' = true := h _ (by simp [Bundle.ownAtoms])
  obtain ⟨vm₁, cX, kX, hfX, hkX, -, -, X₁, st1⟩ := Y.newCold hexec (own := own) (C := cls) (index := ik) (n := 6) hown' hk' hins hini'
    (g := F0 m pc ls rest) rfl (by rw [hb]; exact d0) (Nat.le_refl _) (Nat.le_refl _)
  generalize hT1 : (T.setVm vm₁).pushCell { cls := cX, slots := kX.instanceTypes.map defaultValue, vm := .none } = T1 at X₁ st1
  have hcat : (Value.ref T.heap.size).category = 1 := rfl
  have hcellA : T1.heap[T.heap.size]? = some (freshCell cX kX) := by rw [← hT1]; exact State.heap_pushCell_size _ _
  have d3' : decode c.code (pc + 3) = .ok (.dup, 1) := by rw [hb]; exact d3
  have d4' : decode c.code (pc + 4) = .ok (.ldc_w is, 3) := by rw [hb]; exact d4
  have hstr' : vk_R own is text sa s' := vk_R.warm hW0 hstr
  obtain ⟨U, hsteps, hrun, hend, hW, hsame, ce, hce, hO⟩ := X₁.ctorThrowS hexec htr (own := own) (cls := cls) (names := names) (ic := ic) hown' hcls hnames h (fun x hx => nomatch hx) hfX hkX hcellA (by rw [hhp, hT]; exact Nat.le_refl _) (msg := .ref sa) rfl
    (g := { method := m, pc := pc + 7, locals := ls, stack := .ref sa :: .ref T.heap.size :: .ref T.heap.size :: rest, locked := none }) rfl hsize rfl rfl (rest := rest) rfl
    (by rw [hb]; exact d7) (by rw [hb]; exact d10) hout hRframes (by simp only [List.map_cons, List.sum_cons, hcat]; omega) hlocks
  obtain ⟨f1, f2⟩ := vx_frame hsame
  rw [hhp] at f1 f2
  have hz1 : U.heap.size = H.size + 1 := by
    have a1 : U.heap.size ≤ s'.heap.size + 1 := hsame.2.2.1
    rw [hhp] at a1
    have b1 : T.heap.size < U.heap.size := (Array.getElem?_eq_some_iff.mp hce).1
    rw [hT] at b1
    omega
  have hWs : s.WarmedH U.vm := State.WarmedH.trans hW0 hW
  have hcl : s.vm.findClass cls = some ce.cls := by
    have h9 := hO.cls
    rw [hvm] at h9
    exact h9
  have hall : s.sameButNew ({ U with vm := s.vm } : State) locs mc ms := by
    subst hA
    obtain ⟨e1, e2⟩ := hsame
    rw [State.setFrames_setFrames] at e1
    have h2 : (T.setVm s.vm).sameButNew ({ U with vm := s.vm } : State) [] (0 + 1) (0 + 6) := ⟨e1, e2⟩
    have h3 := X.same.trans h2
    rw [List.append_nil] at h3
    exact h3.mono hc hs
  refine ⟨U, ?_, .threw T.heap.size, hrun, hend, Or.inr ⟨T.heap.size, rfl, cls, ce, locs, hx U ce hWs.alike hz1 (by rw [← hT]; exact hce) hO.vm hcl (fun q hq => f2 q hq (fun z hz => nomatch hz)), hce, hO.vm, hcl, hWs, hall, hf⟩⟩
  refine st1 _ ?_
  show Steps p.tables e below (T1.setTop { method := m, pc := pc + 3, locals := ls, stack := .ref T.heap.size :: rest, locked := none }) _
  jvm_step X₁.here [X₁.here.top, hexec, d3', Value.category]
  exact X₁.ldcStringW hexec (own := own) (text := text) (index := is) (a := sa) hown' hstr'.1 hstr'.2
    (g := { method := m, pc := pc + 4, locals := ls, stack := .ref T.heap.size :: .ref T.heap.size :: rest, locked := none }) rfl d4' _ hsteps
end XTH
end
section
section XTC
abbrev xsup : List String := ["java/lang/RuntimeException", "java/lang/Exception"]
def xthrK : List (Nat × Nat × Nat) := ((List.range xNM).flatMap (fun μ => (xthrT μ).map (fun q => (xmo μ, q.2.2.2.2.1, q.2.1)))).eraseDups
def xthkC (q : Nat × Nat × Nat) : Bool := match xcl[q.2.2]? with
  | some (C, _, N) => decide (N = 0) && decide (q.2.2 < 100) && Bundle.fit C && xsup.all (fun n => Bundle.fit n) && (vx_atS (xown q.1) q.2.1 C xsup).all (fun w => vx_ot w && (goodWord w || xnwB w) && decide (w ∈ lw_tbl))
  | none => false
set_option maxRecDepth 100000 in
theorem xthk_all : xthrK.all xthkC = true := by decide +kernel
def xthrC (μ : Nat) (q : Nat × Nat × Nat × Nat × Nat × Nat × Nat × Nat) : Bool := match xcl[q.2.1]? with
  | some (C, _, _) => decide ((xmo μ, q.2.2.2.2.1, q.2.1) ∈ xthrK) && xig (.classLink (xown (xmo μ)) q.2.2.1 C) q.2.2.2.2.2.2.1 && xig (.initialized C) q.2.2.2.2.2.2.2 && vx_ot (.classLink (xown (xmo μ)) q.2.2.1 C) && vx_ot (.initialized C) &&
      xstrT.any (fun z => decide (z.1 = xmo μ) && decide (z.2.1 = q.2.2.2.1)) && decide ((xmc μ)[q.1]? = some (some (.new q.2.2.1))) && decide ((xmc μ)[q.1 + 3]? = some (some .dup)) &&
      (if q.2.2.2.2.2.1 = 0 then decide ((xmc μ)[q.1 + 4]? = some (some (.ldc q.2.2.2.1))) && decide ((xmc μ)[q.1 + 6]? = some (some (.invokespecial q.2.2.2.2.1))) && decide ((xmc μ)[q.1 + 9]? = some (some .athrow))
       else decide ((xmc μ)[q.1 + 4]? = some (some (.ldc_w q.2.2.2.1))) && decide ((xmc μ)[q.1 + 7]? = some (some (.invokespecial q.2.2.2.2.1))) && decide ((xmc μ)[q.1 + 10]? = some (some .athrow))) && decide (5 < xmf μ) && decide (82 ≤ xmlo μ)
  | none => false
set_option maxRecDepth 100000 in
theorem xthr_all : (List.range xNM).all (fun μ => (xthrT μ).all (xthrC μ)) = true := by decide +kernel
theorem xthr_out {μ : Nat} (h : ¬ μ < xNM) : xthrT μ = [] := by
  unfold xNM at h
  unfold xthrT
  split <;> first | omega | rfl
end XTC
end
section
section XLC
theorem xlg_m (ad : Nat → Nat) : ∀ as : List Value, (lg_sl (as.map (xv ad))).length = (lg_sl as).length
  | [] => rfl
  | v :: r => by
    unfold lg_sl
    rw [List.map_cons, List.flatMap_cons, List.flatMap_cons, List.length_append, List.length_append, xv_cat]
    have := xlg_m ad r
    unfold lg_sl at this
    rw [this]
    split <;> rfl
theorem xlv_m (ad : Nat → Nat) : ∀ (as : List Value) (k : Nat), lv_args k (as.map (xv ad)) = xm ad (lv_args k as)
  | [], _ => rfl
  | v :: r, k => by
    unfold lv_args
    rw [List.map_cons]
    dsimp only
    rw [xv_cat, xlv_m ad r]
    rfl
variable {p : Program} {l : Launch} {e : Env} {R : Room} {s : State} {m : MethodId} {args : Array Value} {below : List Frame} {meth : Method} {c : Code} {Q : State → Prop}
theorem x_thr {D : va_G} {tA : Nat → ClassId} {old : Nat → Nat} {n0 hb kb μ pc ci : Nat} {lv : xL} {h : xH} {ks : Nat} {r : Nat × Nat × Nat × Nat × Nat × Nat}
    (hx : p.tables.exec = Jvm.exec) (hb9 : c.code = xmb μ) (hml : c.maxLocals = xml μ) (hown : s.vm.findClass (xown (xmo μ)) = some m.cls) (hts : ∀ w ∈ xgw, w.before args s = true) (hnw : ∀ w ∈ xnw, w.before args s = true) (hK : xK D tA s) (hZ : xZ old n0 s) (hnoh : ∀ x ∈ c.exceptionTable.toList, False) (hlocks : meth.locks = false) (hst : l.stackTraces = false)
    (hRf : xmf μ ≤ R.frames) (hRl : xmlo μ ≤ R.locals) (hlb : hb ≤ h.length) (hkb : kb ≤ ks) (ht : xfnd (xthrT μ) pc = some (ci, r)) (hRc : (h ++ [(ci, [])]).length - hb ≤ R.cells) (hRs : ks + 6 - kb ≤ R.slots) :
    xG p l e R s m args below meth c (vx_MQ below (xQc D tA old n0 (some ci, none, h ++ [(ci, [])], ks + 6)) (xXc D tA old n0 (some ci, none, h ++ [(ci, [])], ks + 6)) args s ((h ++ [(ci, [])]).length - hb) (ks + 6 - kb) (fun q => n0 ≤ q)) D tA old n0 hb kb (xml μ) pc lv [] h ks := by
  obtain ⟨ik, is, ic, wd, p1, p2⟩ := r
  have hm := xfnd_mem ht
  have hμ : μ < xNM := by
    rcases Nat.lt_or_ge μ xNM with q | q
    · exact q
    · rw [xthr_out (by omega)] at hm
      cases hm
  have h1 := List.all_eq_true.mp (List.all_eq_true.mp xthr_all μ (List.mem_range.mpr hμ)) _ hm
  unfold xthrC at h1
  dsimp only at h1
  split at h1
  · rename_i C T N hc
    simp only [Bool.and_eq_true, decide_eq_true_eq] at h1
    obtain ⟨⟨⟨⟨⟨⟨⟨⟨⟨⟨hk, w1⟩, w2⟩, o1⟩, o2⟩, hs⟩, c0⟩, c3⟩, hcc⟩, hf5⟩, hl82⟩ := h1
    have h2 := List.all_eq_true.mp xthk_all _ hk
    unfold xthkC at h2
    dsimp only at h2
    rw [hc] at h2
    simp only [Bool.and_eq_true, decide_eq_true_eq] at h2
    obtain ⟨⟨⟨⟨hN, hlt⟩, hfit⟩, hsup⟩, hat⟩ := h2
    subst hN
    obtain ⟨z, hz1, hz2⟩ := List.any_eq_true.mp hs
    simp only [Bool.and_eq_true, decide_eq_true_eq] at hz2
    obtain ⟨sa, hsa⟩ := hZ.2.2.1 z hz1
    rw [hz2.1, hz2.2] at hsa
    have hdec : ∀ (k : Nat) (i : Instr) (n : Nat), (xmc μ)[k]? = some (some i) → xlen i = n + 1 → decode (xmb μ) k = .ok (i, n + 1) := fun k i n h9 hn => by
      have := xchk_ok (xdec μ) h9
      rw [Nat.zero_add] at this
      exact xdl this hn
    have hats : ∀ w ∈ vx_atS (xown (xmo μ)) ic C xsup, vx_ot w = true ∧ w.before args s = true := fun w hw => by
      have h9 := List.all_eq_true.mp hat w hw
      simp only [Bool.and_eq_true, Bool.or_eq_true, decide_eq_true_eq] at h9
      refine ⟨h9.1.1, ?_⟩
      rcases h9.1.2 with h8 | h8
      · exact hts _ (List.mem_filter.mpr ⟨h9.2, h8⟩)
      · exact hnw _ (List.mem_filter.mpr ⟨h9.2, h8⟩)
    intro H locs ls hz hP hS hl
    have hgood : ∀ w ∈ Jvm.Cond.classLink (xown (xmo μ)) ik C :: Jvm.Cond.initialized C :: vx_atS (xown (xmo μ)) ic C xsup, vx_ot w = true := fun w hw => by
      rcases List.mem_cons.mp hw with rfl | hw
      · exact o1
      · rcases List.mem_cons.mp hw with rfl | hw
        · exact o2
        · exact (hats w hw).1
    have hXC : ∀ (t : State) (ce : Cell), s.vm.Alike t.vm → t.heap.size = H.size + 1 → t.heap[H.size]? = some ce → ce.vm = .none → s.vm.findClass C = some ce.cls → (∀ q : Nat, q < H.size → t.heap[q]? = H[q]?) → xXc D tA old n0 (some ci, none, h ++ [(ci, [])], ks + 6) C s t := fun t ce hal hz9 hce hcv hcl hq => by
      refine ⟨⟨⟨ci, C, T, 0, rfl, hc, rfl⟩, by rw [hz9, hz]; simp only [List.length_append, List.length_singleton]; omega, xP_push hP hz ?_ hq⟩, by have := hS.1; omega, fun q h7 h8 => (hq q (Nat.lt_of_lt_of_le h7 hS.1)).trans (hS.2.1 q h7 h8)⟩
      unfold xcell
      rw [if_pos hlt]
      obtain ⟨-, hfc, -⟩ := hK.1.1 _ _ hc
      exact ⟨_, hc, ce, hce, Option.some.inj (hcl.symm.trans hfc), hcv, fun k hk => absurd hk (Nat.not_lt_zero k)⟩
    rw [List.length_append, List.length_singleton] at hRc ⊢
    by_cases hw : wd = 0
    · rw [if_pos hw] at hcc
      simp only [Bool.and_eq_true, decide_eq_true_eq] at hcc
      exact x_throwS (own := xown (xmo μ)) (cls := C) (names := xsup) (ik := ik) (is := is) (ic := ic) (A := fun q => n0 ≤ q) hx hb9 hst hown hfit (fun n hn => List.all_eq_true.mp hsup n hn) (hts _ (xig_mem w1)) (hts _ (xig_mem w2)) hsa (fun w hw => (hats w hw).2) hgood hZ.1 hZ.2.1 hS (hl.1.trans hml.symm)
        (hdec _ _ 2 c0 rfl) (hdec _ _ 0 c3 rfl) (hdec _ _ 1 hcc.1.1 rfl) (hdec _ _ 2 hcc.1.2 rfl) (hdec _ _ 0 hcc.2 rfl) (fun x hx => (hnoh x hx).elim) (Nat.lt_of_lt_of_le hf5 hRf) (Nat.le_trans hl82 hRl) (by omega) (by omega) hlocks hXC hS.2.2 (by omega) (by omega)
    · rw [if_neg hw] at hcc
      simp only [Bool.and_eq_true, decide_eq_true_eq] at hcc
      exact x_throwSW (own := xown (xmo μ)) (cls := C) (names := xsup) (ik := ik) (is := is) (ic := ic) (A := fun q => n0 ≤ q) hx hb9 hst hown hfit (fun n hn => List.all_eq_true.mp hsup n hn) (hts _ (xig_mem w1)) (hts _ (xig_mem w2)) hsa (fun w hw => (hats w hw).2) hgood hZ.1 hZ.2.1 hS (hl.1.trans hml.symm)
        (hdec _ _ 2 c0 rfl) (hdec _ _ 0 c3 rfl) (hdec _ _ 2 hcc.1.1 rfl) (hdec _ _ 2 hcc.1.2 rfl) (hdec _ _ 0 hcc.2 rfl) (fun x hx => (hnoh x hx).elim) (Nat.lt_of_lt_of_le hf5 hRf) (Nat.le_trans hl82 hRl) (by omega) (by omega) hlocks hXC hS.2.2 (by omega) (by omega)
  · cases h1
end XLC
end
section
/-! a throw that is caught in the method -/
section XCA
def xcatC (μ : Nat) (q : Nat × Nat × Nat × Nat) : Bool := decide (q.2.2.2 ≠ 0) && (match xfnd (xnewT (xmo μ)) q.2.2.2 with
  | some (ci, w1, _) => (match xcl[ci]? with
    | some (C, _, _) => xig (.classLink (xown (xmo μ)) q.2.2.2 C) w1 && xnwB (.castable C C) && decide (Jvm.Cond.castable C C ∈ lw_tbl)
    | none => false)
  | none => true)
set_option maxRecDepth 100000 in
theorem xcat_all : (List.range xNM).all (fun μ => (xmh μ).all (xcatC μ)) = true := by decide +kernel
set_option maxRecDepth 100000 in
theorem xmh_out {μ : Nat} (h : ¬ μ < xNM) : xmh μ = [] := by
  unfold xNM at h
  unfold xmh
  split <;> first | omega | rfl
theorem xcat_ok {μ : Nat} {q : Nat × Nat × Nat × Nat} (hm : q ∈ xmh μ) : xcatC μ q = true := by
  by_cases hμ : μ < xNM
  · exact List.all_eq_true.mp (List.all_eq_true.mp xcat_all μ (List.mem_range.mpr hμ)) _ hm
  · rw [xmh_out hμ] at hm
    cases hm
theorem xhnd_ok {o pc ci hp : Nat} : ∀ {rows : List (Nat × Nat × Nat × Nat)}, xhnd o pc ci rows = some hp → ∃ pre x suf r', rows = pre ++ x :: suf ∧ x.2.2.1 = hp ∧ (x.1 ≤ pc ∧ pc < x.2.1) ∧ xfnd (xnewT o) x.2.2.2 = some (ci, r') ∧
    ∀ z ∈ pre, ¬ (z.1 ≤ pc ∧ pc < z.2.1) ∨ ∃ ci' r'', xfnd (xnewT o) z.2.2.2 = some (ci', r'') ∧ xnc ci ci' = true := by
  intro rows
  induction rows with
  | nil => intro h; cases h
  | cons q rows ih =>
    intro h
    obtain ⟨qs, qe, qh, qc⟩ := q
    unfold xhnd at h
    split at h
    · rename_i hcov
      split at h
      · rename_i ci' r' hf
        split at h
        · rename_i he
          subst he
          exact ⟨[], _, rows, r', rfl, Option.some.inj h, hcov, hf, fun z hz => by cases hz⟩
        · split at h
          · rename_i hnc
            obtain ⟨pre, x, suf, r9, e1, e2, e3, e4, e5⟩ := ih h
            exact ⟨(qs, qe, qh, qc) :: pre, x, suf, r9, by rw [e1]; rfl, e2, e3, e4, fun z hz => (List.mem_cons.mp hz).elim (fun e => by subst e; exact Or.inr ⟨_, _, hf, hnc⟩) (e5 z)⟩
          · cases h
      · cases h
    · rename_i hcov
      obtain ⟨pre, x, suf, r9, e1, e2, e3, e4, e5⟩ := ih h
      exact ⟨(qs, qe, qh, qc) :: pre, x, suf, r9, by rw [e1]; rfl, e2, e3, e4, fun z hz => (List.mem_cons.mp hz).elim (fun e => by subst e; exact Or.inl hcov) (e5 z)⟩
theorem xnc_ok {ci ci' : Nat} {C C' : String} {T T' : u_T} {N N' : Nat} (h : xnc ci ci' = true) (hc : xcl[ci]? = some (C, T, N)) (hc' : xcl[ci']? = some (C', T', N')) : (C, C') ∈ xncT := by
  unfold xnc at h
  rw [hc, hc'] at h
  dsimp only at h
  obtain ⟨z, h1, h2⟩ := List.any_eq_true.mp h
  simp only [Bool.and_eq_true, decide_eq_true_eq] at h2
  obtain ⟨rfl, rfl⟩ := h2
  exact h1
theorem xdel_has {ls : Array Slot} {nL j : Nat} {q : Nat} {lv : xL} {ad : Nat → Nat} (h : lv_has ls nL ((j, Value.ref q) :: (xm ad lv).filter (fun q => !(q.1 == j) && !(q.1 + 1 == j && q.2.category == 2)))) : lv_has ls nL (xm ad (xdel j lv)) := by
  have e : (xm ad lv).filter (fun q => !(q.1 == j) && !(q.1 + 1 == j && q.2.category == 2)) = xm ad (xdel j lv) := by
    have := xs1_m j (.int 0) lv ad
    exact (List.cons.inj this).2
  rw [e] at h
  exact ⟨h.1, h.2.1, fun z hz => h.2.2 z (List.mem_cons_of_mem _ hz)⟩
variable {p : Program} {l : Launch} {e : Env} {R : Room} {s : State} {m : MethodId} {args : Array Value} {below : List Frame} {meth : Method} {c : Code} {H : Heap} {locs : List Loc} {cells slots : Nat} {Q : State → Prop}
theorem x_ccat {D : va_G} {tA : Nat → ClassId} {old : Nat → Nat} {n0 hb kb μ mc ms pc pc' hp j ci : Nat} {lv : xL} {ls : Array Slot} {st0 rest : List Value} {a : Array Value} {out : xO} {h' : xH} {ks' : Nat} {r : Option Value}
    (hx : p.tables.exec = Jvm.exec) (hb9 : c.code = xmb μ) (hown : s.vm.findClass (xown (xmo μ)) = some m.cls) (hts : ∀ w ∈ xgw, w.before args s = true) (hnw : ∀ w ∈ xnw, w.before args s = true) (hZ : xZ old n0 s)
    (hr : vx_Run p l e R s m args below meth c H locs cells slots mc ms (F0 m pc ls st0) rest (xQc D tA old n0 out a) (xXc D tA old n0 out) (fun q => n0 ≤ q)) (ho : out = (some ci, r, h', ks')) (hS : va_S (fun q => n0 ≤ q) s.heap H locs)
    (htab : c.exceptionTable.toList = tableOf (xmh μ)) (hct : xctch (xmo μ) μ pc ci (xmc μ) = some (hp, pc', j)) (hj : j < xml μ) (hl : lv_has ls (xml μ) (xm (xad old n0) lv)) (hcc : cells + mc = h'.length - hb) (hss : slots + ms = ks' - kb)
    (kk : xG p l e R s m args below meth c Q D tA old n0 hb kb (xml μ) pc' (xdel j lv) [] h' ks') :
    W p l e R s m args below meth c H locs cells slots Q (F0 m pc ls st0) := by
  subst ho
  intro T hT X
  rcases hr T hT X with ⟨v, st₀, t, T', L, h0, X', hL, e1, e2, ⟨⟨hv, -⟩, -⟩, -⟩ | ⟨q, st₀, t, T', L, E, ce, h0, X', hL, e1, e2, ⟨⟨⟨ci2, C, T9, N, hx1, hx2, hx3⟩, hsz, hp9⟩, hF⟩, hce, hcv, hcl, st⟩
  · cases hv
  · cases hx1
    subst hx3
    obtain ⟨k1, k2, k3⟩ := vx_keep h0 e1 hS (fun _ _ h => h) (fun _ h => h) hL hF
    have hh : ∃ hp9, xhnd (xmo μ) pc ci (xmh μ) = some hp9 ∧ ((∃ k : Fin 4, (xmc μ)[hp9]? = some (some (.astore_n k)) ∧ hp = hp9 ∧ pc' = hp9 + 1 ∧ j = k) ∨ ((xmc μ)[hp9]? = some (some (.astore j)) ∧ hp = hp9 ∧ pc' = hp9 + 2)) := by
      unfold xctch at hct
      split at hct
      · rename_i hp9 hh9
        refine ⟨hp9, hh9, ?_⟩
        split at hct
        · rename_i k hk
          cases hct
          exact Or.inl ⟨k, hk, rfl, rfl, rfl⟩
        · rename_i k hk
          cases hct
          exact Or.inr ⟨hk, rfl, rfl⟩
        · cases hct
      · cases hct
    obtain ⟨hp9, hh9, hi9⟩ := hh
    obtain ⟨pre, x, suf, r', f1, f2, f3, f4, f5⟩ := xhnd_ok hh9
    have hxm : x ∈ xmh μ := by rw [f1]; exact List.mem_append_right _ List.mem_cons_self
    have hxc := xcat_ok hxm
    unfold xcatC at hxc
    rw [f4] at hxc
    dsimp only at hxc
    rw [hx2] at hxc
    simp only [Bool.and_eq_true, decide_eq_true_eq] at hxc
    obtain ⟨g1, ⟨g2, g3⟩, g4⟩ := hxc
    have hpass : ∀ z ∈ tableOf pre, covers z pc = false ∨ (z.catchType ≠ 0 ∧ ∃ nm : String, (Cond.classLink (xown (xmo μ)) z.catchType nm).before args s = true ∧ va_Nc E nm s) := by
      intro z hz
      obtain ⟨y, hy, rfl⟩ := List.mem_map.mp hz
      rcases f5 y hy with f5 | ⟨ci', r'', f5, f6⟩
      · refine Or.inl ?_
        unfold covers
        dsimp only
        simp only [Bool.and_eq_false_iff, decide_eq_false_iff_not]
        omega
      · refine Or.inr ?_
        have hyc := xcat_ok (μ := μ) (q := y) (by rw [f1]; exact List.mem_append_left _ hy)
        unfold xcatC at hyc
        rw [f5] at hyc
        dsimp only at hyc
        split at hyc
        · rename_i C' T' N' hc'
          simp only [Bool.and_eq_true, decide_eq_true_eq] at hyc
          exact ⟨hyc.1, C', hts _ (xig_mem hyc.2.1.1), hZ.2.2.2.1 _ (xnc_ok f6 hx2 hc')⟩
        · simp at hyc
    have hw := vx_catch (p := p) (l := l) (e := e) (R := R) (s := s) (m := m) (args := args) (below := below) (meth := meth) (c := c) (H := T'.heap) (locs := locs ++ L) (cells := cells + mc) (slots := slots + ms) (Q := Q) (pc := pc) (ls := ls) (rest := rest) (E := E) (ce := ce) (q := q) (name := E) hown (tableOf pre) ⟨x.1, x.2.1, x.2.2.1, x.2.2.2⟩ (tableOf suf)
      (by rw [htab, f1]; unfold tableOf; rw [List.map_append, List.map_cons]) hpass (by unfold covers; dsimp only; simp only [Bool.and_eq_true, decide_eq_true_eq]; exact f3) g1 (hts _ (xig_mem g2)) (hnw _ (List.mem_filter.mpr ⟨g4, g3⟩)) (by rw [e1]; exact hce) hcv hcl
      (by
        dsimp only
        rw [f2, hcc, hss]
        rcases hi9 with ⟨k, hk, rfl, rfl, rfl⟩ | ⟨hk, rfl, rfl⟩
        · have hd := xchk_ok (xdec μ) hk
          rw [Nat.zero_add] at hd
          exact lv_astore_n hx hb9 (xdl hd rfl) rfl hl hj rfl (fun ls' hl' => kk T'.heap (locs ++ L) ls' (by rw [e1]; exact hsz) (by rw [e1]; exact hp9) k3 (xdel_has hl'))
        · have hd := xchk_ok (xdec μ) hk
          rw [Nat.zero_add] at hd
          exact lv_astore hx hb9 (xdl hd rfl) hl hj rfl (fun ls' hl' => kk T'.heap (locs ++ L) ls' (by rw [e1]; exact hsz) (by rw [e1]; exact hp9) k3 (xdel_has hl')))
    obtain ⟨t2, a1, b1⟩ := hw T' rfl X'
    exact ⟨t2, st.trans a1, b1⟩
end XCA
end
section
section XLO
variable {p : Program} {l : Launch} {e : Env} {R : Room} {s : State} {m : MethodId} {args : Array Value} {below : List Frame} {meth : Method} {c : Code}
set_option maxHeartbeats 4000000 in
theorem x_end {D : va_G} {tA : Nat → ClassId} {old : Nat → Nat} {n0 hb kb μ : Nat} {out : xO} (hx : p.tables.exec = Jvm.exec) (hb9 : c.code = xmb μ) (hlocks : meth.locks = false) (hret : meth.sig.returnType = xmr μ) :
    ∀ (i : Instr) (r : Option Value) (pc : Nat) (st : List Value) (h : xH) (ks : Nat) (H : Heap) (locs : List Loc) (ls : Array Slot), xexit μ i st = some r → out = (none, r, h, ks) → decode (xmb μ) pc = .ok (i, 1) → hb ≤ h.length → kb ≤ ks → H.size = n0 + h.length → xP D tA (xad old n0) h H → va_S (fun q => n0 ≤ q) s.heap H locs →
      W p l e R s m args below meth c H locs (h.length - hb) (ks - kb) (vx_MQ below (xQc D tA old n0 out) (xXc D tA old n0 out) args s (out.2.2.1.length - hb) (out.2.2.2 - kb) (fun q => n0 ≤ q)) (F0 m pc ls (st.map (xv (xad old n0)))) := by
  intro i r pc st h ks H locs ls hr9 ho hd _ _ hz hP hS
  subst ho
  cases i <;> first | (simp [xexit] at hr9; done) | skip
  case ireturn =>
    obtain ⟨v, t, rfl, ht, hn, rfl⟩ := xexit_i hr9
    exact vx_ret (W.zret hx hb9 (hret.trans ht) hn (fun t9 ht9 hW => ⟨⟨rfl, rfl, by rw [ht9]; exact hz, by rw [ht9]; exact hP⟩, va_S.F hS ht9⟩) hS.2.2 hd hlocks)
  case lreturn =>
    obtain ⟨v, rfl, ht, rfl⟩ := xexit_l hr9
    exact vx_ret (W.lret hx hb9 (hret.trans ht) (fun t9 ht9 hW => ⟨⟨rfl, rfl, by rw [ht9]; exact hz, by rw [ht9]; exact hP⟩, va_S.F hS ht9⟩) hS.2.2 hd hlocks)
  case dreturn =>
    obtain ⟨v, rfl, ht, rfl⟩ := xexit_d hr9
    exact vx_ret (W.dret hx hb9 (hret.trans ht) (fun t9 ht9 hW => ⟨⟨rfl, rfl, by rw [ht9]; exact hz, by rw [ht9]; exact hP⟩, va_S.F hS ht9⟩) hS.2.2 hd hlocks)
  case areturn =>
    obtain ⟨v, t, rfl, ht, hrt, rfl⟩ := xexit_a hr9
    exact vx_ret (W.aret hx hb9 (hret.trans ht) hrt (Or.inr ⟨_, rfl⟩) (fun t9 ht9 hW => ⟨⟨rfl, rfl, by rw [ht9]; exact hz, by rw [ht9]; exact hP⟩, va_S.F hS ht9⟩) hS.2.2 hd hlocks)
  case return_ =>
    obtain ⟨rfl, ht, rfl⟩ := xexit_v hr9
    exact vx_ret (W.vret hx hb9 (hret.trans ht) (fun t9 ht9 hW => ⟨⟨rfl, rfl, by rw [ht9]; exact hz, by rw [ht9]; exact hP⟩, va_S.F hS ht9⟩) hS.2.2 hd hlocks)
set_option maxHeartbeats 4000000 in
theorem x_loop {call : Nat → List Value → xH → Nat → Option xO} {D : va_G} {tA : Nat → ClassId} {old : Nat → Nat} {n0 hb kb μ : Nat} {sc sc' : Option (List Int32)} {out : xO} {Q : State → Prop}
    (hE : ∀ (i : Instr) (r : Option Value) (pc : Nat) (st : List Value) (h : xH) (ks : Nat) (H : Heap) (locs : List Loc) (ls : Array Slot), xexit μ i st = some r → out = (none, r, h, ks) → decode (xmb μ) pc = .ok (i, 1) → hb ≤ h.length → kb ≤ ks → H.size = n0 + h.length → xP D tA (xad old n0) h H → va_S (fun q => n0 ≤ q) s.heap H locs → W p l e R s m args below meth c H locs (h.length - hb) (ks - kb) Q (F0 m pc ls (st.map (xv (xad old n0)))))
    (hT : out.1 = none ∨ (Q = vx_MQ below (xQc D tA old n0 out) (xXc D tA old n0 out) args s (out.2.2.1.length - hb) (out.2.2.2 - kb) (fun q => n0 ≤ q) ∧ (xmh μ = [] → ∀ x ∈ c.exceptionTable.toList, False))) (htab : xmh μ ≠ [] → c.exceptionTable.toList = tableOf (xmh μ))
    (hcall : ∀ μ' as h ks out, call μ' as h ks = some out → (xcod μ' = true ∨ xcow μ' = true) ∧ xMet l D tA old n0 sc' μ' as h ks out) (hmono : ∀ μ' as h ks out, call μ' as h ks = some out → h.length ≤ out.2.2.1.length ∧ ks ≤ out.2.2.2)
    (hx : p.tables.exec = Jvm.exec) (hb9 : c.code = xmb μ) (hml : c.maxLocals = xml μ) (hown : s.vm.findClass (xown (xmo μ)) = some m.cls) (hts : ∀ w ∈ xgw, w.before args s = true) (hnw : ∀ w ∈ xnw, w.before args s = true) (hK : xK D tA s) (hX : xX sc old n0 s) (hX' : xX sc' old n0 s)
    (hini : xini μ = true → meth.name = "<init>") (hn0 : n0 ≤ s.heap.size) (hlocks : meth.locks = false) (hret : meth.sig.returnType = xmr μ) (hZ : xZ old n0 s) (hRf : xmf μ ≤ R.frames) (hRl : xmlo μ ≤ R.locals) (hRc : out.2.2.1.length - hb ≤ R.cells) (hRs : out.2.2.2 - kb ≤ R.slots) (hst : l.stackTraces = false) :
    ∀ (n pc : Nat) (lv : xL) (st : List Value) (h : xH) (ks : Nat), xloop call sc μ (xmo μ) (xml μ) (xini μ) (xmc μ) n pc lv st h ks = some out → hb ≤ h.length → kb ≤ ks →
      xG p l e R s m args below meth c Q D tA old n0 hb kb (xml μ) pc lv st h ks := by
  have hac : ∀ t, t < 3 → (Jvm.Cond.arrayClass (xtT t)).before args s = true := fun t ht => hts _ (xarr_ok ht)
  have hfix : CallFix p m c (xmb μ) (xml μ) s args xgw (xown (xmo μ)) := ⟨hx, hb9, hml, hown, hts⟩
  intro n
  induction n with
  | zero => intro pc lv st h ks he; cases he
  | succ n ih =>
    intro pc lv st h ks he hlb hkb
    have hmn := xloop_mono hmono _ _ _ _ _ _ _ he
    unfold xloop at he
    split at he
    · rename_i i hi
      have hd : ∃ len, decode (xmb μ) pc = .ok (i, len) ∧ (xlen i = 0 ∨ len = xlen i) := by
        have := xchk_ok (xdec μ) hi
        rwa [Nat.zero_add] at this
      have hstep : ∀ (pc' : Nat) (lv' : xL) (st' : List Value) (h' : xH) (ks' : Nat), xstep (xmo μ) (xml μ) (xini μ) sc i pc lv st h ks = some (pc', lv', st', h', ks') → xloop call sc μ (xmo μ) (xml μ) (xini μ) (xmc μ) n pc' lv' st' h' ks' = some out →
          xG p l e R s m args below meth c Q D tA old n0 hb kb (xml μ) pc lv st h ks := fun pc' lv' st' h' ks' hs hl9 => by
        have m1 := xstep_mono hs
        have m2 := xloop_mono hmono _ _ _ _ _ _ _ hl9
        exact x_step hx hb9 hown hts hnw hK hX hini hac hlb hkb hn0 hd hs (by omega) (by omega) (ih pc' lv' st' h' ks' hl9 (by omega) (by omega))
      -- a call that comes back, and the run behind it
      have hback : ∀ (k μ' : Nat) (as rest : List Value) (x : Nat) (r : Option Value) (h' : xH) (ks' : Nat), xinv (xmo μ) μ x st = some (k, μ', as, rest) → call μ' as h ks = some (none, r, h', ks') → ((k = 1 ∧ i = .invokevirtual x ∧ xrecv μ' as h = true ∧ xcod μ' = true) ∨ ((k = 2 ∨ (k = 3 ∧ xcod μ' = true)) ∧ i = .invokestatic x) ∨ ((k = 0 ∨ k = 4) ∧ i = .invokespecial x ∧ xmr μ' = none ∧ xini μ' = true ∧ xcod μ' = true)) →
          xloop call sc μ (xmo μ) (xml μ) (xini μ) (xmc μ) n (pc + 3) lv (r.toList ++ rest) h' ks' = some out →
          xG p l e R s m args below meth c Q D tA old n0 hb kb (xml μ) pc lv st h ks := fun k μ' as rest x r h' ks' hi9 hc9 hk hl9 => by
        have m1 := hmono _ _ _ _ _ hc9
        have m2 := xloop_mono hmono _ _ _ _ _ _ _ hl9
        dsimp only at m1
        obtain ⟨hcd, hM⟩ := hcall _ _ _ _ _ hc9
        obtain ⟨r', hf, hn, hcat, hfr, hlo, hsp⟩ := xinv_ok hi9
        intro H locs ls hz hP hS hl
        have hdg : decode (xmb μ) pc = .ok (i, 3) := by
          rcases hk with ⟨-, rfl, -⟩ | ⟨-, rfl⟩ | ⟨-, rfl, -⟩ <;> exact xdl hd rfl
        have hcd' : xcod μ' = true ∨ (xcow μ' = true ∧ k = 2 ∧ ((none, r, h', ks') : xO).1 = none) := by
          rcases hk with ⟨-, -, -, hk⟩ | ⟨hk | ⟨-, hk⟩, -⟩ | ⟨-, -, -, -, hk⟩
          · exact Or.inl hk
          · exact hcd.imp id (fun q => ⟨q, hk, rfl⟩)
          · exact Or.inl hk
          · exact Or.inl hk
        have hk' : (k = 1 ∧ i = .invokevirtual x ∧ xrecv μ' as h = true) ∨ ((k = 2 ∨ (k = 3 ∧ ((none, r, h', ks') : xO).1 = none)) ∧ i = .invokestatic x) ∨ ((k = 0 ∨ k = 4) ∧ i = .invokespecial x ∧ xmr μ' = none ∧ xini μ' = true ∧ ((none, r, h', ks') : xO).1 = none) := by
          rcases hk with ⟨hk, hi9, hk2, -⟩ | ⟨hk, hi9⟩ | ⟨hk, hi9, hk2, hk3, -⟩
          · exact Or.inl ⟨hk, hi9, hk2⟩
          · exact Or.inr (Or.inl ⟨hk.imp id (fun q => ⟨q.1, rfl⟩), hi9⟩)
          · exact Or.inr (Or.inr ⟨hk, hi9, hk2, hk3, rfl⟩)
        have hrun := x_run (e := e) (below := below) (meth := meth) (R := R) (cells := h.length - hb) (slots := ks - kb) hM hcd' hfix hnw hK hX' hZ hn0 hRf hRl hz hP hS hl hf hn hcat hfr hlo hsp hk' hdg (by dsimp only; omega) (by dsimp only; omega)
        refine x_cret hrun rfl hS (fun H1 locs1 hz1 hP1 hS1 => ?_)
        have := ih (pc + 3) lv (r.toList ++ rest) h' ks' hl9 (by omega) (by omega) H1 locs1 ls hz1 hP1 hS1 hl
        dsimp only
        rw [show h.length - hb + (h'.length - h.length) = h'.length - hb by omega, show ks - kb + (ks' - ks) = ks' - kb by omega, ← List.map_append, List.append_nil]
        exact this
      -- a call that throws
      have hthr : ∀ (k μ' : Nat) (as rest : List Value) (x ci : Nat) (r : Option Value) (h' : xH) (ks' : Nat), xinv (xmo μ) μ x st = some (k, μ', as, rest) → call μ' as h ks = some (some ci, r, h', ks') → ((k = 1 ∧ i = .invokevirtual x ∧ xrecv μ' as h = true) ∨ (k = 2 ∧ i = .invokestatic x)) → xcod μ' = true → xmh μ = [] →
          out = (some ci, none, h', ks') →
          xG p l e R s m args below meth c Q D tA old n0 hb kb (xml μ) pc lv st h ks := fun k μ' as rest x ci r h' ks' hi9 hc9 hk hcd hmh ho => by
        rcases hT with hT | ⟨hT, hnoh⟩
        · rw [ho] at hT
          cases hT
        subst ho
        subst hT
        have m1 := hmono _ _ _ _ _ hc9
        dsimp only at m1 hRc hRs
        obtain ⟨-, hM⟩ := hcall _ _ _ _ _ hc9
        obtain ⟨r', hf, hn, hcat, hfr, hlo, hsp⟩ := xinv_ok hi9
        intro H locs ls hz hP hS hl
        have hdg : decode (xmb μ) pc = .ok (i, 3) := by
          rcases hk with ⟨-, rfl, -⟩ | ⟨-, rfl⟩ <;> exact xdl hd rfl
        have hrun := x_run (e := e) (below := below) (meth := meth) (R := R) (cells := h.length - hb) (slots := ks - kb) hM (Or.inl hcd) hfix hnw hK hX' hZ hn0 hRf hRl hz hP hS hl hf hn hcat hfr hlo hsp (hk.imp id (fun q => Or.inl ⟨Or.inl q.1, q.2⟩)) hdg (by dsimp only; omega) (by dsimp only; omega)
        exact x_cthr hrun rfl hS (hnoh hmh) hlocks (by dsimp only; omega) (by dsimp only; omega)
      -- a call that throws, and is caught here
      have hcat9 : ∀ (k μ' : Nat) (as rest : List Value) (x ci : Nat) (r : Option Value) (h' : xH) (ks' hp pc' j : Nat), xinv (xmo μ) μ x st = some (k, μ', as, rest) → call μ' as h ks = some (some ci, r, h', ks') → ((k = 1 ∧ i = .invokevirtual x ∧ xrecv μ' as h = true) ∨ (k = 2 ∧ i = .invokestatic x)) → xcod μ' = true → xmh μ ≠ [] →
          xctch (xmo μ) μ pc ci (xmc μ) = some (hp, pc', j) → j < xml μ → xloop call sc μ (xmo μ) (xml μ) (xini μ) (xmc μ) n pc' (xdel j lv) [] h' ks' = some out →
          xG p l e R s m args below meth c Q D tA old n0 hb kb (xml μ) pc lv st h ks := fun k μ' as rest x ci r h' ks' hp pc' j hi9 hc9 hk hcd hmh hct hj hl9 => by
        have m1 := hmono _ _ _ _ _ hc9
        have m2 := xloop_mono hmono _ _ _ _ _ _ _ hl9
        dsimp only at m1
        obtain ⟨-, hM⟩ := hcall _ _ _ _ _ hc9
        obtain ⟨r', hf, hn, hcat, hfr, hlo, hsp⟩ := xinv_ok hi9
        intro H locs ls hz hP hS hl
        have hdg : decode (xmb μ) pc = .ok (i, 3) := by
          rcases hk with ⟨-, rfl, -⟩ | ⟨-, rfl⟩ <;> exact xdl hd rfl
        have hrun := x_run (e := e) (below := below) (meth := meth) (R := R) (cells := h.length - hb) (slots := ks - kb) hM (Or.inl hcd) hfix hnw hK hX' hZ hn0 hRf hRl hz hP hS hl hf hn hcat hfr hlo hsp (hk.imp id (fun q => Or.inl ⟨Or.inl q.1, q.2⟩)) hdg (by dsimp only; omega) (by dsimp only; omega)
        exact x_ccat hx hb9 hown hts hnw hZ hrun rfl hS (htab hmh) hct hj hl (by dsimp only; omega) (by dsimp only; omega) (ih pc' (xdel j lv) [] h' ks' hl9 (by omega) (by omega))
      split at he
      -- the five returns
      · split at he
        · rename_i hr9
          intro H locs ls hz hP hS hl
          exact hE _ _ pc st h ks H locs ls hr9 (Option.some.inj he).symm (xdl hd rfl) hlb hkb hz hP hS
        · cases he
      · split at he
        · rename_i hr9
          intro H locs ls hz hP hS hl
          exact hE _ _ pc st h ks H locs ls hr9 (Option.some.inj he).symm (xdl hd rfl) hlb hkb hz hP hS
        · cases he
      · split at he
        · rename_i hr9
          intro H locs ls hz hP hS hl
          exact hE _ _ pc st h ks H locs ls hr9 (Option.some.inj he).symm (xdl hd rfl) hlb hkb hz hP hS
        · cases he
      · split at he
        · rename_i hr9
          intro H locs ls hz hP hS hl
          exact hE _ _ pc st h ks H locs ls hr9 (Option.some.inj he).symm (xdl hd rfl) hlb hkb hz hP hS
        · cases he
      · split at he
        · rename_i hr9
          intro H locs ls hz hP hS hl
          exact hE _ _ pc st h ks H locs ls hr9 (Option.some.inj he).symm (xdl hd rfl) hlb hkb hz hP hS
        · cases he
      -- invokestatic
      · split at he
        · rename_i v rest hm9
          have hk9 := ih (pc + 3) lv (.int v :: rest) h ks he hlb hkb
          intro H locs ls hz hP hS hl
          have hcr : h.length - hb ≤ R.cells ∧ ks - kb ≤ R.slots := ⟨by omega, by omega⟩
          have hml' : c.maxLocals = ls.size := hml.trans hl.1.symm
          unfold xmath at hm9
          split at hm9
          · rename_i r9 hf9
            split at hm9
            · split at hm9
              · rename_i hc9
                cases hm9
                have hw := xcal_ok hf9
                simp only [xcalC, Bool.and_eq_true] at hw
                exact va_mmax hx hb9 hml' hown (hts _ (xig_mem hw.1.1.1)) (hts _ (xig_mem hw.1.1.2)) (hts _ (xig_mem hw.1.2)) (hts _ (xig_mem hw.2)) (Nat.le_trans hc9.2 hRf) (by rw [xcat_m]; exact Nat.le_trans hc9.1 hRl) hcr.1 hcr.2 (xdl hd rfl) (hk9 H locs ls hz hP hS hl)
              · cases hm9
            · cases hm9
          · rename_i r9 hf9
            split at hm9
            · split at hm9
              · rename_i hc9
                cases hm9
                have hw := xcal_ok hf9
                simp only [xcalC, Bool.and_eq_true] at hw
                exact va_mmin hx hb9 hml' hown (hts _ (xig_mem hw.1.1.1)) (hts _ (xig_mem hw.1.1.2)) (hts _ (xig_mem hw.1.2)) (hts _ (xig_mem hw.2)) (Nat.le_trans hc9.2 hRf) (by rw [xcat_m]; exact Nat.le_trans hc9.1 hRl) hcr.1 hcr.2 (xdl hd rfl) (hk9 H locs ls hz hP hS hl)
              · cases hm9
            · cases hm9
          · rename_i r9 hf9
            split at hm9
            · split at hm9
              · rename_i hc9
                cases hm9
                have hw := xcal_ok hf9
                simp only [xcalC, Bool.and_eq_true] at hw
                exact va_mabs hx hb9 hml' hown (hts _ (xig_mem hw.1.1.1)) (hts _ (xig_mem hw.1.1.2)) (hts _ (xig_mem hw.1.2)) (hts _ (xig_mem hw.2)) (Nat.le_trans hc9.2 hRf) (by rw [xcat_m]; exact Nat.le_trans hc9.1 hRl) hcr.1 hcr.2 (xdl hd rfl) (hk9 H locs ls hz hP hS hl)
              · cases hm9
            · cases hm9
          · cases hm9
        · split at he
          · rename_i hi9
            split at he
            · rename_i hk9
              split at he
              · rename_i hc9
                exact hback _ _ _ _ _ _ _ _ hi9 hc9 (Or.inr (Or.inl ⟨Or.inl hk9, rfl⟩)) he
              · rename_i hc9
                split at he
                · rename_i hcd
                  split at he
                  · rename_i hmh
                    exact hthr _ _ _ _ _ _ _ _ _ hi9 hc9 (Or.inr ⟨hk9, rfl⟩) hcd hmh (Option.some.inj he).symm
                  · rename_i hmh
                    split at he
                    · rename_i hct
                      split at he
                      · rename_i hj
                        exact hcat9 _ _ _ _ _ _ _ _ _ _ _ _ hi9 hc9 (Or.inr ⟨hk9, rfl⟩) hcd hmh hct hj he
                      · cases he
                    · cases he
                · cases he
              · cases he
            · split at he
              · rename_i hk9
                split at he
                · rename_i hc9
                  exact hback _ _ _ _ _ _ _ _ hi9 hc9 (Or.inr (Or.inl ⟨Or.inr hk9, rfl⟩)) he
                · cases he
              · cases he
          · cases he
      -- invokevirtual
      · split at he
        · rename_i hi9
          split at he
          · rename_i hk9
            split at he
            · rename_i hc9
              exact hback _ _ _ _ _ _ _ _ hi9 hc9 (Or.inl ⟨hk9.1, rfl, hk9.2.1, hk9.2.2⟩) he
            · rename_i hc9
              split at he
              · rename_i hmh
                exact hthr _ _ _ _ _ _ _ _ _ hi9 hc9 (Or.inl ⟨hk9.1, rfl, hk9.2.1⟩) hk9.2.2 hmh (Option.some.inj he).symm
              · rename_i hmh
                split at he
                · rename_i hct
                  split at he
                  · rename_i hj
                    exact hcat9 _ _ _ _ _ _ _ _ _ _ _ _ hi9 hc9 (Or.inl ⟨hk9.1, rfl, hk9.2.1⟩) hk9.2.2 hmh hct hj he
                  · cases he
                · cases he
            · cases he
          · cases he
        · cases he
      -- invokespecial
      · split at he
        · rename_i hf9
          split at he
          · split at he
            · rename_i hc9
              have hk9 := ih (pc + 3) lv _ h ks he hlb hkb
              intro H locs ls hz hP hS hl
              have hw := xcal_ok hf9
              simp only [xcalC, Bool.and_eq_true] at hw
              exact W.objInit hx hb9 hown (hts _ (xig_mem hw.1.1)) (hts _ (xig_mem hw.1.2)) (hts _ (xig_mem hw.2)) rfl (by rw [hml]; exact hl.1) rfl (xdl hd rfl) (Nat.le_trans hc9.2 hRf) (by rw [xcat_m]; show 2 * 0 + _ + 12 ≤ _; omega) (hk9 H locs ls hz hP hS hl)
            · cases he
          · cases he
        · split at he
          · rename_i hi9
            split at he
            · rename_i hk9
              split at he
              · rename_i hc9
                exact hback _ _ _ _ _ _ _ _ hi9 hc9 (Or.inr (Or.inr ⟨hk9.1, rfl, hk9.2.1, hk9.2.2.1, hk9.2.2.2⟩)) he
              · cases he
            · cases he
          · cases he
      -- getstatic
      · split at he
        · rename_i hf9
          have hw := xgst_ok hf9
          unfold xgstC at hw
          simp only [Bool.and_eq_true] at hw
          have hk9 := ih (pc + 3) lv _ h ks he hlb hkb
          intro H locs ls hz hP hS hl
          exact va_gets hx hb9 (hZ.2.2.2.2 hw.1).1 hS hown (hts _ (xig_mem hw.2)) (fun _ h9 => h9) (xdl hd rfl) (hk9 H locs ls hz hP hS hl)
        · cases he
      -- invokeinterface
      · split at he
        · rename_i hf9
          split at he
          · split at he
            · rename_i hc8
              split at he
              · rename_i hc9
                have m1 := hmono _ _ _ _ _ hc9
                have m2 := xloop_mono hmono _ _ _ _ _ _ _ he
                dsimp only at m1
                intro H locs ls hz hP hS hl
                refine x_itf (hcall _ _ _ _ _ hc9).2 hc8.2.2.2.2 hfix hnw hK hX' hZ hn0 hRf hRl hz hP hS hl hf9 hc8.1 hc8.2.1 hc8.2.2.1 hc8.2.2.2.1 (xdl hd rfl) (by omega) (by omega) (fun H1 locs1 hz1 hP1 hS1 => ?_)
                have := ih _ _ _ _ _ he (by omega) (by omega) H1 locs1 ls hz1 hP1 hS1 hl
                have a1 : ∀ a b d : Nat, a ≤ b → b ≤ d → b - a + (d - b) = d - a := fun a b d _ _ => by omega
                rw [a1 _ _ _ hlb m1.1, a1 _ _ _ hkb m1.2]
                exact this
              · cases he
            · cases he
          · cases he
        · cases he
      · split at he
        · rename_i hm9
          have m2 := xloop_mono hmono _ _ _ _ _ _ _ he
          rw [List.length_append] at m2
          exact x_mul hx hb9 hown hts hnw hK hac hlb hkb (xdl hd rfl) hm9 (by rw [List.length_append]; omega) (by omega) (ih _ _ _ _ _ he (by rw [List.length_append]; omega) (by omega))
        · cases he
      · split at he
        · rename_i ci r9 ht9
          split at he
          · split at he
            · rename_i hmh
              rcases hT with hT | ⟨hT, hnoh⟩
              · have ho := (Option.some.inj he).symm
                rw [ho] at hT
                cases hT
              · have ho := (Option.some.inj he).symm
                subst ho
                subst hT
                exact x_thr hx hb9 hml hown hts hnw hK hZ (hnoh hmh) hlocks hst hRf hRl hlb hkb ht9 hRc hRs
            · cases he
          · cases he
        · split at he
          · rename_i hs
            exact hstep _ _ _ _ _ hs he
          · cases he
      · split at he
        · rename_i hs
          exact hstep _ _ _ _ _ hs he
        · cases he
    · cases he
theorem x_head {l : Launch} {D : va_G} {tA : Nat → ClassId} {old : Nat → Nat} {n0 : Nat} {sc : Option (List Int32)} {call : Nat → List Value → xH → Nat → Option xO} {F μ : Nat} {as : List Value} {h : xH} {ks : Nat} {out : xO} {S : Spec}
    (hst : l.stackTraces = false) (hc : xcod μ = true ∨ xcow μ = true) (hle : (lg_sl as).length ≤ xml μ) (he : xloop call sc μ (xmo μ) (xml μ) (xini μ) (xmc μ) F 0 (lv_args 0 as) [] h ks = some out)
    (ih : ∀ μ' as h ks out, call μ' as h ks = some out → (xcod μ' = true ∨ xcow μ' = true) ∧ xMet l D tA old n0 sc μ' as h ks out) (hmono : ∀ μ' as h ks out, call μ' as h ks = some out → h.length ≤ out.2.2.1.length ∧ ks ≤ out.2.2.2)
    (p : Program) (e : Env) (s : State) (m : MethodId) (args : Array Value) (below : List Frame) (meth : Method) (c : Code) (s₁ : State) (B : BodyLoose p l (xmy μ) S (xmb μ) (xml μ) (xmr μ) e s m args below meth c s₁)
    (hpre : ∀ w ∈ xgw, w.before args s = true) (hml : c.maxLocals = xml μ) (hnoh : xmh μ = [] → ∀ x ∈ c.exceptionTable.toList, False) (htab : xmh μ ≠ [] → c.exceptionTable.toList = tableOf (xmh μ)) (hv : va_Pc (as.map (xv (xad old n0))) (xPc D tA old n0 sc h) args s) :
    W p l e { frames := xmf μ, cells := out.2.2.1.length - h.length, slots := out.2.2.2 - ks, locals := xmlo μ } s m args below meth c s.heap [] 0 0 (vx_MQ below (xQc D tA old n0 out) (xXc D tA old n0 out) args s (out.2.2.1.length - h.length) (out.2.2.2 - ks) (fun q => n0 ≤ q)) (entryFrame m args (xml μ)) := by
  obtain ⟨m1, -, -, -, m5, m6⟩ := xmet_ok hc
  have hmn := xloop_mono hmono _ _ _ _ _ _ _ he
  obtain ⟨rfl, hz, hP, hK, hN, hX, hZ⟩ := hv
  have hl := lv_entry (as.map (xv (xad old n0))) (n := xml μ) (by rw [xlg_m]; exact hle)
  rw [lg_entry_eq]
  generalize (lg_sl (as.map (xv (xad old n0))) ++ List.replicate (xml μ - (lg_sl (as.map (xv (xad old n0)))).length) Slot.unset).toArray = ls at hl ⊢
  have hG := x_loop (p := p) (l := l) (e := e) (R := { frames := xmf μ, cells := out.2.2.1.length - h.length, slots := out.2.2.2 - ks, locals := xmlo μ }) (s := s) (m := m) (args := (as.map (xv (xad old n0))).toArray) (below := below) (meth := meth) (c := c) (D := D) (tA := tA) (old := old) (n0 := n0) (hb := h.length) (kb := ks) (μ := μ) (sc := sc) (sc' := sc) (out := out)
    (x_end B.exec B.bytes B.notSynchronized B.returns) (Or.inr ⟨rfl, hnoh⟩) htab ih hmono B.exec B.bytes hml (by rw [m5]; exact findClass_of_methodNamed B.named) hpre (fun w hw => xnw_use hw (hN w hw)) hK hX hX (fun hi => (name_of_methodNamed B.named B.method).1.trans (m6 hi)) (by omega) B.notSynchronized B.returns hZ (Nat.le_refl _) (Nat.le_refl _) (Nat.le_refl _) (Nat.le_refl _) hst
    _ _ _ _ _ _ he (Nat.le_refl _) (Nat.le_refl _) s.heap [] ls hz hP va_S.rf (by rw [← xlv_m]; exact hl)
  rw [Nat.sub_self, Nat.sub_self] at hG
  exact hG
set_option maxRecDepth 100000 in
theorem xmh_all : (List.range xNM).all (fun μ => xcow μ || (xmh μ).isEmpty) = true := by decide +kernel
theorem xmh_cod {μ : Nat} (h : xcod μ = true) : xmh μ = [] := by
  have h1 := List.all_eq_true.mp xmh_all μ (List.mem_range.mpr (xcod_lt h))
  rw [Bool.or_eq_true] at h1
  exact h1.elim (fun h2 => absurd h2 (xcodw h)) List.isEmpty_iff.mp
/-- THE LAW OF THE LISTS: what a call says on lists, the machine does -/
theorem x_meth {F : Nat} {sc : Option (List Int32)} {l : Launch} {D : va_G} {tA : Nat → ClassId} {old : Nat → Nat} {n0 : Nat} (hst : l.stackTraces = false) : ∀ (d μ : Nat) (as : List Value) (h : xH) (ks : Nat) (out : xO), xcall F sc d μ as h ks = some out → (xcod μ = true ∨ xcow μ = true) ∧ xMet l D tA old n0 sc μ as h ks out := by
  intro d
  induction d with
  | zero => intro μ as h ks out he; cases he
  | succ d ih =>
    intro μ as h ks out he
    unfold xcall at he
    split at he
    · rename_i hc
      obtain ⟨hcw, hle⟩ := hc
      refine ⟨hcw, ?_⟩
      have m1 := (xmet_ok hcw).1
      have hmono := fun μ as h ks out q => xcall_mono (F := F) (sc := sc) d μ as h ks out q
      rcases hcw with hcd | hcw
      · refine vx_ofW (cc := xmb μ) (maxL := xml μ) (ret := xmr μ) m1 (xws_c hcd) ?_
        intro p e s m args below meth c s₁ B hml hnoh hv
        exact x_head hst (Or.inl hcd) hle he ih hmono p e s m args below meth c s₁ B (fun w hw => atoms_spec (ws := xws μ) B.pre w (by rw [xws_c hcd]; exact List.mem_cons_of_mem _ hw)) hml (fun _ => hnoh) (fun hne => absurd (xmh_cod hcd) hne) hv
      · refine vx_ofWH (cc := xmb μ) (maxL := xml μ) (ret := xmr μ) (hh := xmh μ) m1 (xws_w hcw) ?_
        intro p e s m args below meth c s₁ B hml hv
        have ht := vx_table (x := xmy μ) B (atoms_spec (ws := xws μ) B.pre (.codeWith (xmy μ) (xmb μ) (xml μ) (xmr μ) (xmh μ)) (by rw [xws_w hcw]; exact List.mem_cons_self))
        exact x_head hst (Or.inr hcw) hle he ih hmono p e s m args below meth c s₁ B (fun w hw => atoms_spec (ws := xws μ) B.pre w (by rw [xws_w hcw]; exact List.mem_cons_of_mem _ hw)) hml (fun h0 x hx => by rw [ht, h0] at hx; cases hx) (fun _ => ht) hv
    · cases he
end XLO
end
section
/-! the law's start: what the Statement gives, in the lists' words -/
section XST
set_option maxRecDepth 100000 in
theorem xins_all : (List.range xcl.length).all (fun ci => match xcl[ci]? with | some (C, _, _) => xinsT.any (fun q => Nat.beq q.1 ci && xig (.instantiable C q.2.1) q.2.2) | none => false) = true := by decide +kernel
theorem xD_ok {args : Array Value} {s : State} (hts : ∀ w ∈ xgw, w.before args s = true) : ∃ D : va_G, va_K D xcl [] s := by
  have h1 : ∀ ci : Nat, ∃ (c : ClassId) (iS : Nat → Nat), ∀ q : vw_C, xcl[ci]? = some q → u_Kn s q.1 q.2.1 q.2.2 c iS := by
    intro ci
    cases hc : xcl[ci]? with
    | none => exact ⟨0, fun _ => 0, fun q hq => by cases hq⟩
    | some q =>
      obtain ⟨C, T, N⟩ := q
      obtain ⟨hin, -⟩ := xcls_ok hc
      have hlt : ci < xcl.length := (List.getElem?_eq_some_iff.mp hc).1
      have h2 := List.all_eq_true.mp xins_all ci (List.mem_range.mpr hlt)
      rw [hc] at h2
      obtain ⟨z, -, hz⟩ := List.any_eq_true.mp h2
      rw [Bool.and_eq_true] at hz
      obtain ⟨c, iS, hk⟩ := u_known (C := C) (T := T) (N := N) hts hin (hts _ (xig_mem hz.2))
      exact ⟨c, iS, fun q hq => by cases hq; exact hk⟩
  refine ⟨(fun ci => (h1 ci).choose, fun ci => (h1 ci).choose_spec.choose), fun ci q hq => (h1 ci).choose_spec.choose_spec q hq, fun k q h => by simp at h⟩
theorem xtA_ok {args : Array Value} {s : State} (hts : ∀ w ∈ xgw, w.before args s = true) (hnw : ∀ w ∈ xnw, w.before args s = true) : ∃ tA : Nat → ClassId, ∀ t, t < 6 → s.vm.findClass ("[" ++ (xtT t).toString) = some (tA t) ∧ ∃ (k : Class) (comp : ClassId), s.vm.classes[tA t]? = some k ∧ k.kind = .array comp (xtT t) ∧ (3 ≤ t → comp = tA (xcomp t)) := by
  have ha : ∀ t, t < 3 → ∃ (c : ClassId) (k : Class) (cc : ClassId), s.vm.findClass ("[" ++ (xtT t).toString) = some c ∧ s.vm.classes[c]? = some k ∧ k.kind = .array cc (xtT t) := fun t ht => Cond.arrayClass_spec (hts _ (xarr_ok ht))
  have hb : ∀ t, 3 ≤ t → t < 6 → ∃ (comp c : ClassId) (k : Class), s.vm.findClass ("[" ++ (xtT (xcomp t)).toString) = some comp ∧ s.vm.classes[c]? = some k ∧ k.kind = .array comp (xtT t) ∧ s.vm.findClass ("[" ++ (xtT t).toString) = some c := fun t h3 h6 => by
    rcases (show t = 3 ∨ t = 4 ∨ t = 5 by omega) with rfl | rfl | rfl
    · exact Cond.arrayOver_specA (hnw _ (xover_ok (t := 3) (by simp)))
    · exact Cond.arrayOver_specA (hnw _ (xover_ok (t := 4) (by simp)))
    · exact Cond.arrayOver_specA (hnw _ (xover_ok (t := 5) (by simp)))
  have hf : ∀ t, ∃ c : ClassId, t < 6 → s.vm.findClass ("[" ++ (xtT t).toString) = some c := fun t => by
    by_cases h3 : t < 3
    · obtain ⟨c, k, cc, h, -⟩ := ha t h3
      exact ⟨c, fun _ => h⟩
    · by_cases h6 : t < 6
      · obtain ⟨comp, c, k, -, -, -, h⟩ := hb t (by omega) h6
        exact ⟨c, fun _ => h⟩
      · exact ⟨0, fun q => absurd q h6⟩
  refine ⟨fun t => (hf t).choose, fun t ht => ⟨(hf t).choose_spec ht, ?_⟩⟩
  by_cases h3 : t < 3
  · obtain ⟨c, k, cc, h, h2, h4⟩ := ha t h3
    have e : c = (hf t).choose := Option.some.inj (h.symm.trans ((hf t).choose_spec ht))
    subst e
    exact ⟨k, cc, h2, h4, fun q => absurd q (by omega)⟩
  · obtain ⟨comp, c, k, g1, g2, g3, g4⟩ := hb t (by omega) ht
    have e : c = (hf t).choose := Option.some.inj (g4.symm.trans ((hf t).choose_spec ht))
    subst e
    refine ⟨k, comp, g2, g3, fun _ => ?_⟩
    have hx : xcomp t < 6 := by unfold xcomp; split <;> omega
    exact Option.some.inj (g1.symm.trans ((hf (xcomp t)).choose_spec hx))
set_option maxRecDepth 100000 in
theorem xstr_all : xstrT.all (fun q => lw_tbl.any (fun w => decide (w = Jvm.Cond.stringRef (xown q.1) q.2.1 q.2.2))) = true := by decide +kernel
set_option maxRecDepth 100000 in
theorem xown_cls : xstrT.all (fun q => decide (Jvm.Cond.initialized (xown q.1) ∈ lw_tbl)) = true := by decide +kernel
set_option maxRecDepth 100000 in
theorem xzw : Jvm.Cond.laysStatic Bundle.tN "UNASSIGNED_STACK" Bundle.steD ∈ lw_tbl ∧ Jvm.Cond.laysStatic Bundle.tN "SUPPRESSED_SENTINEL" Bundle.listD ∈ lw_tbl ∧ Jvm.Cond.initialized Bundle.tN ∈ lw_tbl := by decide +kernel
set_option maxRecDepth 100000 in
theorem xncw_all : xncT.all (fun q => (flatC (Jvm.Cond.and given_1 narrow_1)).any (fun w => decide (w = Jvm.Cond.not (.castable q.1 q.2)))) = true := by decide +kernel
abbrev xALn : String := "java/util/ArrayList"
abbrev xDEn : String := "DEFAULTCAPACITY_EMPTY_ELEMENTDATA"
abbrev xDEd : String := "[Ljava/lang/Object;"
set_option maxRecDepth 100000 in
theorem xalw : xal = true → (Jvm.Cond.laysStatic xALn xDEn xDEd ∈ lw_tbl ∧ Jvm.Cond.initialized xALn ∈ lw_tbl ∧ Jvm.Cond.exactly (.static xALn xDEn xDEd) xDEd ∈ flatC (Jvm.Cond.and given_1 narrow_1) ∧ Jvm.Cond.declares xLs ∈ lw_tbl ∧ Jvm.Cond.interfaceMethod xLs.cls xLs.cls xLs.name xLs.desc ∈ lw_tbl ∧ Jvm.Cond.publicMethod xAs ∈ lw_tbl ∧ Jvm.Cond.unhidden xALn xLs.name xLs.desc ∈ lw_tbl ∧ Jvm.Cond.castable xALn xLs.cls ∈ lw_tbl) := by decide +kernel
theorem xZ_ok {args : Array Value} {s : State} (htl : ∀ w ∈ lw_tbl, w.before args s = true) (hgv : (Jvm.Cond.and given_1 narrow_1).before args s = true) (hcl : ∀ q ∈ xstrT, ∃ c, s.vm.findClass (xown q.1) = some c) : ∃ a1 : Nat, ∀ old : Nat → Nat, old 1 = a1 → xZ old s.heap.size s := by
  have hs := flat_of_before _ hgv
  have hal : ∃ a1 : Nat, xal = true → va_Z "java/util/ArrayList" "DEFAULTCAPACITY_EMPTY_ELEMENTDATA" "[Ljava/lang/Object;" (.ref a1) (fun q => s.heap.size ≤ q) s s.heap ∧ va_Fw "java/util/ArrayList" xLs xAs s := by
    rcases hx : xal with _ | _
    · exact ⟨0, fun q => by cases q⟩
    · obtain ⟨w1, w2, w3, w4, w5, w6, w7, w8⟩ := xalw hx
      obtain ⟨a, c, cell, k, q1, -⟩ := Cond.exactly_spec (hs _ w3)
      exact ⟨a, fun _ => ⟨va_Zof (htl _ w1) (htl _ w2) q1 (fun a ha h => by omega), va_Fw.of (htl _ w4) (htl _ w5) (htl _ w6) (htl _ w7) (htl _ w8)⟩⟩
  obtain ⟨a1, hal⟩ := hal
  refine ⟨a1, fun old ho => ⟨vx_Zqof (htl _ xzw.1) (htl _ xzw.2.2) (hs _ (by decide +kernel)) (fun a ha h => by omega), vx_Zqof (htl _ xzw.2.1) (htl _ xzw.2.2) (hs _ (by decide +kernel)) (fun a ha h => by omega), fun q hq => ?_, fun q hq => ?_, by rw [ho]; exact hal⟩⟩
  · obtain ⟨w, hw, he⟩ := List.any_eq_true.mp (List.all_eq_true.mp xstr_all q hq)
    have := of_decide_eq_true he
    subst this
    have h1 := htl _ hw
    obtain ⟨cur, hcur⟩ := hcl q hq
    obtain ⟨-, -, -, a, -, -, -, -, -, hev⟩ := Cond.stringRef_spec hcur (show (Jvm.Cond.stringRef (xown q.1) q.2.1 q.2.2).holds args s none s [] = true from h1)
    exact ⟨a, vk_R.of h1 hev⟩
  · obtain ⟨w, hw, he⟩ := List.any_eq_true.mp (List.all_eq_true.mp xncw_all q hq)
    have := of_decide_eq_true he
    subst this
    exact va_Nc.of (hs _ hw)
end XST
end
section
-- ===== end of PART A; then your names; then what follows =====
/-! THE CLAIM OUT OF ONE WALK OF THE LAW'S BODY. Your part is whole_start (and what it stands on); all else here is the same for every law, but numbers. -/
def R_law : String := "SkateSheetLaw"
def lw_P (b : Addr) (xs : List Int32) (args : Array Value) (s : State) : Prop := args = #[.ref b] ∧ s.IntsAt b xs ∧ xs.length ≤ 6 ∧ (Jvm.Cond.and given_1 narrow_1).before args s = true
/-- what a walk over the start with the record d0 says of its end, said of the start itself -/
theorem lw_closed {s t : State} {o : Outcome} {d0 : Drawn} {L : List Loc} {k n : Nat} (hd0 : s.drawn.sameBut d0 lw_cs) (hv : ∃ v, o = .returned v) (hW : (s.setDrawn d0).WarmedH t.vm) (hs : (s.setDrawn d0).sameButNew ({ t with vm := s.vm } : State) L k n) : State.butDraws s t lw_cs (fun t1 => Framed s o t1 L k n) := by
  have h2 : t.drawn = d0 := congrArg State.drawn hs.1
  refine ⟨⟨hv, hW, State.sameButNew.setDrawn hs s.drawn⟩, ?_, by decide⟩
  rw [h2]
  exact hd0
def lw_Q (_ : Array Value) (s : State) (o : Outcome) (t : State) : Prop := o = .returned (some (.int 1)) ∧ State.butDraws s t lw_cs (fun t1 => Framed s o t1 [] 600002 7302232)
def lw_Z (below : List Frame) (a : Array Value) (s : State) : State → Prop := fun t => ∃ o, t.status = .running ∧ Ended t below o ∧ lw_Q a s o t
/-- the law's own end, with 1 on the stack, nothing written that was there before, its room as the claim has it; d0: the record of draws at this point (at the entry s.drawn: begin with 'refine W.base ?_' and 'have hd0 := Drawn.sameBut.refl s.drawn lw_cs') -/
theorem lw_ret {p : Program} {l : Launch} {e : Env} {s : State} {m : MethodId} {below : List Frame} {meth : Method} {c : Code} {b : Nat} {d0 : Drawn} (hd0 : s.drawn.sameBut d0 lw_cs) (hx : p.tables.exec = Jvm.exec) (hb : c.code = code) (hr : meth.sig.returnType = ret) (hlocks : meth.locks = false) {pc : Nat} {H : Heap} {ls : Array Slot} (hdg : decode code pc = .ok (.ireturn, 1)) : W p l e room_1 (s.setDrawn d0) m #[Value.ref b] below meth c H [] 600002 7302232 (lw_Z below #[Value.ref b] s) (F0 m pc ls [.int 1]) := by
  intro T hT X
  obtain ⟨fs, hret, hrun, hended, hW, hframe⟩ := X.leave (v := some (.int 1)) (hlocks := hlocks) (fun h => by rw [hr] at h; cases h)
  have hmeth' : T.vm.method? m = some meth := X.method'
  refine ⟨T.setFrames fs, ?_, .returned (some (.int 1)), hrun, hended, rfl, lw_closed hd0 ⟨_, rfl⟩ hW hframe⟩
  jvm_step X.here [X.here.top, hx, hb, hdg, hmeth', hr, ret, narrow_b1]
  (try refine ⟨rfl, ?_⟩); (try refine ⟨rfl, ?_⟩)
  first | (intro acts; rw [hret _ acts rfl rfl rfl]) | rw [hret _ _ rfl rfl rfl]
  exact Steps.refl _
/-- what holds at the law's entry: the machine, the code, the tables' words (any of lw_tbl by 'hts w (by decide +kernel)'), the script of L ints xs at the cell b, what the Statement gives of the start (any of its parts by flat_of_before) -/
def lw_At (p : Program) (s : State) (m : MethodId) (meth : Method) (c : Code) (b L : Nat) (xs : Nat → Int32) : Prop :=
  p.tables.exec = Jvm.exec ∧ c.code = code ∧ meth.sig.returnType = ret ∧ c.maxLocals = 9 ∧ s.vm.findClass R_law = some m.cls ∧ (∀ w ∈ lw_tbl, w.before #[Value.ref b] s = true) ∧ va_X b L xs s s.heap ∧ b < s.heap.size ∧ meth.locks = false ∧ (Jvm.Cond.and given_1 narrow_1).before #[Value.ref b] s = true
end
section
section XLW
set_option maxRecDepth 100000 in
theorem xstr_own : xstrT.all (fun q => match xcl[q.1]? with | some (C, _, _) => decide (C = xown q.1) | none => false) = true := by decide +kernel
theorem xcb {l : Launch} (hflags : l.flags = flags0) : l.stackTraces = false := by
  unfold Launch.stackTraces
  rw [hflags]
  decide
theorem xlaw_mh : xmh xlaw = [] := by decide
set_option maxHeartbeats 4000000 in
/-- the law's body, out of its run on lists -/
theorem x_law {p : Program} {e : Env} {s : State} {m : MethodId} {below : List Frame} {meth : Method} {c : Code} (l : Launch) (hflags : l.flags = flags0) {b L : Nat} {xs : Nat → Int32} (C0 : lw_At p s m meth c b L xs) {scl : List Int32} (hlen : scl.length = L) (hxs : ∀ j, j < L → xs j = scl.getD j 0) {F d n : Nat} {h' : xH} {ks' : Nat}
    (he : xloop (xcall F none d) (some scl) xlaw (xmo xlaw) (xml xlaw) (xini xlaw) (xmc xlaw) n 0 [(0, .ref 0)] [] [] 0 = some (none, some (.int 1), h', ks')) (hc : h'.length ≤ room_1.cells) (hs : ks' ≤ room_1.slots) :
    W p l e room_1 s m #[Value.ref b] below meth c s.heap [] 0 0 (lw_Z below #[Value.ref b] s) (entryFrame m ([Value.ref b] : List Value).toArray 9) := by
  obtain ⟨hx, hb, hr, hml, hown, hts, hX, hbl, hlocks, hgv⟩ := C0
  have hg : ∀ w ∈ xgw, w.before #[Value.ref b] s = true := fun w hw => hts w (List.mem_filter.mp hw).1
  have hn : ∀ w ∈ xnw, w.before #[Value.ref b] s = true := fun w hw => hts w (List.mem_filter.mp hw).1
  obtain ⟨D, hD⟩ := xD_ok hg
  obtain ⟨tA, htA⟩ := xtA_ok hg hn
  have hK : xK D tA s := ⟨hD, htA⟩
  obtain ⟨a1, hZ⟩ := xZ_ok hts hgv (fun q hq => by
    have h1 := List.all_eq_true.mp xstr_own q hq
    split at h1
    · rename_i C T N hc9
      obtain ⟨-, hfc, -⟩ := hD.1 _ _ hc9
      rw [← of_decide_eq_true h1]
      exact ⟨_, hfc⟩
    · cases h1)
  have hXX : xX (some scl) (fun k => if k = 0 then b else a1) s.heap.size s := by
    refine ⟨?_, hbl⟩
    obtain ⟨scr, g1, g2, g3, g4, g5⟩ := hX
    exact ⟨scr, g1, g2, g3, by rw [hlen]; exact g4, fun j hj => by rw [g5 j (by rw [← hlen]; exact hj), hxs j (by rw [← hlen]; exact hj)]⟩
  have hl := lv_entry ([.ref b]) (n := 9) (Nat.le_of_ble_eq_true rfl)
  rw [lg_entry_eq]
  generalize (lg_sl ([.ref b]) ++ List.replicate (9 - (lg_sl ([.ref b])).length) Slot.unset).toArray = ls at hl ⊢
  have hst := xcb hflags
  have hG := x_loop (p := p) (l := l) (e := e) (R := room_1) (s := s) (m := m) (args := #[Value.ref b]) (below := below) (meth := meth) (c := c) (D := D) (tA := tA) (old := fun k => if k = 0 then b else a1) (n0 := s.heap.size) (hb := 0) (kb := 0) (μ := xlaw) (sc := some scl) (sc' := none) (out := (none, some (.int 1), h', ks')) (Q := lw_Z below #[Value.ref b] s) (call := xcall F none d)
    (fun i r pc st h ks H locs ls hr9 ho hd9 _ _ hz hP hS => by
      cases ho
      have hi : i = .ireturn ∧ st = [.int 1] := by
        cases i <;> first | (simp [xexit] at hr9; done) | skip
        case ireturn =>
          obtain ⟨v, t, rfl, ht, hn9, hv⟩ := xexit_i hr9
          cases hv
          exact ⟨rfl, rfl⟩
        case lreturn => obtain ⟨v, rfl, ht, hv⟩ := xexit_l hr9; cases hv
        case dreturn => obtain ⟨v, rfl, ht, hv⟩ := xexit_d hr9; cases hv
        case areturn => obtain ⟨v, t, rfl, ht, hrt, hv⟩ := xexit_a hr9; cases hv
        case return_ => obtain ⟨rfl, ht, hv⟩ := xexit_v hr9; cases hv
      obtain ⟨rfl, rfl⟩ := hi
      refine va_forget (fun q hq => hS.2.2 q hq) ?_
      refine W.widen (k := room_1.cells) (n := room_1.slots) (by rw [Nat.sub_zero]; exact hc) (by rw [Nat.sub_zero]; exact hs) ?_
      exact lw_ret (d0 := s.drawn) (Drawn.sameBut.refl s.drawn lw_cs) hx hb hr hlocks hd9)
    (Or.inl rfl) (fun hne => absurd xlaw_mh hne) (fun μ' as h ks out q => x_meth hst d μ' as h ks out q) (fun μ' as h ks out q => xcall_mono d μ' as h ks out q) hx hb hml hown hg hn hK hXX trivial (fun q => by cases q) (Nat.le_refl _) hlocks hr (hZ _ rfl) (by decide) (by decide) (by show h'.length - 0 ≤ _; rw [Nat.sub_zero]; exact hc) (by show ks' - 0 ≤ _; rw [Nat.sub_zero]; exact hs) hst
    n 0 [(0, .ref 0)] [] [] 0 he (Nat.le_refl _) (Nat.le_refl _) s.heap [] ls rfl (fun k e9 h9 => by simp at h9) va_S.rf hl
  exact hG
end XLW
end
section
/-! more fuel, the same answer -/
section XFU
set_option maxHeartbeats 4000000 in
theorem xloop_fuel {call call' : Nat → List Value → xH → Nat → Option xO} (hcall : ∀ μ as h ks out, call μ as h ks = some out → call' μ as h ks = some out) {sc : Option (List Int32)} {μ o nL : Nat} {ini : Bool} {cod : List (Option Instr)} :
    ∀ (n n' pc : Nat) (lv : xL) (st : List Value) (h : xH) (ks : Nat) (out : xO), n ≤ n' → xloop call sc μ o nL ini cod n pc lv st h ks = some out → xloop call' sc μ o nL ini cod n' pc lv st h ks = some out := by
  intro n
  induction n with
  | zero => intro n' pc lv st h ks out hn he; cases he
  | succ n ih =>
    intro n' pc lv st h ks out hn he
    obtain ⟨n', rfl⟩ : ∃ k, n' = k + 1 := ⟨n' - 1, by omega⟩
    have ih' := fun pc lv st h ks out => ih n' pc lv st h ks out (by omega)
    clear ih
    unfold xloop at he ⊢
    clear hn
    repeat' split at he
    all_goals first
      | (cases he; done)
      | (have ih9 := ih' _ _ _ _ _ _ he; clear he ih' hcall; simp only [*, ↓reduceIte, and_self, true_or, or_true]; done)
      | (have hc := hcall _ _ _ _ _ (by assumption); have ih9 := ih' _ _ _ _ _ _ he; clear he ih' hcall; simp only [*, ↓reduceIte, and_self]; done)
      | (have hc := hcall _ _ _ _ _ (by assumption); clear ih' hcall; simp only [*, ↓reduceIte, and_self]; done)
      | (clear ih' hcall; simp only [*, ↓reduceIte, and_self]; done)
      | (rename_i hk3 _ _ _ _ _; obtain ⟨hk3, hcd⟩ := hk3; subst hk3; have hc := hcall _ _ _ _ _ (by assumption); have ih9 := ih' _ _ _ _ _ _ he; clear he ih' hcall; simp only [*, ↓reduceIte, and_self, Nat.reduceEqDiff]; done)
theorem xcall_fuel {F F' : Nat} {sc : Option (List Int32)} (hF : F ≤ F') : ∀ (d d' μ : Nat) (as : List Value) (h : xH) (ks : Nat) (out : xO), d ≤ d' → xcall F sc d μ as h ks = some out → xcall F' sc d' μ as h ks = some out := by
  intro d
  induction d with
  | zero => intro d' μ as h ks out hd he; cases he
  | succ d ih =>
    intro d' μ as h ks out hd he
    obtain ⟨d', rfl⟩ : ∃ k, d' = k + 1 := ⟨d' - 1, by omega⟩
    unfold xcall at he ⊢
    split at he
    · rename_i hc
      rw [if_pos hc]
      exact xloop_fuel (fun μ as h ks out q => ih d' μ as h ks out (by omega) q) F F' _ _ _ _ _ _ hF he
    · cases he
/-- a method's run, whatever the fuel -/
def Cx (sc : Option (List Int32)) (μ : Nat) (as : List Value) (h : xH) (ks : Nat) (out : xO) : Prop := ∃ F d, xcall F sc d μ as h ks = some out
/-- a run from a point of a method -/
def Lx (sd sc : Option (List Int32)) (μ pc : Nat) (lv : xL) (st : List Value) (h : xH) (ks : Nat) (out : xO) : Prop := ∃ F d n, xloop (xcall F sd d) sc μ (xmo μ) (xml μ) (xini μ) (xmc μ) n pc lv st h ks = some out
theorem Cx.of {sc : Option (List Int32)} {μ : Nat} {as : List Value} {h : xH} {ks : Nat} {out : xO} (hc : xcod μ = true ∨ xcow μ = true) (hl : (lg_sl as).length ≤ xml μ) (k : Lx sc sc μ 0 (lv_args 0 as) [] h ks out) : Cx sc μ as h ks out := by
  obtain ⟨F, d, n, e⟩ := k
  refine ⟨max F n, d + 1, ?_⟩
  unfold xcall
  rw [if_pos ⟨hc, hl⟩]
  exact xloop_fuel (fun μ as h ks out q => xcall_fuel (Nat.le_max_left F n) d d μ as h ks out (Nat.le_refl _) q) n _ _ _ _ _ _ _ (Nat.le_max_right F n) e
theorem Cx.fun {sc : Option (List Int32)} {μ : Nat} {as : List Value} {h : xH} {ks : Nat} {o1 o2 : xO} (h1 : Cx sc μ as h ks o1) (h2 : Cx sc μ as h ks o2) : o1 = o2 := by
  obtain ⟨F1, d1, e1⟩ := h1
  obtain ⟨F2, d2, e2⟩ := h2
  have a1 := xcall_fuel (Nat.le_max_left F1 F2) d1 (max d1 d2) μ as h ks o1 (Nat.le_max_left _ _) e1
  have a2 := xcall_fuel (Nat.le_max_right F1 F2) d2 (max d1 d2) μ as h ks o2 (Nat.le_max_right _ _) e2
  exact Option.some.inj (a1.symm.trans a2)
section
variable {sd sc : Option (List Int32)} {μ pc : Nat} {lv : xL} {st : List Value} {h : xH} {ks : Nat} {out : xO}
def xpl : Instr → Bool
  | .ireturn => false | .lreturn => false | .dreturn => false | .areturn => false | .return_ => false
  | .invokestatic _ => false | .invokevirtual _ => false | .invokespecial _ => false | .invokeinterface _ _ => false
  | .getstatic _ => false | .multianewarray _ _ => false | .new _ => false
  | _ => true
set_option maxHeartbeats 4000000 in
theorem lx_step {i : Instr} {pc' : Nat} {lv' : xL} {st' : List Value} {h' : xH} {ks' : Nat} (hi : (xmc μ)[pc]? = some (some i)) (hp : xpl i = true) (hs : xstep (xmo μ) (xml μ) (xini μ) sc i pc lv st h ks = some (pc', lv', st', h', ks')) (k : Lx sd sc μ pc' lv' st' h' ks' out) : Lx sd sc μ pc lv st h ks out := by
  obtain ⟨F, d, n, e⟩ := k
  refine ⟨F, d, n + 1, ?_⟩
  unfold xloop
  rw [hi]
  dsimp only
  cases i <;> first | (cases hp; done) | (dsimp only; rw [hs]; exact e)
theorem lx_new {x pc' : Nat} {lv' : xL} {st' : List Value} {h' : xH} {ks' : Nat} (hi : (xmc μ)[pc]? = some (some (.new x))) (hp : xfnd (xthrT μ) pc = none) (hs : xstep (xmo μ) (xml μ) (xini μ) sc (.new x) pc lv st h ks = some (pc', lv', st', h', ks')) (k : Lx sd sc μ pc' lv' st' h' ks' out) : Lx sd sc μ pc lv st h ks out := by
  obtain ⟨F, d, n, e⟩ := k
  refine ⟨F, d, n + 1, ?_⟩
  unfold xloop
  rw [hi]
  dsimp only
  rw [hp]
  dsimp only
  rw [hs]
  exact e
theorem lx_thr {x ci : Nat} {r : Nat × Nat × Nat × Nat × Nat × Nat} (hi : (xmc μ)[pc]? = some (some (.new x))) (hp : xfnd (xthrT μ) pc = some (ci, r)) (hm : xmh μ = []) : Lx sd sc μ pc lv [] h ks (some ci, none, h ++ [(ci, [])], ks + 6) := by
  refine ⟨0, 0, 1, ?_⟩
  unfold xloop
  rw [hi]
  dsimp only
  rw [hp]
  dsimp only
  rw [if_pos hm]
def xrt : Instr → Bool
  | .ireturn => true | .lreturn => true | .dreturn => true | .areturn => true | .return_ => true
  | _ => false
theorem lx_ret {i : Instr} {r : Option Value} (hi : (xmc μ)[pc]? = some (some i)) (hp : xrt i = true) (hr : xexit μ i st = some r) : Lx sd sc μ pc lv st h ks (none, r, h, ks) := by
  refine ⟨0, 0, 1, ?_⟩
  unfold xloop
  rw [hi]
  dsimp only
  cases i <;> first | (cases hp; done) | (dsimp only; rw [hr])
theorem lx_up {μ' : Nat} {as : List Value} {h1 : xH} {ks1 : Nat} {o1 : xO} {pc' : Nat} {lv' : xL} {st' : List Value} {h' : xH} {ks' : Nat} (hc : Cx sd μ' as h1 ks1 o1) (k : Lx sd sc μ pc' lv' st' h' ks' out) :
    ∃ F d n, xcall F sd d μ' as h1 ks1 = some o1 ∧ xloop (xcall F sd d) sc μ (xmo μ) (xml μ) (xini μ) (xmc μ) n pc' lv' st' h' ks' = some out := by
  obtain ⟨F1, d1, e1⟩ := hc
  obtain ⟨F, d, n, e⟩ := k
  exact ⟨max F1 F, max d1 d, n, xcall_fuel (Nat.le_max_left _ _) _ _ _ _ _ _ _ (Nat.le_max_left _ _) e1, xloop_fuel (fun μ as h ks out q => xcall_fuel (Nat.le_max_right _ _) _ _ _ _ _ _ _ (Nat.le_max_right _ _) q) n n _ _ _ _ _ _ (Nat.le_refl _) e⟩
theorem lx_math {x : Nat} {v : Int32} {rest : List Value} (hi : (xmc μ)[pc]? = some (some (.invokestatic x))) (hm : xmath (xmo μ) μ x st = some (v, rest)) (k : Lx sd sc μ (pc + 3) lv (.int v :: rest) h ks out) : Lx sd sc μ pc lv st h ks out := by
  obtain ⟨F, d, n, e⟩ := k
  refine ⟨F, d, n + 1, ?_⟩
  unfold xloop
  rw [hi]
  dsimp only
  rw [hm]
  exact e
theorem lx_st {x μ' : Nat} {as rest : List Value} {r : Option Value} {h' : xH} {ks' : Nat} (hi : (xmc μ)[pc]? = some (some (.invokestatic x))) (hm : xmath (xmo μ) μ x st = none) (hv : xinv (xmo μ) μ x st = some (2, μ', as, rest)) (hc : Cx sd μ' as h ks (none, r, h', ks')) (k : Lx sd sc μ (pc + 3) lv (r.toList ++ rest) h' ks' out) : Lx sd sc μ pc lv st h ks out := by
  obtain ⟨F, d, n, e1, e⟩ := lx_up hc k
  refine ⟨F, d, n + 1, ?_⟩
  unfold xloop
  rw [hi]
  dsimp only
  rw [hm, hv]
  dsimp only
  rw [if_pos rfl, e1]
  exact e
theorem lx_sn {x μ' : Nat} {as rest : List Value} {r : Option Value} {h' : xH} {ks' : Nat} (hi : (xmc μ)[pc]? = some (some (.invokestatic x))) (hm : xmath (xmo μ) μ x st = none) (hv : xinv (xmo μ) μ x st = some (3, μ', as, rest)) (hd : xcod μ' = true) (hc : Cx sd μ' as h ks (none, r, h', ks')) (k : Lx sd sc μ (pc + 3) lv (r.toList ++ rest) h' ks' out) : Lx sd sc μ pc lv st h ks out := by
  obtain ⟨F, d, n, e1, e⟩ := lx_up hc k
  refine ⟨F, d, n + 1, ?_⟩
  unfold xloop
  rw [hi]
  dsimp only
  rw [hm, hv]
  dsimp only
  rw [if_neg (by decide), if_pos ⟨rfl, hd⟩, e1]
  exact e
theorem lx_sthr {x μ' t : Nat} {as rest : List Value} {r : Option Value} {h' : xH} {ks' : Nat} (hi : (xmc μ)[pc]? = some (some (.invokestatic x))) (hm : xmath (xmo μ) μ x st = none) (hv : xinv (xmo μ) μ x st = some (2, μ', as, rest)) (hd : xcod μ' = true) (hc : Cx sd μ' as h ks (some t, r, h', ks')) (hh : xmh μ = []) : Lx sd sc μ pc lv st h ks (some t, none, h', ks') := by
  obtain ⟨F, d, e1⟩ := hc
  refine ⟨F, d, 1, ?_⟩
  unfold xloop
  rw [hi]
  dsimp only
  rw [hm, hv]
  dsimp only
  rw [if_pos rfl, e1]
  dsimp only
  rw [if_pos hd, if_pos hh]
theorem lx_vi {x μ' : Nat} {as rest : List Value} {r : Option Value} {h' : xH} {ks' : Nat} (hi : (xmc μ)[pc]? = some (some (.invokevirtual x))) (hv : xinv (xmo μ) μ x st = some (1, μ', as, rest)) (hr : xrecv μ' as h = true) (hd : xcod μ' = true) (hc : Cx sd μ' as h ks (none, r, h', ks')) (k : Lx sd sc μ (pc + 3) lv (r.toList ++ rest) h' ks' out) : Lx sd sc μ pc lv st h ks out := by
  obtain ⟨F, d, n, e1, e⟩ := lx_up hc k
  refine ⟨F, d, n + 1, ?_⟩
  unfold xloop
  rw [hi]
  dsimp only
  rw [hv]
  dsimp only
  rw [if_pos ⟨rfl, hr, hd⟩, e1]
  exact e
theorem lx_vthr {x μ' t : Nat} {as rest : List Value} {r : Option Value} {h' : xH} {ks' : Nat} (hi : (xmc μ)[pc]? = some (some (.invokevirtual x))) (hv : xinv (xmo μ) μ x st = some (1, μ', as, rest)) (hr : xrecv μ' as h = true) (hd : xcod μ' = true) (hc : Cx sd μ' as h ks (some t, r, h', ks')) (hh : xmh μ = []) : Lx sd sc μ pc lv st h ks (some t, none, h', ks') := by
  obtain ⟨F, d, e1⟩ := hc
  refine ⟨F, d, 1, ?_⟩
  unfold xloop
  rw [hi]
  dsimp only
  rw [hv]
  dsimp only
  rw [if_pos ⟨rfl, hr, hd⟩, e1]
  dsimp only
  rw [if_pos hh]
theorem lx_vct {x μ' t hp pc' j : Nat} {as rest : List Value} {r : Option Value} {h' : xH} {ks' : Nat} (hi : (xmc μ)[pc]? = some (some (.invokevirtual x))) (hv : xinv (xmo μ) μ x st = some (1, μ', as, rest)) (hr : xrecv μ' as h = true) (hd : xcod μ' = true) (hc : Cx sd μ' as h ks (some t, r, h', ks')) (hh : ¬ xmh μ = []) (hct : xctch (xmo μ) μ pc t (xmc μ) = some (hp, pc', j)) (hj : j < xml μ) (k : Lx sd sc μ pc' (xdel j lv) [] h' ks' out) : Lx sd sc μ pc lv st h ks out := by
  obtain ⟨F, d, n, e1, e⟩ := lx_up hc k
  refine ⟨F, d, n + 1, ?_⟩
  unfold xloop
  rw [hi]
  dsimp only
  rw [hv]
  dsimp only
  rw [if_pos ⟨rfl, hr, hd⟩, e1]
  dsimp only
  rw [if_neg hh, hct]
  dsimp only
  rw [if_pos hj]
  exact e
theorem lx_obj {x b : Nat} {r : Nat × Nat × Nat × Nat × Nat} {rest : List Value} (hi : (xmc μ)[pc]? = some (some (.invokespecial x))) (hf : xfnd (xcalT (xmo μ)) x = some (6, r)) (hc : (rest.map fun v => v.category).sum + 12 ≤ xmlo μ ∧ 1 ≤ xmf μ) (k : Lx sd sc μ (pc + 3) lv rest h ks out) : Lx sd sc μ pc lv (.ref b :: rest) h ks out := by
  obtain ⟨F, d, n, e⟩ := k
  refine ⟨F, d, n + 1, ?_⟩
  unfold xloop
  rw [hi]
  dsimp only
  rw [hf]
  show (if _ then _ else _) = _
  rw [if_pos hc]
  exact e
theorem lx_sp {x k μ' : Nat} {as rest : List Value} {r : Option Value} {h' : xH} {ks' : Nat} (hi : (xmc μ)[pc]? = some (some (.invokespecial x))) (hf : ∀ r, xfnd (xcalT (xmo μ)) x ≠ some (6, r)) (hv : xinv (xmo μ) μ x st = some (k, μ', as, rest)) (hk : (k = 0 ∨ k = 4) ∧ xmr μ' = none ∧ xini μ' = true ∧ xcod μ' = true) (hc : Cx sd μ' as h ks (none, r, h', ks')) (kk : Lx sd sc μ (pc + 3) lv (r.toList ++ rest) h' ks' out) : Lx sd sc μ pc lv st h ks out := by
  obtain ⟨F, d, n, e1, e⟩ := lx_up hc kk
  refine ⟨F, d, n + 1, ?_⟩
  unfold xloop
  rw [hi]
  dsimp only
  split
  · rename_i r9 h9
    exact absurd h9 (hf r9)
  · rw [hv]
    show (if _ then _ else _) = _
    rw [if_pos hk, e1]
    exact e
theorem lx_gets {x r : Nat} (hi : (xmc μ)[pc]? = some (some (.getstatic x))) (hf : xfnd (xgstT (xmo μ)) x = some r) (k : Lx sd sc μ (pc + 3) lv (.ref 1 :: st) h ks out) : Lx sd sc μ pc lv st h ks out := by
  obtain ⟨F, d, n, e⟩ := k
  refine ⟨F, d, n + 1, ?_⟩
  unfold xloop
  rw [hi]
  dsimp only
  rw [hf]
  exact e
theorem lx_mul {x dm sl : Nat} {rest : List Value} {es : xH} (hi : (xmc μ)[pc]? = some (some (.multianewarray x dm))) (hf : xmul (xmo μ) x dm st (h.length + 4) = some (rest, es, sl)) (k : Lx sd sc μ (pc + 4) lv (.ref (h.length + 4) :: rest) (h ++ es) (ks + sl) out) : Lx sd sc μ pc lv st h ks out := by
  obtain ⟨F, d, n, e⟩ := k
  refine ⟨F, d, n + 1, ?_⟩
  unfold xloop
  rw [hi]
  dsimp only
  rw [hf]
  exact e
end
end XFU
end
section
section XBR
variable {sd sc : Option (List Int32)} {μ pc : Nat} {lv : xL} {st : List Value} {h : xH} {ks : Nat} {out : xO}
theorem lx_if {c : Jvm.ClassFile.Cond} {off : Int} {x : Int32} {t : Nat} (hi : (xmc μ)[pc]? = some (some (.ifCond c off))) (ht : xj pc off = some t) (k1 : xcmp c x 0 = true → Lx sd sc μ t lv st h ks out) (k2 : xcmp c x 0 = false → Lx sd sc μ (pc + 3) lv st h ks out) : Lx sd sc μ pc lv (.int x :: st) h ks out := by
  cases hb : xcmp c x 0 with
  | true => exact lx_step hi rfl (by unfold xstep; dsimp only; rw [ht]; dsimp only; rw [hb]; rfl) (k1 hb)
  | false => exact lx_step hi rfl (by unfold xstep; dsimp only; rw [ht]; dsimp only; rw [hb]; rfl) (k2 hb)
theorem lx_icmp {c : Jvm.ClassFile.Cond} {off : Int} {x y : Int32} {t : Nat} (hi : (xmc μ)[pc]? = some (some (.if_icmp c off))) (ht : xj pc off = some t) (k1 : xcmp c x y = true → Lx sd sc μ t lv st h ks out) (k2 : xcmp c x y = false → Lx sd sc μ (pc + 3) lv st h ks out) : Lx sd sc μ pc lv (.int y :: .int x :: st) h ks out := by
  cases hb : xcmp c x y with
  | true => exact lx_step hi rfl (by unfold xstep; dsimp only; rw [ht]; dsimp only; rw [hb]; rfl) (k1 hb)
  | false => exact lx_step hi rfl (by unfold xstep; dsimp only; rw [ht]; dsimp only; rw [hb]; rfl) (k2 hb)
end XBR
/-! what holds behind a run -/
section XPX
def Px (sd sc : Option (List Int32)) (μ pc : Nat) (lv : xL) (st : List Value) (h : xH) (ks : Nat) (Φ : xO → Prop) : Prop := ∃ out, Lx sd sc μ pc lv st h ks out ∧ Φ out
def Qx (sd : Option (List Int32)) (μ : Nat) (as : List Value) (h : xH) (ks : Nat) (Φ : xO → Prop) : Prop := ∃ out, Cx sd μ as h ks out ∧ Φ out
theorem Qx.of {sc : Option (List Int32)} {μ : Nat} {as : List Value} {h : xH} {ks : Nat} {Φ : xO → Prop} (hc : xcod μ = true ∨ xcow μ = true) (hl : (lg_sl as).length ≤ xml μ) (k : Px sc sc μ 0 (lv_args 0 as) [] h ks Φ) : Qx sc μ as h ks Φ :=
  k.imp fun _ q => ⟨Cx.of hc hl q.1, q.2⟩
theorem Qx.at {sc : Option (List Int32)} {μ : Nat} {as : List Value} {h : xH} {ks : Nat} {Φ : xO → Prop} {out : xO} (k : Cx sc μ as h ks out) (hp : Φ out) : Qx sc μ as h ks Φ := ⟨out, k, hp⟩
variable {sd sc : Option (List Int32)} {μ pc : Nat} {lv : xL} {st : List Value} {h : xH} {ks : Nat} {Φ : xO → Prop}
theorem px_step {i : Instr} {pc' : Nat} {lv' : xL} {st' : List Value} {h' : xH} {ks' : Nat} (hi : (xmc μ)[pc]? = some (some i)) (hp : xpl i = true) (hs : xstep (xmo μ) (xml μ) (xini μ) sc i pc lv st h ks = some (pc', lv', st', h', ks')) (k : Px sd sc μ pc' lv' st' h' ks' Φ) : Px sd sc μ pc lv st h ks Φ :=
  k.imp fun _ q => ⟨lx_step hi hp hs q.1, q.2⟩
theorem px_new {x pc' : Nat} {lv' : xL} {st' : List Value} {h' : xH} {ks' : Nat} (hi : (xmc μ)[pc]? = some (some (.new x))) (hp : xfnd (xthrT μ) pc = none) (hs : xstep (xmo μ) (xml μ) (xini μ) sc (.new x) pc lv st h ks = some (pc', lv', st', h', ks')) (k : Px sd sc μ pc' lv' st' h' ks' Φ) : Px sd sc μ pc lv st h ks Φ :=
  k.imp fun _ q => ⟨lx_new hi hp hs q.1, q.2⟩
theorem px_thr {x ci : Nat} {r : Nat × Nat × Nat × Nat × Nat × Nat} (hi : (xmc μ)[pc]? = some (some (.new x))) (hp : xfnd (xthrT μ) pc = some (ci, r)) (hm : xmh μ = []) (k : Φ (some ci, none, h ++ [(ci, [])], ks + 6)) : Px sd sc μ pc lv [] h ks Φ := ⟨_, lx_thr hi hp hm, k⟩
theorem px_ret {i : Instr} {r : Option Value} (hi : (xmc μ)[pc]? = some (some i)) (hp : xrt i = true) (hr : xexit μ i st = some r) (k : Φ (none, r, h, ks)) : Px sd sc μ pc lv st h ks Φ := ⟨_, lx_ret hi hp hr, k⟩
theorem px_math {x : Nat} {v : Int32} {rest : List Value} (hi : (xmc μ)[pc]? = some (some (.invokestatic x))) (hm : xmath (xmo μ) μ x st = some (v, rest)) (k : Px sd sc μ (pc + 3) lv (.int v :: rest) h ks Φ) : Px sd sc μ pc lv st h ks Φ := k.imp fun _ q => ⟨lx_math hi hm q.1, q.2⟩
/-- behind a call: it came back, or threw (nothing catches it here) -/
def xbk (sd sc : Option (List Int32)) (μ pc : Nat) (lv : xL) (rest : List Value) (Φ : xO → Prop) (o : xO) : Prop := match o with
  | (none, r, h', ks') => Px sd sc μ pc lv (r.toList ++ rest) h' ks' Φ
  | (some t, _, h', ks') => Φ (some t, none, h', ks')
/-- behind a call whose throw is caught here -/
def xbc (sd sc : Option (List Int32)) (μ pc pc0 : Nat) (lv : xL) (rest : List Value) (Φ : xO → Prop) (o : xO) : Prop := match o with
  | (none, r, h', ks') => Px sd sc μ pc lv (r.toList ++ rest) h' ks' Φ
  | (some t, _, h', ks') => ∃ hp pc' j, xctch (xmo μ) μ pc0 t (xmc μ) = some (hp, pc', j) ∧ j < xml μ ∧ Px sd sc μ pc' (xdel j lv) [] h' ks' Φ
theorem px_st {x μ' : Nat} {as rest : List Value} (hi : (xmc μ)[pc]? = some (some (.invokestatic x))) (hm : xmath (xmo μ) μ x st = none) (hv : xinv (xmo μ) μ x st = some (2, μ', as, rest)) (hd : xcod μ' = true) (hh : xmh μ = []) (k : Qx sd μ' as h ks (xbk sd sc μ (pc + 3) lv rest Φ)) : Px sd sc μ pc lv st h ks Φ := by
  obtain ⟨⟨t, r, h', ks'⟩, k1, k2⟩ := k
  cases t with
  | none => exact k2.imp fun _ q => ⟨lx_st hi hm hv k1 q.1, q.2⟩
  | some t => exact ⟨_, lx_sthr hi hm hv hd k1 hh, k2⟩
/-- a call that doesn't throw -/
def xbn (sd sc : Option (List Int32)) (μ pc : Nat) (lv : xL) (rest : List Value) (Φ : xO → Prop) (o : xO) : Prop := match o with
  | (none, r, h', ks') => Px sd sc μ pc lv (r.toList ++ rest) h' ks' Φ
  | (some _, _, _, _) => False
theorem px_sn {x μ' : Nat} {as rest : List Value} (hi : (xmc μ)[pc]? = some (some (.invokestatic x))) (hm : xmath (xmo μ) μ x st = none) (hv : xinv (xmo μ) μ x st = some (3, μ', as, rest)) (hd : xcod μ' = true) (k : Qx sd μ' as h ks (xbn sd sc μ (pc + 3) lv rest Φ)) : Px sd sc μ pc lv st h ks Φ := by
  obtain ⟨⟨t, r, h', ks'⟩, k1, k2⟩ := k
  cases t with
  | none => exact k2.imp fun _ q => ⟨lx_sn hi hm hv hd k1 q.1, q.2⟩
  | some t => exact k2.elim
/-- a wrapper, with handlers of its own: it throws nothing -/
theorem px_sw {x μ' : Nat} {as rest : List Value} (hi : (xmc μ)[pc]? = some (some (.invokestatic x))) (hm : xmath (xmo μ) μ x st = none) (hv : xinv (xmo μ) μ x st = some (2, μ', as, rest)) (k : Qx sd μ' as h ks (xbn sd sc μ (pc + 3) lv rest Φ)) : Px sd sc μ pc lv st h ks Φ := by
  obtain ⟨⟨t, r, h', ks'⟩, k1, k2⟩ := k
  cases t with
  | none => exact k2.imp fun _ q => ⟨lx_st hi hm hv k1 q.1, q.2⟩
  | some t => exact k2.elim
theorem px_vi {x μ' : Nat} {as rest : List Value} (hi : (xmc μ)[pc]? = some (some (.invokevirtual x))) (hv : xinv (xmo μ) μ x st = some (1, μ', as, rest)) (hr : xrecv μ' as h = true) (hd : xcod μ' = true) (hh : xmh μ = []) (k : Qx sd μ' as h ks (xbk sd sc μ (pc + 3) lv rest Φ)) : Px sd sc μ pc lv st h ks Φ := by
  obtain ⟨⟨t, r, h', ks'⟩, k1, k2⟩ := k
  cases t with
  | none => exact k2.imp fun _ q => ⟨lx_vi hi hv hr hd k1 q.1, q.2⟩
  | some t => exact ⟨_, lx_vthr hi hv hr hd k1 hh, k2⟩
theorem px_vc {x μ' : Nat} {as rest : List Value} (hi : (xmc μ)[pc]? = some (some (.invokevirtual x))) (hv : xinv (xmo μ) μ x st = some (1, μ', as, rest)) (hr : xrecv μ' as h = true) (hd : xcod μ' = true) (hh : ¬ xmh μ = []) (k : Qx sd μ' as h ks (xbc sd sc μ (pc + 3) pc lv rest Φ)) : Px sd sc μ pc lv st h ks Φ := by
  obtain ⟨⟨t, r, h', ks'⟩, k1, k2⟩ := k
  cases t with
  | none => exact k2.imp fun _ q => ⟨lx_vi hi hv hr hd k1 q.1, q.2⟩
  | some t =>
    obtain ⟨hp, pc', j, c1, c2, k2⟩ := k2
    exact k2.imp fun _ q => ⟨lx_vct hi hv hr hd k1 hh c1 c2 q.1, q.2⟩
theorem px_obj {x b : Nat} {r : Nat × Nat × Nat × Nat × Nat} {rest : List Value} (hi : (xmc μ)[pc]? = some (some (.invokespecial x))) (hf : xfnd (xcalT (xmo μ)) x = some (6, r)) (hc : (rest.map fun v => v.category).sum + 12 ≤ xmlo μ ∧ 1 ≤ xmf μ) (k : Px sd sc μ (pc + 3) lv rest h ks Φ) : Px sd sc μ pc lv (.ref b :: rest) h ks Φ := k.imp fun _ q => ⟨lx_obj hi hf hc q.1, q.2⟩
theorem px_sp {x k μ' : Nat} {as rest : List Value} {r : Option Value} {h' : xH} {ks' : Nat} (hi : (xmc μ)[pc]? = some (some (.invokespecial x))) (hf : ∀ r, xfnd (xcalT (xmo μ)) x ≠ some (6, r)) (hv : xinv (xmo μ) μ x st = some (k, μ', as, rest)) (hk : (k = 0 ∨ k = 4) ∧ xmr μ' = none ∧ xini μ' = true ∧ xcod μ' = true) (hc : Cx sd μ' as h ks (none, r, h', ks')) (kk : Px sd sc μ (pc + 3) lv (r.toList ++ rest) h' ks' Φ) : Px sd sc μ pc lv st h ks Φ := kk.imp fun _ q => ⟨lx_sp hi hf hv hk hc q.1, q.2⟩
theorem px_if {c : Jvm.ClassFile.Cond} {off : Int} {x : Int32} {t : Nat} (hi : (xmc μ)[pc]? = some (some (.ifCond c off))) (ht : xj pc off = some t) (k1 : xcmp c x 0 = true → Px sd sc μ t lv st h ks Φ) (k2 : xcmp c x 0 = false → Px sd sc μ (pc + 3) lv st h ks Φ) : Px sd sc μ pc lv (.int x :: st) h ks Φ := by
  cases hb : xcmp c x 0 with
  | true => exact px_step hi rfl (by unfold xstep; dsimp only; rw [ht]; dsimp only; rw [hb]; rfl) (k1 hb)
  | false => exact px_step hi rfl (by unfold xstep; dsimp only; rw [ht]; dsimp only; rw [hb]; rfl) (k2 hb)
theorem px_icmp {c : Jvm.ClassFile.Cond} {off : Int} {x y : Int32} {t : Nat} (hi : (xmc μ)[pc]? = some (some (.if_icmp c off))) (ht : xj pc off = some t) (k1 : xcmp c x y = true → Px sd sc μ t lv st h ks Φ) (k2 : xcmp c x y = false → Px sd sc μ (pc + 3) lv st h ks Φ) : Px sd sc μ pc lv (.int y :: .int x :: st) h ks Φ := by
  cases hb : xcmp c x y with
  | true => exact px_step hi rfl (by unfold xstep; dsimp only; rw [ht]; dsimp only; rw [hb]; rfl) (k1 hb)
  | false => exact px_step hi rfl (by unfold xstep; dsimp only; rw [ht]; dsimp only; rw [hb]; rfl) (k2 hb)
end XPX
end
section
/-! the law's start: the two objects -/
section XEQ
def xveq : Value → Value → Bool
  | .int a, .int b => decide (a = b)
  | .long a, .long b => decide (a = b)
  | .float a, .float b => decide (a = b)
  | .double a, .double b => decide (a = b)
  | .ref a, .ref b => Nat.beq a b
  | .null, .null => true
  | _, _ => false
theorem xveq_ok {a b : Value} (h : xveq a b = true) : a = b := by
  cases a <;> cases b <;> simp only [xveq, decide_eq_true_eq, Nat.beq_eq_true_eq, Bool.false_eq_true, reduceCtorEq] at h ⊢ <;> first | rw [h] | exact congrArg _ (Nat.eq_of_beq_eq_true h)
def xleq {α : Type} (f : α → α → Bool) : List α → List α → Bool
  | [], [] => true
  | a :: r, b :: s => f a b && xleq f r s
  | _, _ => false
theorem xleq_ok {α : Type} {f : α → α → Bool} (hf : ∀ {a b}, f a b = true → a = b) : ∀ {l r : List α}, xleq f l r = true → l = r
  | [], [], _ => rfl
  | a :: r, b :: s, h => by
    unfold xleq at h
    rw [Bool.and_eq_true] at h
    rw [hf h.1, xleq_ok hf h.2]
  | [], _ :: _, h => by cases h
  | _ :: _, [], h => by cases h
def xheq (a b : xH) : Bool := xleq (fun x y => Nat.beq x.1 y.1 && xleq xveq x.2 y.2) a b
theorem xheq_ok {a b : xH} (h : xheq a b = true) : a = b := xleq_ok (fun {x y} q => by
  rw [Bool.and_eq_true] at q
  exact Prod.ext (Nat.eq_of_beq_eq_true q.1) (xleq_ok xveq_ok q.2)) h
/-- a call that comes back with no answer -/
def xoq (o : Option xO) (h : xH) (ks : Nat) : Bool := match o with
  | some (none, none, h', ks') => xheq h' h && Nat.beq ks' ks
  | _ => false
theorem xoq_ok {o : Option xO} {h : xH} {ks : Nat} (e : xoq o h ks = true) : o = some (none, none, h, ks) := by
  unfold xoq at e
  split at e
  · rw [Bool.and_eq_true] at e
    rw [xheq_ok e.1, Nat.eq_of_beq_eq_true e.2]
  · cases e
end XEQ
section XP1
def xf1 : xH := [(9, [.ref 5, .ref 14, .ref 19, .ref 22, .ref 29, .ref 34, .ref 56, .int 0, .int 0]), (0, [.int 0, .ref 6, .ref 8, .ref 10, .ref 12]), (5, [.ref 7]), (100, [.int 0, .int 0, .int 0, .int 0, .int 0, .int 0, .int 0, .int 0, .int 0, .int 0]), (5, [.ref 9]), (100, [.int 0, .int 0, .int 0, .int 0, .int 0, .int 0, .int 0, .int 0, .int 0, .int 0]), (2, [.int 10, .ref 11]), (100, [.int 0, .int 0, .int 0, .int 0, .int 0, .int 0, .int 0, .int 0, .int 0, .int 0, .int 0, .int 0, .int 0, .int 0, .int 0, .int 0, .int 0, .int 0, .int 0, .int 0, .int 0, .int 0, .int 0, .int 0, .int 0, .int 0, .int 0, .int 0, .int 0, .int 0, .int 0, .int 0, .int 0, .int 0, .int 0, .int 0, .int 0, .int 0, .int 0, .int 0, .int 0, .int 0, .int 0, .int 0, .int 0, .int 0, .int 0, .int 0, .int 0, .int 0, .int 0, .int 0, .int 0, .int 0, .int 0, .int 0, .int 0, .int 0, .int 0, .int 0, .int 0, .int 0, .int 0, .int 0, .int 0, .int 0, .int 0, .int 0, .int 0, .int 0, .int 0, .int 0, .int 0, .int 0, .int 0, .int 0, .int 0, .int 0, .int 0, .int 0, .int 0, .int 0, .int 0, .int 0, .int 0, .int 0, .int 0, .int 0, .int 0, .int 0, .int 0, .int 0, .int 0, .int 0, .int 0, .int 0, .int 0, .int 0, .int 0, .int 0]), (2, [.int 5, .ref 13]), (100, [.int 0, .int 0, .int 0, .int 0, .int 0, .int 0, .int 0, .int 0, .int 0, .int 0, .int 0, .int 0, .int 0, .int 0, .int 0, .int 0, .int 0, .int 0, .int 0, .int 0, .int 0, .int 0, .int 0, .int 0, .int 0, .int 0, .int 0, .int 0, .int 0, .int 0, .int 0, .int 0, .int 0, .int 0, .int 0, .int 0, .int 0, .int 0, .int 0, .int 0, .int 0, .int 0, .int 0, .int 0, .int 0, .int 0, .int 0, .int 0, .int 0, .int 0]), (3, [.int 0, .ref 15, .ref 17]), (5, [.ref 16]), (100, [.int 0, .int 0, .int 0, .int 0, .int 0, .int 0, .int 0]), (5, [.ref 18]), (100, [.int 0, .int 0, .int 0, .int 0, .int 0, .int 0, .int 0]), (1, [.int 0, .int 0, .int 0, .int 0, .int 0, .int 0, .ref 20]), (5, [.ref 21]), (100, [.int 0, .int 0, .int 0, .int 0, .int 0, .int 0, .int 0, .int 0, .int 0, .int 0]), (4, [.int 0, .int 0, .int 0, .int 0, .ref 23, .ref 25, .ref 27]), (2, [.int 5, .ref 24]), (100, [.int 0, .int 0, .int 0, .int 0, .int 0, .int 0, .int 0, .int 0, .int 0, .int 0, .int 0, .int 0, .int 0, .int 0, .int 0, .int 0, .int 0, .int 0, .int 0, .int 0, .int 0, .int 0, .int 0, .int 0, .int 0, .int 0, .int 0, .int 0, .int 0, .int 0, .int 0, .int 0, .int 0, .int 0, .int 0]), (5, [.ref 26]), (100, [.int (-1), .int (-1), .int (-1), .int (-1), .int (-1), .int (-1), .int (-1), .int (-1), .int (-1), .int (-1)]), (5, [.ref 28]), (100, [.int 0, .int 0, .int 0, .int 0, .int 0]), (7, [.int 0, .int 0, .ref 30, .ref 32]), (2, [.int 8, .ref 31]), (100, [.int 0, .int 0, .int 0, .int 0, .int 0, .int 0, .int 0, .int 0, .int 0, .int 0, .int 0, .int 0, .int 0, .int 0, .int 0, .int 0, .int 0, .int 0, .int 0, .int 0, .int 0, .int 0, .int 0, .int 0, .int 0, .int 0, .int 0, .int 0, .int 0, .int 0, .int 0, .int 0, .int 0, .int 0, .int 0, .int 0, .int 0, .int 0, .int 0, .int 0, .int 0, .int 0, .int 0, .int 0, .int 0, .int 0, .int 0, .int 0, .int 0, .int 0, .int 0, .int 0, .int 0, .int 0, .int 0, .int 0, .int 0, .int 0, .int 0, .int 0, .int 0, .int 0, .int 0, .int 0, .int 0, .int 0, .int 0, .int 0, .int 0, .int 0, .int 0, .int 0, .int 0, .int 0, .int 0, .int 0, .int 0, .int 0, .int 0, .int 0, .int 0, .int 0, .int 0, .int 0, .int 0, .int 0, .int 0, .int 0, .int 0, .int 0, .int 0, .int 0, .int 0, .int 0, .int 0, .int 0, .int 0, .int 0, .int 0, .int 0, .int 0, .int 0, .int 0, .int 0, .int 0, .int 0, .int 0, .int 0, .int 0, .int 0, .int 0, .int 0, .int 0, .int 0, .int 0, .int 0, .int 0, .int 0, .int 0, .int 0, .int 0, .int 0, .int 0, .int 0, .int 0, .int 0, .int 0, .int 0, .int 0, .int 0, .int 0, .int 0, .int 0, .int 0, .int 0, .int 0, .int 0, .int 0, .int 0, .int 0, .int 0, .int 0, .int 0, .int 0, .int 0, .int 0, .int 0, .int 0, .int 0, .int 0, .int 0, .int 0, .int 0, .int 0, .int 0, .int 0, .int 0, .int 0, .int 0, .int 0, .int 0, .int 0, .int 0, .int 0, .int 0, .int 0, .int 0, .int 0, .int 0, .int 0, .int 0, .int 0, .int 0, .int 0, .int 0, .int 0, .int 0, .int 0, .int 0, .int 0, .int 0, .int 0, .int 0, .int 0, .int 0, .int 0, .int 0, .int 0, .int 0, .int 0, .int 0, .int 0, .int 0, .int 0, .int 0, .int 0, .int 0, .int 0, .int 0, .int 0, .int 0, .int 0, .int 0, .int 0, .int 0, .int 0, .int 0, .int 0, .int 0, .int 0, .int 0, .int 0, .int 0, .int 0, .int 0, .int 0, .int 0, .int 0, .int 0, .int 0, .int 0, .int 0, .int 0, .int 0, .int 0, .int 0, .int 0, .int 0, .int 0, .int 0, .int 0, .int 0, .int 0, .int 0, .int 0, .int 0, .int 0, .int 0, .int 0, .int 0, .int 0, .int 0, .int 0, .int 0, .int 0, .int 0, .int 0, .int 0, .int 0, .int 0, .int 0, .int 0, .int 0, .int 0, .int 0, .int 0, .int 0, .int 0, .int 0, .int 0, .int 0, .int 0, .int 0, .int 0, .int 0, .int 0, .int 0, .int 0, .int 0, .int 0, .int 0, .int 0, .int 0, .int 0, .int 0, .int 0, .int 0, .int 0, .int 0, .int 0]), (5, [.ref 33]), (100, [.int 0, .int 0, .int 0, .int 0, .int 0]), (6, [.int 0, .int 0, .ref 35, .ref 37, .ref 39, .ref 41, .ref 43, .ref 45, .ref 50, .ref 52, .ref 54]), (2, [.int 8, .ref 36]), (100, [.int 0, .int 0, .int 0, .int 0, .int 0, .int 0, .int 0, .int 0, .int 0, .int 0, .int 0, .int 0, .int 0, .int 0, .int 0, .int 0, .int 0, .int 0, .int 0, .int 0, .int 0, .int 0, .int 0, .int 0, .int 0, .int 0, .int 0, .int 0, .int 0, .int 0, .int 0, .int 0, .int 0, .int 0, .int 0, .int 0, .int 0, .int 0, .int 0, .int 0]), (2, [.int 8, .ref 38]), (100, [.int 0, .int 0, .int 0, .int 0, .int 0, .int 0, .int 0, .int 0, .int 0, .int 0, .int 0, .int 0, .int 0, .int 0, .int 0, .int 0, .int 0, .int 0, .int 0, .int 0, .int 0, .int 0, .int 0, .int 0, .int 0, .int 0, .int 0, .int 0, .int 0, .int 0, .int 0, .int 0, .int 0, .int 0, .int 0, .int 0, .int 0, .int 0, .int 0, .int 0]), (5, [.ref 40]), (100, [.int 0, .int 0, .int 0, .int 0, .int 0, .int 0, .int 0, .int 0]), (5, [.ref 42]), (100, [.int 0, .int 0, .int 0, .int 0, .int 0, .int 0, .int 0, .int 0]), (5, [.ref 44]), (100, [.int 0, .int 0, .int 0, .int 0, .int 0, .int 0, .int 0, .int 0]), (8, [.int 0, .ref 46, .ref 48]), (2, [.int 9, .ref 47]), (100, [.int 0, .int 0, .int 0, .int 0, .int 0, .int 0, .int 0, .int 0, .int 0, .int 0, .int 0, .int 0, .int 0, .int 0, .int 0, .int 0, .int 0, .int 0, .int 0, .int 0, .int 0, .int 0, .int 0, .int 0, .int 0, .int 0, .int 0, .int 0, .int 0, .int 0, .int 0, .int 0, .int 0, .int 0, .int 0, .int 0, .int 0, .int 0, .int 0, .int 0, .int 0, .int 0, .int 0, .int 0, .int 0, .int 0, .int 0, .int 0, .int 0, .int 0, .int 0, .int 0, .int 0, .int 0, .int 0, .int 0, .int 0, .int 0, .int 0, .int 0, .int 0, .int 0, .int 0, .int 0, .int 0, .int 0, .int 0, .int 0, .int 0, .int 0, .int 0, .int 0, .int 0, .int 0, .int 0, .int 0, .int 0, .int 0, .int 0, .int 0, .int 0, .int 0, .int 0, .int 0, .int 0, .int 0, .int 0, .int 0, .int 0, .int 0, .int 0, .int 0, .int 0, .int 0, .int 0, .int 0, .int 0, .int 0, .int 0, .int 0, .int 0, .int 0, .int 0, .int 0, .int 0, .int 0, .int 0, .int 0, .int 0, .int 0, .int 0, .int 0, .int 0, .int 0, .int 0, .int 0, .int 0, .int 0, .int 0, .int 0, .int 0, .int 0, .int 0, .int 0, .int 0, .int 0, .int 0, .int 0, .int 0, .int 0, .int 0, .int 0, .int 0, .int 0, .int 0, .int 0, .int 0, .int 0, .int 0, .int 0, .int 0, .int 0, .int 0, .int 0, .int 0, .int 0, .int 0, .int 0, .int 0, .int 0, .int 0, .int 0, .int 0, .int 0, .int 0, .int 0, .int 0, .int 0, .int 0, .int 0, .int 0, .int 0, .int 0, .int 0, .int 0, .int 0, .int 0, .int 0, .int 0, .int 0, .int 0, .int 0, .int 0, .int 0, .int 0, .int 0, .int 0, .int 0, .int 0, .int 0, .int 0, .int 0, .int 0, .int 0, .int 0, .int 0, .int 0, .int 0, .int 0, .int 0, .int 0, .int 0, .int 0, .int 0, .int 0, .int 0, .int 0, .int 0, .int 0, .int 0, .int 0, .int 0, .int 0, .int 0, .int 0, .int 0, .int 0, .int 0, .int 0, .int 0, .int 0, .int 0, .int 0, .int 0, .int 0, .int 0, .int 0, .int 0, .int 0, .int 0, .int 0, .int 0, .int 0, .int 0, .int 0, .int 0, .int 0, .int 0, .int 0, .int 0, .int 0, .int 0, .int 0, .int 0, .int 0, .int 0, .int 0, .int 0, .int 0, .int 0, .int 0, .int 0, .int 0, .int 0, .int 0, .int 0, .int 0, .int 0, .int 0, .int 0, .int 0, .int 0, .int 0, .int 0, .int 0, .int 0, .int 0, .int 0, .int 0, .int 0, .int 0, .int 0, .int 0, .int 0, .int 0, .int 0, .int 0, .int 0, .int 0, .int 0, .int 0, .int 0, .int 0, .int 0, .int 0, .int 0, .int 0, .int 0, .int 0, .int 0, .int 0, .int 0, .int 0, .int 0, .int 0, .int 0, .int 0, .int 0, .int 0, .int 0, .int 0, .int 0, .int 0, .int 0, .int 0, .int 0, .int 0, .int 0, .int 0, .int 0, .int 0, .int 0, .int 0, .int 0, .int 0, .int 0, .int 0, .int 0, .int 0, .int 0, .int 0, .int 0, .int 0, .int 0, .int 0, .int 0, .int 0, .int 0, .int 0, .int 0, .int 0, .int 0, .int 0, .int 0, .int 0, .int 0, .int 0, .int 0, .int 0, .int 0, .int 0, .int 0, .int 0, .int 0, .int 0, .int 0, .int 0, .int 0, .int 0, .int 0, .int 0, .int 0, .int 0, .int 0, .int 0, .int 0, .int 0, .int 0, .int 0, .int 0, .int 0, .int 0, .int 0, .int 0, .int 0, .int 0, .int 0, .int 0, .int 0, .int 0]), (2, [.int 9, .ref 49]), (100, [.int 0, .int 0, .int 0, .int 0, .int 0, .int 0, .int 0, .int 0, .int 0, .int 0, .int 0, .int 0, .int 0, .int 0, .int 0, .int 0, .int 0, .int 0, .int 0, .int 0, .int 0, .int 0, .int 0, .int 0, .int 0, .int 0, .int 0, .int 0, .int 0, .int 0, .int 0, .int 0, .int 0, .int 0, .int 0, .int 0, .int 0, .int 0, .int 0, .int 0, .int 0, .int 0, .int 0, .int 0, .int 0, .int 0, .int 0, .int 0, .int 0, .int 0, .int 0, .int 0, .int 0, .int 0, .int 0, .int 0, .int 0, .int 0, .int 0, .int 0, .int 0, .int 0, .int 0, .int 0, .int 0, .int 0, .int 0, .int 0, .int 0, .int 0, .int 0, .int 0, .int 0, .int 0, .int 0, .int 0, .int 0, .int 0, .int 0, .int 0, .int 0, .int 0, .int 0, .int 0, .int 0, .int 0, .int 0, .int 0, .int 0, .int 0, .int 0, .int 0, .int 0, .int 0, .int 0, .int 0, .int 0, .int 0, .int 0, .int 0, .int 0, .int 0, .int 0, .int 0, .int 0, .int 0, .int 0, .int 0, .int 0, .int 0, .int 0, .int 0, .int 0, .int 0, .int 0, .int 0, .int 0, .int 0, .int 0, .int 0, .int 0, .int 0, .int 0, .int 0, .int 0, .int 0, .int 0, .int 0, .int 0, .int 0, .int 0, .int 0, .int 0, .int 0, .int 0, .int 0, .int 0, .int 0, .int 0, .int 0, .int 0, .int 0, .int 0, .int 0, .int 0, .int 0, .int 0, .int 0, .int 0, .int 0, .int 0, .int 0, .int 0, .int 0, .int 0, .int 0, .int 0, .int 0, .int 0, .int 0, .int 0, .int 0, .int 0, .int 0, .int 0, .int 0, .int 0, .int 0, .int 0, .int 0, .int 0, .int 0, .int 0, .int 0, .int 0, .int 0, .int 0, .int 0, .int 0, .int 0, .int 0, .int 0, .int 0, .int 0, .int 0, .int 0, .int 0, .int 0, .int 0, .int 0, .int 0, .int 0, .int 0, .int 0, .int 0, .int 0, .int 0, .int 0, .int 0, .int 0, .int 0, .int 0, .int 0, .int 0, .int 0, .int 0, .int 0, .int 0, .int 0, .int 0, .int 0, .int 0, .int 0, .int 0, .int 0, .int 0, .int 0, .int 0, .int 0, .int 0, .int 0, .int 0, .int 0, .int 0, .int 0, .int 0, .int 0, .int 0, .int 0, .int 0, .int 0, .int 0, .int 0, .int 0, .int 0, .int 0, .int 0, .int 0, .int 0, .int 0, .int 0, .int 0, .int 0, .int 0, .int 0, .int 0, .int 0, .int 0, .int 0, .int 0, .int 0, .int 0, .int 0, .int 0, .int 0, .int 0, .int 0, .int 0, .int 0, .int 0, .int 0, .int 0, .int 0, .int 0, .int 0, .int 0, .int 0, .int 0, .int 0, .int 0, .int 0, .int 0, .int 0, .int 0, .int 0, .int 0, .int 0, .int 0, .int 0, .int 0, .int 0, .int 0, .int 0, .int 0, .int 0, .int 0, .int 0, .int 0, .int 0, .int 0, .int 0, .int 0, .int 0, .int 0, .int 0, .int 0, .int 0, .int 0, .int 0, .int 0, .int 0, .int 0, .int 0, .int 0, .int 0, .int 0, .int 0, .int 0, .int 0, .int 0, .int 0, .int 0, .int 0, .int 0, .int 0, .int 0, .int 0, .int 0, .int 0, .int 0, .int 0, .int 0, .int 0, .int 0, .int 0, .int 0, .int 0, .int 0, .int 0, .int 0, .int 0, .int 0, .int 0, .int 0, .int 0, .int 0, .int 0, .int 0, .int 0, .int 0, .int 0, .int 0, .int 0, .int 0, .int 0, .int 0, .int 0, .int 0, .int 0, .int 0, .int 0, .int 0, .int 0, .int 0, .int 0, .int 0, .int 0, .int 0, .int 0, .int 0]), (5, [.ref 51]), (100, [.int 0, .int 0, .int 0, .int 0, .int 0]), (5, [.ref 53]), (100, [.int 0, .int 0, .int 0, .int 0, .int 0, .int 0, .int 0, .int 0]), (5, [.ref 55]), (100, [.int 0, .int 0, .int 0, .int 0, .int 0, .int 0, .int 0, .int 0]), (6, [.int 0, .int 0, .ref 57, .ref 59, .ref 61, .ref 63, .ref 65, .ref 67, .ref 72, .ref 74, .ref 76]), (2, [.int 8, .ref 58]), (100, [.int 0, .int 0, .int 0, .int 0, .int 0, .int 0, .int 0, .int 0, .int 0, .int 0, .int 0, .int 0, .int 0, .int 0, .int 0, .int 0, .int 0, .int 0, .int 0, .int 0, .int 0, .int 0, .int 0, .int 0, .int 0, .int 0, .int 0, .int 0, .int 0, .int 0, .int 0, .int 0, .int 0, .int 0, .int 0, .int 0, .int 0, .int 0, .int 0, .int 0]), (2, [.int 8, .ref 60]), (100, [.int 0, .int 0, .int 0, .int 0, .int 0, .int 0, .int 0, .int 0, .int 0, .int 0, .int 0, .int 0, .int 0, .int 0, .int 0, .int 0, .int 0, .int 0, .int 0, .int 0, .int 0, .int 0, .int 0, .int 0, .int 0, .int 0, .int 0, .int 0, .int 0, .int 0, .int 0, .int 0, .int 0, .int 0, .int 0, .int 0, .int 0, .int 0, .int 0, .int 0]), (5, [.ref 62]), (100, [.int 0, .int 0, .int 0, .int 0, .int 0, .int 0, .int 0, .int 0]), (5, [.ref 64]), (100, [.int 0, .int 0, .int 0, .int 0, .int 0, .int 0, .int 0, .int 0]), (5, [.ref 66]), (100, [.int 0, .int 0, .int 0, .int 0, .int 0, .int 0, .int 0, .int 0]), (8, [.int 0, .ref 68, .ref 70]), (2, [.int 9, .ref 69]), (100, [.int 0, .int 0, .int 0, .int 0, .int 0, .int 0, .int 0, .int 0, .int 0, .int 0, .int 0, .int 0, .int 0, .int 0, .int 0, .int 0, .int 0, .int 0, .int 0, .int 0, .int 0, .int 0, .int 0, .int 0, .int 0, .int 0, .int 0, .int 0, .int 0, .int 0, .int 0, .int 0, .int 0, .int 0, .int 0, .int 0, .int 0, .int 0, .int 0, .int 0, .int 0, .int 0, .int 0, .int 0, .int 0, .int 0, .int 0, .int 0, .int 0, .int 0, .int 0, .int 0, .int 0, .int 0, .int 0, .int 0, .int 0, .int 0, .int 0, .int 0, .int 0, .int 0, .int 0, .int 0, .int 0, .int 0, .int 0, .int 0, .int 0, .int 0, .int 0, .int 0, .int 0, .int 0, .int 0, .int 0, .int 0, .int 0, .int 0, .int 0, .int 0, .int 0, .int 0, .int 0, .int 0, .int 0, .int 0, .int 0, .int 0, .int 0, .int 0, .int 0, .int 0, .int 0, .int 0, .int 0, .int 0, .int 0, .int 0, .int 0, .int 0, .int 0, .int 0, .int 0, .int 0, .int 0, .int 0, .int 0, .int 0, .int 0, .int 0, .int 0, .int 0, .int 0, .int 0, .int 0, .int 0, .int 0, .int 0, .int 0, .int 0, .int 0, .int 0, .int 0, .int 0, .int 0, .int 0, .int 0, .int 0, .int 0, .int 0, .int 0, .int 0, .int 0, .int 0, .int 0, .int 0, .int 0, .int 0, .int 0, .int 0, .int 0, .int 0, .int 0, .int 0, .int 0, .int 0, .int 0, .int 0, .int 0, .int 0, .int 0, .int 0, .int 0, .int 0, .int 0, .int 0, .int 0, .int 0, .int 0, .int 0, .int 0, .int 0, .int 0, .int 0, .int 0, .int 0, .int 0, .int 0, .int 0, .int 0, .int 0, .int 0, .int 0, .int 0, .int 0, .int 0, .int 0, .int 0, .int 0, .int 0, .int 0, .int 0, .int 0, .int 0, .int 0, .int 0, .int 0, .int 0, .int 0, .int 0, .int 0, .int 0, .int 0, .int 0, .int 0, .int 0, .int 0, .int 0, .int 0, .int 0, .int 0, .int 0, .int 0, .int 0, .int 0, .int 0, .int 0, .int 0, .int 0, .int 0, .int 0, .int 0, .int 0, .int 0, .int 0, .int 0, .int 0, .int 0, .int 0, .int 0, .int 0, .int 0, .int 0, .int 0, .int 0, .int 0, .int 0, .int 0, .int 0, .int 0, .int 0, .int 0, .int 0, .int 0, .int 0, .int 0, .int 0, .int 0, .int 0, .int 0, .int 0, .int 0, .int 0, .int 0, .int 0, .int 0, .int 0, .int 0, .int 0, .int 0, .int 0, .int 0, .int 0, .int 0, .int 0, .int 0, .int 0, .int 0, .int 0, .int 0, .int 0, .int 0, .int 0, .int 0, .int 0, .int 0, .int 0, .int 0, .int 0, .int 0, .int 0, .int 0, .int 0, .int 0, .int 0, .int 0, .int 0, .int 0, .int 0, .int 0, .int 0, .int 0, .int 0, .int 0, .int 0, .int 0, .int 0, .int 0, .int 0, .int 0, .int 0, .int 0, .int 0, .int 0, .int 0, .int 0, .int 0, .int 0, .int 0, .int 0, .int 0, .int 0, .int 0, .int 0, .int 0, .int 0, .int 0, .int 0, .int 0, .int 0, .int 0, .int 0, .int 0, .int 0, .int 0, .int 0, .int 0, .int 0, .int 0, .int 0, .int 0, .int 0, .int 0, .int 0, .int 0, .int 0, .int 0, .int 0, .int 0, .int 0, .int 0, .int 0, .int 0, .int 0, .int 0, .int 0, .int 0, .int 0, .int 0, .int 0, .int 0, .int 0, .int 0, .int 0, .int 0, .int 0, .int 0, .int 0, .int 0, .int 0, .int 0, .int 0, .int 0, .int 0, .int 0, .int 0, .int 0, .int 0, .int 0]), (2, [.int 9, .ref 71]), (100, [.int 0, .int 0, .int 0, .int 0, .int 0, .int 0, .int 0, .int 0, .int 0, .int 0, .int 0, .int 0, .int 0, .int 0, .int 0, .int 0, .int 0, .int 0, .int 0, .int 0, .int 0, .int 0, .int 0, .int 0, .int 0, .int 0, .int 0, .int 0, .int 0, .int 0, .int 0, .int 0, .int 0, .int 0, .int 0, .int 0, .int 0, .int 0, .int 0, .int 0, .int 0, .int 0, .int 0, .int 0, .int 0, .int 0, .int 0, .int 0, .int 0, .int 0, .int 0, .int 0, .int 0, .int 0, .int 0, .int 0, .int 0, .int 0, .int 0, .int 0, .int 0, .int 0, .int 0, .int 0, .int 0, .int 0, .int 0, .int 0, .int 0, .int 0, .int 0, .int 0, .int 0, .int 0, .int 0, .int 0, .int 0, .int 0, .int 0, .int 0, .int 0, .int 0, .int 0, .int 0, .int 0, .int 0, .int 0, .int 0, .int 0, .int 0, .int 0, .int 0, .int 0, .int 0, .int 0, .int 0, .int 0, .int 0, .int 0, .int 0, .int 0, .int 0, .int 0, .int 0, .int 0, .int 0, .int 0, .int 0, .int 0, .int 0, .int 0, .int 0, .int 0, .int 0, .int 0, .int 0, .int 0, .int 0, .int 0, .int 0, .int 0, .int 0, .int 0, .int 0, .int 0, .int 0, .int 0, .int 0, .int 0, .int 0, .int 0, .int 0, .int 0, .int 0, .int 0, .int 0, .int 0, .int 0, .int 0, .int 0, .int 0, .int 0, .int 0, .int 0, .int 0, .int 0, .int 0, .int 0, .int 0, .int 0, .int 0, .int 0, .int 0, .int 0, .int 0, .int 0, .int 0, .int 0, .int 0, .int 0, .int 0, .int 0, .int 0, .int 0, .int 0, .int 0, .int 0, .int 0, .int 0, .int 0, .int 0, .int 0, .int 0, .int 0, .int 0, .int 0, .int 0, .int 0, .int 0, .int 0, .int 0, .int 0, .int 0, .int 0, .int 0, .int 0, .int 0, .int 0, .int 0, .int 0, .int 0, .int 0, .int 0, .int 0, .int 0, .int 0, .int 0, .int 0, .int 0, .int 0, .int 0, .int 0, .int 0, .int 0, .int 0, .int 0, .int 0, .int 0, .int 0, .int 0, .int 0, .int 0, .int 0, .int 0, .int 0, .int 0, .int 0, .int 0, .int 0, .int 0, .int 0, .int 0, .int 0, .int 0, .int 0, .int 0, .int 0, .int 0, .int 0, .int 0, .int 0, .int 0, .int 0, .int 0, .int 0, .int 0, .int 0, .int 0, .int 0, .int 0, .int 0, .int 0, .int 0, .int 0, .int 0, .int 0, .int 0, .int 0, .int 0, .int 0, .int 0, .int 0, .int 0, .int 0, .int 0, .int 0, .int 0, .int 0, .int 0, .int 0, .int 0, .int 0, .int 0, .int 0, .int 0, .int 0, .int 0, .int 0, .int 0, .int 0, .int 0, .int 0, .int 0, .int 0, .int 0, .int 0, .int 0, .int 0, .int 0, .int 0, .int 0, .int 0, .int 0, .int 0, .int 0, .int 0, .int 0, .int 0, .int 0, .int 0, .int 0, .int 0, .int 0, .int 0, .int 0, .int 0, .int 0, .int 0, .int 0, .int 0, .int 0, .int 0, .int 0, .int 0, .int 0, .int 0, .int 0, .int 0, .int 0, .int 0, .int 0, .int 0, .int 0, .int 0, .int 0, .int 0, .int 0, .int 0, .int 0, .int 0, .int 0, .int 0, .int 0, .int 0, .int 0, .int 0, .int 0, .int 0, .int 0, .int 0, .int 0, .int 0, .int 0, .int 0, .int 0, .int 0, .int 0, .int 0, .int 0, .int 0, .int 0, .int 0, .int 0, .int 0, .int 0, .int 0, .int 0, .int 0, .int 0, .int 0, .int 0, .int 0, .int 0, .int 0, .int 0, .int 0, .int 0, .int 0, .int 0, .int 0]), (5, [.ref 73]), (100, [.int 0, .int 0, .int 0, .int 0, .int 0]), (5, [.ref 75]), (100, [.int 0, .int 0, .int 0, .int 0, .int 0, .int 0, .int 0, .int 0]), (5, [.ref 77]), (100, [.int 0, .int 0, .int 0, .int 0, .int 0, .int 0, .int 0, .int 0])]
def xf1k : Nat := 2326
def xf2 : xH := [(9, [.ref 5, .ref 14, .ref 19, .ref 22, .ref 29, .ref 34, .ref 56, .int 0, .int 0]), (0, [.int 0, .ref 6, .ref 8, .ref 10, .ref 12]), (5, [.ref 7]), (100, [.int 0, .int 0, .int 0, .int 0, .int 0, .int 0, .int 0, .int 0, .int 0, .int 0]), (5, [.ref 9]), (100, [.int 0, .int 0, .int 0, .int 0, .int 0, .int 0, .int 0, .int 0, .int 0, .int 0]), (2, [.int 10, .ref 11]), (100, [.int 0, .int 0, .int 0, .int 0, .int 0, .int 0, .int 0, .int 0, .int 0, .int 0, .int 0, .int 0, .int 0, .int 0, .int 0, .int 0, .int 0, .int 0, .int 0, .int 0, .int 0, .int 0, .int 0, .int 0, .int 0, .int 0, .int 0, .int 0, .int 0, .int 0, .int 0, .int 0, .int 0, .int 0, .int 0, .int 0, .int 0, .int 0, .int 0, .int 0, .int 0, .int 0, .int 0, .int 0, .int 0, .int 0, .int 0, .int 0, .int 0, .int 0, .int 0, .int 0, .int 0, .int 0, .int 0, .int 0, .int 0, .int 0, .int 0, .int 0, .int 0, .int 0, .int 0, .int 0, .int 0, .int 0, .int 0, .int 0, .int 0, .int 0, .int 0, .int 0, .int 0, .int 0, .int 0, .int 0, .int 0, .int 0, .int 0, .int 0, .int 0, .int 0, .int 0, .int 0, .int 0, .int 0, .int 0, .int 0, .int 0, .int 0, .int 0, .int 0, .int 0, .int 0, .int 0, .int 0, .int 0, .int 0, .int 0, .int 0]), (2, [.int 5, .ref 13]), (100, [.int 0, .int 0, .int 0, .int 0, .int 0, .int 0, .int 0, .int 0, .int 0, .int 0, .int 0, .int 0, .int 0, .int 0, .int 0, .int 0, .int 0, .int 0, .int 0, .int 0, .int 0, .int 0, .int 0, .int 0, .int 0, .int 0, .int 0, .int 0, .int 0, .int 0, .int 0, .int 0, .int 0, .int 0, .int 0, .int 0, .int 0, .int 0, .int 0, .int 0, .int 0, .int 0, .int 0, .int 0, .int 0, .int 0, .int 0, .int 0, .int 0, .int 0]), (3, [.int 0, .ref 15, .ref 17]), (5, [.ref 16]), (100, [.int 0, .int 0, .int 0, .int 0, .int 0, .int 0, .int 0]), (5, [.ref 18]), (100, [.int 0, .int 0, .int 0, .int 0, .int 0, .int 0, .int 0]), (1, [.int 0, .int 0, .int 0, .int 0, .int 0, .int 0, .ref 20]), (5, [.ref 21]), (100, [.int 0, .int 0, .int 0, .int 0, .int 0, .int 0, .int 0, .int 0, .int 0, .int 0]), (4, [.int 0, .int 0, .int 0, .int 0, .ref 23, .ref 25, .ref 27]), (2, [.int 5, .ref 24]), (100, [.int 0, .int 0, .int 0, .int 0, .int 0, .int 0, .int 0, .int 0, .int 0, .int 0, .int 0, .int 0, .int 0, .int 0, .int 0, .int 0, .int 0, .int 0, .int 0, .int 0, .int 0, .int 0, .int 0, .int 0, .int 0, .int 0, .int 0, .int 0, .int 0, .int 0, .int 0, .int 0, .int 0, .int 0, .int 0]), (5, [.ref 26]), (100, [.int (-1), .int (-1), .int (-1), .int (-1), .int (-1), .int (-1), .int (-1), .int (-1), .int (-1), .int (-1)]), (5, [.ref 28]), (100, [.int 0, .int 0, .int 0, .int 0, .int 0]), (7, [.int 0, .int 0, .ref 30, .ref 32]), (2, [.int 8, .ref 31]), (100, [.int 0, .int 0, .int 0, .int 0, .int 0, .int 0, .int 0, .int 0, .int 0, .int 0, .int 0, .int 0, .int 0, .int 0, .int 0, .int 0, .int 0, .int 0, .int 0, .int 0, .int 0, .int 0, .int 0, .int 0, .int 0, .int 0, .int 0, .int 0, .int 0, .int 0, .int 0, .int 0, .int 0, .int 0, .int 0, .int 0, .int 0, .int 0, .int 0, .int 0, .int 0, .int 0, .int 0, .int 0, .int 0, .int 0, .int 0, .int 0, .int 0, .int 0, .int 0, .int 0, .int 0, .int 0, .int 0, .int 0, .int 0, .int 0, .int 0, .int 0, .int 0, .int 0, .int 0, .int 0, .int 0, .int 0, .int 0, .int 0, .int 0, .int 0, .int 0, .int 0, .int 0, .int 0, .int 0, .int 0, .int 0, .int 0, .int 0, .int 0, .int 0, .int 0, .int 0, .int 0, .int 0, .int 0, .int 0, .int 0, .int 0, .int 0, .int 0, .int 0, .int 0, .int 0, .int 0, .int 0, .int 0, .int 0, .int 0, .int 0, .int 0, .int 0, .int 0, .int 0, .int 0, .int 0, .int 0, .int 0, .int 0, .int 0, .int 0, .int 0, .int 0, .int 0, .int 0, .int 0, .int 0, .int 0, .int 0, .int 0, .int 0, .int 0, .int 0, .int 0, .int 0, .int 0, .int 0, .int 0, .int 0, .int 0, .int 0, .int 0, .int 0, .int 0, .int 0, .int 0, .int 0, .int 0, .int 0, .int 0, .int 0, .int 0, .int 0, .int 0, .int 0, .int 0, .int 0, .int 0, .int 0, .int 0, .int 0, .int 0, .int 0, .int 0, .int 0, .int 0, .int 0, .int 0, .int 0, .int 0, .int 0, .int 0, .int 0, .int 0, .int 0, .int 0, .int 0, .int 0, .int 0, .int 0, .int 0, .int 0, .int 0, .int 0, .int 0, .int 0, .int 0, .int 0, .int 0, .int 0, .int 0, .int 0, .int 0, .int 0, .int 0, .int 0, .int 0, .int 0, .int 0, .int 0, .int 0, .int 0, .int 0, .int 0, .int 0, .int 0, .int 0, .int 0, .int 0, .int 0, .int 0, .int 0, .int 0, .int 0, .int 0, .int 0, .int 0, .int 0, .int 0, .int 0, .int 0, .int 0, .int 0, .int 0, .int 0, .int 0, .int 0, .int 0, .int 0, .int 0, .int 0, .int 0, .int 0, .int 0, .int 0, .int 0, .int 0, .int 0, .int 0, .int 0, .int 0, .int 0, .int 0, .int 0, .int 0, .int 0, .int 0, .int 0, .int 0, .int 0, .int 0, .int 0, .int 0, .int 0, .int 0, .int 0, .int 0, .int 0, .int 0, .int 0, .int 0, .int 0, .int 0, .int 0, .int 0, .int 0, .int 0, .int 0, .int 0, .int 0, .int 0, .int 0, .int 0, .int 0, .int 0, .int 0, .int 0, .int 0, .int 0, .int 0, .int 0, .int 0, .int 0, .int 0, .int 0, .int 0, .int 0, .int 0, .int 0, .int 0]), (5, [.ref 33]), (100, [.int 0, .int 0, .int 0, .int 0, .int 0]), (6, [.int 0, .int 0, .ref 35, .ref 37, .ref 39, .ref 41, .ref 43, .ref 45, .ref 50, .ref 52, .ref 54]), (2, [.int 8, .ref 36]), (100, [.int 0, .int 0, .int 0, .int 0, .int 0, .int 0, .int 0, .int 0, .int 0, .int 0, .int 0, .int 0, .int 0, .int 0, .int 0, .int 0, .int 0, .int 0, .int 0, .int 0, .int 0, .int 0, .int 0, .int 0, .int 0, .int 0, .int 0, .int 0, .int 0, .int 0, .int 0, .int 0, .int 0, .int 0, .int 0, .int 0, .int 0, .int 0, .int 0, .int 0]), (2, [.int 8, .ref 38]), (100, [.int 0, .int 0, .int 0, .int 0, .int 0, .int 0, .int 0, .int 0, .int 0, .int 0, .int 0, .int 0, .int 0, .int 0, .int 0, .int 0, .int 0, .int 0, .int 0, .int 0, .int 0, .int 0, .int 0, .int 0, .int 0, .int 0, .int 0, .int 0, .int 0, .int 0, .int 0, .int 0, .int 0, .int 0, .int 0, .int 0, .int 0, .int 0, .int 0, .int 0]), (5, [.ref 40]), (100, [.int 0, .int 0, .int 0, .int 0, .int 0, .int 0, .int 0, .int 0]), (5, [.ref 42]), (100, [.int 0, .int 0, .int 0, .int 0, .int 0, .int 0, .int 0, .int 0]), (5, [.ref 44]), (100, [.int 0, .int 0, .int 0, .int 0, .int 0, .int 0, .int 0, .int 0]), (8, [.int 0, .ref 46, .ref 48]), (2, [.int 9, .ref 47]), (100, [.int 0, .int 0, .int 0, .int 0, .int 0, .int 0, .int 0, .int 0, .int 0, .int 0, .int 0, .int 0, .int 0, .int 0, .int 0, .int 0, .int 0, .int 0, .int 0, .int 0, .int 0, .int 0, .int 0, .int 0, .int 0, .int 0, .int 0, .int 0, .int 0, .int 0, .int 0, .int 0, .int 0, .int 0, .int 0, .int 0, .int 0, .int 0, .int 0, .int 0, .int 0, .int 0, .int 0, .int 0, .int 0, .int 0, .int 0, .int 0, .int 0, .int 0, .int 0, .int 0, .int 0, .int 0, .int 0, .int 0, .int 0, .int 0, .int 0, .int 0, .int 0, .int 0, .int 0, .int 0, .int 0, .int 0, .int 0, .int 0, .int 0, .int 0, .int 0, .int 0, .int 0, .int 0, .int 0, .int 0, .int 0, .int 0, .int 0, .int 0, .int 0, .int 0, .int 0, .int 0, .int 0, .int 0, .int 0, .int 0, .int 0, .int 0, .int 0, .int 0, .int 0, .int 0, .int 0, .int 0, .int 0, .int 0, .int 0, .int 0, .int 0, .int 0, .int 0, .int 0, .int 0, .int 0, .int 0, .int 0, .int 0, .int 0, .int 0, .int 0, .int 0, .int 0, .int 0, .int 0, .int 0, .int 0, .int 0, .int 0, .int 0, .int 0, .int 0, .int 0, .int 0, .int 0, .int 0, .int 0, .int 0, .int 0, .int 0, .int 0, .int 0, .int 0, .int 0, .int 0, .int 0, .int 0, .int 0, .int 0, .int 0, .int 0, .int 0, .int 0, .int 0, .int 0, .int 0, .int 0, .int 0, .int 0, .int 0, .int 0, .int 0, .int 0, .int 0, .int 0, .int 0, .int 0, .int 0, .int 0, .int 0, .int 0, .int 0, .int 0, .int 0, .int 0, .int 0, .int 0, .int 0, .int 0, .int 0, .int 0, .int 0, .int 0, .int 0, .int 0, .int 0, .int 0, .int 0, .int 0, .int 0, .int 0, .int 0, .int 0, .int 0, .int 0, .int 0, .int 0, .int 0, .int 0, .int 0, .int 0, .int 0, .int 0, .int 0, .int 0, .int 0, .int 0, .int 0, .int 0, .int 0, .int 0, .int 0, .int 0, .int 0, .int 0, .int 0, .int 0, .int 0, .int 0, .int 0, .int 0, .int 0, .int 0, .int 0, .int 0, .int 0, .int 0, .int 0, .int 0, .int 0, .int 0, .int 0, .int 0, .int 0, .int 0, .int 0, .int 0, .int 0, .int 0, .int 0, .int 0, .int 0, .int 0, .int 0, .int 0, .int 0, .int 0, .int 0, .int 0, .int 0, .int 0, .int 0, .int 0, .int 0, .int 0, .int 0, .int 0, .int 0, .int 0, .int 0, .int 0, .int 0, .int 0, .int 0, .int 0, .int 0, .int 0, .int 0, .int 0, .int 0, .int 0, .int 0, .int 0, .int 0, .int 0, .int 0, .int 0, .int 0, .int 0, .int 0, .int 0, .int 0, .int 0, .int 0, .int 0, .int 0, .int 0, .int 0, .int 0, .int 0, .int 0, .int 0, .int 0, .int 0, .int 0, .int 0, .int 0, .int 0, .int 0, .int 0, .int 0, .int 0, .int 0, .int 0, .int 0, .int 0, .int 0, .int 0, .int 0, .int 0, .int 0, .int 0, .int 0, .int 0, .int 0, .int 0, .int 0, .int 0, .int 0, .int 0, .int 0, .int 0, .int 0, .int 0, .int 0, .int 0, .int 0, .int 0, .int 0, .int 0, .int 0, .int 0, .int 0, .int 0, .int 0, .int 0, .int 0, .int 0, .int 0, .int 0, .int 0, .int 0, .int 0, .int 0, .int 0, .int 0, .int 0, .int 0, .int 0, .int 0, .int 0, .int 0, .int 0, .int 0, .int 0, .int 0, .int 0, .int 0, .int 0, .int 0, .int 0, .int 0, .int 0, .int 0, .int 0, .int 0, .int 0, .int 0, .int 0]), (2, [.int 9, .ref 49]), (100, [.int 0, .int 0, .int 0, .int 0, .int 0, .int 0, .int 0, .int 0, .int 0, .int 0, .int 0, .int 0, .int 0, .int 0, .int 0, .int 0, .int 0, .int 0, .int 0, .int 0, .int 0, .int 0, .int 0, .int 0, .int 0, .int 0, .int 0, .int 0, .int 0, .int 0, .int 0, .int 0, .int 0, .int 0, .int 0, .int 0, .int 0, .int 0, .int 0, .int 0, .int 0, .int 0, .int 0, .int 0, .int 0, .int 0, .int 0, .int 0, .int 0, .int 0, .int 0, .int 0, .int 0, .int 0, .int 0, .int 0, .int 0, .int 0, .int 0, .int 0, .int 0, .int 0, .int 0, .int 0, .int 0, .int 0, .int 0, .int 0, .int 0, .int 0, .int 0, .int 0, .int 0, .int 0, .int 0, .int 0, .int 0, .int 0, .int 0, .int 0, .int 0, .int 0, .int 0, .int 0, .int 0, .int 0, .int 0, .int 0, .int 0, .int 0, .int 0, .int 0, .int 0, .int 0, .int 0, .int 0, .int 0, .int 0, .int 0, .int 0, .int 0, .int 0, .int 0, .int 0, .int 0, .int 0, .int 0, .int 0, .int 0, .int 0, .int 0, .int 0, .int 0, .int 0, .int 0, .int 0, .int 0, .int 0, .int 0, .int 0, .int 0, .int 0, .int 0, .int 0, .int 0, .int 0, .int 0, .int 0, .int 0, .int 0, .int 0, .int 0, .int 0, .int 0, .int 0, .int 0, .int 0, .int 0, .int 0, .int 0, .int 0, .int 0, .int 0, .int 0, .int 0, .int 0, .int 0, .int 0, .int 0, .int 0, .int 0, .int 0, .int 0, .int 0, .int 0, .int 0, .int 0, .int 0, .int 0, .int 0, .int 0, .int 0, .int 0, .int 0, .int 0, .int 0, .int 0, .int 0, .int 0, .int 0, .int 0, .int 0, .int 0, .int 0, .int 0, .int 0, .int 0, .int 0, .int 0, .int 0, .int 0, .int 0, .int 0, .int 0, .int 0, .int 0, .int 0, .int 0, .int 0, .int 0, .int 0, .int 0, .int 0, .int 0, .int 0, .int 0, .int 0, .int 0, .int 0, .int 0, .int 0, .int 0, .int 0, .int 0, .int 0, .int 0, .int 0, .int 0, .int 0, .int 0, .int 0, .int 0, .int 0, .int 0, .int 0, .int 0, .int 0, .int 0, .int 0, .int 0, .int 0, .int 0, .int 0, .int 0, .int 0, .int 0, .int 0, .int 0, .int 0, .int 0, .int 0, .int 0, .int 0, .int 0, .int 0, .int 0, .int 0, .int 0, .int 0, .int 0, .int 0, .int 0, .int 0, .int 0, .int 0, .int 0, .int 0, .int 0, .int 0, .int 0, .int 0, .int 0, .int 0, .int 0, .int 0, .int 0, .int 0, .int 0, .int 0, .int 0, .int 0, .int 0, .int 0, .int 0, .int 0, .int 0, .int 0, .int 0, .int 0, .int 0, .int 0, .int 0, .int 0, .int 0, .int 0, .int 0, .int 0, .int 0, .int 0, .int 0, .int 0, .int 0, .int 0, .int 0, .int 0, .int 0, .int 0, .int 0, .int 0, .int 0, .int 0, .int 0, .int 0, .int 0, .int 0, .int 0, .int 0, .int 0, .int 0, .int 0, .int 0, .int 0, .int 0, .int 0, .int 0, .int 0, .int 0, .int 0, .int 0, .int 0, .int 0, .int 0, .int 0, .int 0, .int 0, .int 0, .int 0, .int 0, .int 0, .int 0, .int 0, .int 0, .int 0, .int 0, .int 0, .int 0, .int 0, .int 0, .int 0, .int 0, .int 0, .int 0, .int 0, .int 0, .int 0, .int 0, .int 0, .int 0, .int 0, .int 0, .int 0, .int 0, .int 0, .int 0, .int 0, .int 0, .int 0, .int 0, .int 0, .int 0, .int 0, .int 0, .int 0, .int 0, .int 0, .int 0, .int 0, .int 0, .int 0, .int 0]), (5, [.ref 51]), (100, [.int 0, .int 0, .int 0, .int 0, .int 0]), (5, [.ref 53]), (100, [.int 0, .int 0, .int 0, .int 0, .int 0, .int 0, .int 0, .int 0]), (5, [.ref 55]), (100, [.int 0, .int 0, .int 0, .int 0, .int 0, .int 0, .int 0, .int 0]), (6, [.int 0, .int 0, .ref 57, .ref 59, .ref 61, .ref 63, .ref 65, .ref 67, .ref 72, .ref 74, .ref 76]), (2, [.int 8, .ref 58]), (100, [.int 0, .int 0, .int 0, .int 0, .int 0, .int 0, .int 0, .int 0, .int 0, .int 0, .int 0, .int 0, .int 0, .int 0, .int 0, .int 0, .int 0, .int 0, .int 0, .int 0, .int 0, .int 0, .int 0, .int 0, .int 0, .int 0, .int 0, .int 0, .int 0, .int 0, .int 0, .int 0, .int 0, .int 0, .int 0, .int 0, .int 0, .int 0, .int 0, .int 0]), (2, [.int 8, .ref 60]), (100, [.int 0, .int 0, .int 0, .int 0, .int 0, .int 0, .int 0, .int 0, .int 0, .int 0, .int 0, .int 0, .int 0, .int 0, .int 0, .int 0, .int 0, .int 0, .int 0, .int 0, .int 0, .int 0, .int 0, .int 0, .int 0, .int 0, .int 0, .int 0, .int 0, .int 0, .int 0, .int 0, .int 0, .int 0, .int 0, .int 0, .int 0, .int 0, .int 0, .int 0]), (5, [.ref 62]), (100, [.int 0, .int 0, .int 0, .int 0, .int 0, .int 0, .int 0, .int 0]), (5, [.ref 64]), (100, [.int 0, .int 0, .int 0, .int 0, .int 0, .int 0, .int 0, .int 0]), (5, [.ref 66]), (100, [.int 0, .int 0, .int 0, .int 0, .int 0, .int 0, .int 0, .int 0]), (8, [.int 0, .ref 68, .ref 70]), (2, [.int 9, .ref 69]), (100, [.int 0, .int 0, .int 0, .int 0, .int 0, .int 0, .int 0, .int 0, .int 0, .int 0, .int 0, .int 0, .int 0, .int 0, .int 0, .int 0, .int 0, .int 0, .int 0, .int 0, .int 0, .int 0, .int 0, .int 0, .int 0, .int 0, .int 0, .int 0, .int 0, .int 0, .int 0, .int 0, .int 0, .int 0, .int 0, .int 0, .int 0, .int 0, .int 0, .int 0, .int 0, .int 0, .int 0, .int 0, .int 0, .int 0, .int 0, .int 0, .int 0, .int 0, .int 0, .int 0, .int 0, .int 0, .int 0, .int 0, .int 0, .int 0, .int 0, .int 0, .int 0, .int 0, .int 0, .int 0, .int 0, .int 0, .int 0, .int 0, .int 0, .int 0, .int 0, .int 0, .int 0, .int 0, .int 0, .int 0, .int 0, .int 0, .int 0, .int 0, .int 0, .int 0, .int 0, .int 0, .int 0, .int 0, .int 0, .int 0, .int 0, .int 0, .int 0, .int 0, .int 0, .int 0, .int 0, .int 0, .int 0, .int 0, .int 0, .int 0, .int 0, .int 0, .int 0, .int 0, .int 0, .int 0, .int 0, .int 0, .int 0, .int 0, .int 0, .int 0, .int 0, .int 0, .int 0, .int 0, .int 0, .int 0, .int 0, .int 0, .int 0, .int 0, .int 0, .int 0, .int 0, .int 0, .int 0, .int 0, .int 0, .int 0, .int 0, .int 0, .int 0, .int 0, .int 0, .int 0, .int 0, .int 0, .int 0, .int 0, .int 0, .int 0, .int 0, .int 0, .int 0, .int 0, .int 0, .int 0, .int 0, .int 0, .int 0, .int 0, .int 0, .int 0, .int 0, .int 0, .int 0, .int 0, .int 0, .int 0, .int 0, .int 0, .int 0, .int 0, .int 0, .int 0, .int 0, .int 0, .int 0, .int 0, .int 0, .int 0, .int 0, .int 0, .int 0, .int 0, .int 0, .int 0, .int 0, .int 0, .int 0, .int 0, .int 0, .int 0, .int 0, .int 0, .int 0, .int 0, .int 0, .int 0, .int 0, .int 0, .int 0, .int 0, .int 0, .int 0, .int 0, .int 0, .int 0, .int 0, .int 0, .int 0, .int 0, .int 0, .int 0, .int 0, .int 0, .int 0, .int 0, .int 0, .int 0, .int 0, .int 0, .int 0, .int 0, .int 0, .int 0, .int 0, .int 0, .int 0, .int 0, .int 0, .int 0, .int 0, .int 0, .int 0, .int 0, .int 0, .int 0, .int 0, .int 0, .int 0, .int 0, .int 0, .int 0, .int 0, .int 0, .int 0, .int 0, .int 0, .int 0, .int 0, .int 0, .int 0, .int 0, .int 0, .int 0, .int 0, .int 0, .int 0, .int 0, .int 0, .int 0, .int 0, .int 0, .int 0, .int 0, .int 0, .int 0, .int 0, .int 0, .int 0, .int 0, .int 0, .int 0, .int 0, .int 0, .int 0, .int 0, .int 0, .int 0, .int 0, .int 0, .int 0, .int 0, .int 0, .int 0, .int 0, .int 0, .int 0, .int 0, .int 0, .int 0, .int 0, .int 0, .int 0, .int 0, .int 0, .int 0, .int 0, .int 0, .int 0, .int 0, .int 0, .int 0, .int 0, .int 0, .int 0, .int 0, .int 0, .int 0, .int 0, .int 0, .int 0, .int 0, .int 0, .int 0, .int 0, .int 0, .int 0, .int 0, .int 0, .int 0, .int 0, .int 0, .int 0, .int 0, .int 0, .int 0, .int 0, .int 0, .int 0, .int 0, .int 0, .int 0, .int 0, .int 0, .int 0, .int 0, .int 0, .int 0, .int 0, .int 0, .int 0, .int 0, .int 0, .int 0, .int 0, .int 0, .int 0, .int 0, .int 0, .int 0, .int 0, .int 0, .int 0, .int 0, .int 0, .int 0, .int 0, .int 0, .int 0, .int 0, .int 0, .int 0, .int 0, .int 0, .int 0, .int 0, .int 0]), (2, [.int 9, .ref 71]), (100, [.int 0, .int 0, .int 0, .int 0, .int 0, .int 0, .int 0, .int 0, .int 0, .int 0, .int 0, .int 0, .int 0, .int 0, .int 0, .int 0, .int 0, .int 0, .int 0, .int 0, .int 0, .int 0, .int 0, .int 0, .int 0, .int 0, .int 0, .int 0, .int 0, .int 0, .int 0, .int 0, .int 0, .int 0, .int 0, .int 0, .int 0, .int 0, .int 0, .int 0, .int 0, .int 0, .int 0, .int 0, .int 0, .int 0, .int 0, .int 0, .int 0, .int 0, .int 0, .int 0, .int 0, .int 0, .int 0, .int 0, .int 0, .int 0, .int 0, .int 0, .int 0, .int 0, .int 0, .int 0, .int 0, .int 0, .int 0, .int 0, .int 0, .int 0, .int 0, .int 0, .int 0, .int 0, .int 0, .int 0, .int 0, .int 0, .int 0, .int 0, .int 0, .int 0, .int 0, .int 0, .int 0, .int 0, .int 0, .int 0, .int 0, .int 0, .int 0, .int 0, .int 0, .int 0, .int 0, .int 0, .int 0, .int 0, .int 0, .int 0, .int 0, .int 0, .int 0, .int 0, .int 0, .int 0, .int 0, .int 0, .int 0, .int 0, .int 0, .int 0, .int 0, .int 0, .int 0, .int 0, .int 0, .int 0, .int 0, .int 0, .int 0, .int 0, .int 0, .int 0, .int 0, .int 0, .int 0, .int 0, .int 0, .int 0, .int 0, .int 0, .int 0, .int 0, .int 0, .int 0, .int 0, .int 0, .int 0, .int 0, .int 0, .int 0, .int 0, .int 0, .int 0, .int 0, .int 0, .int 0, .int 0, .int 0, .int 0, .int 0, .int 0, .int 0, .int 0, .int 0, .int 0, .int 0, .int 0, .int 0, .int 0, .int 0, .int 0, .int 0, .int 0, .int 0, .int 0, .int 0, .int 0, .int 0, .int 0, .int 0, .int 0, .int 0, .int 0, .int 0, .int 0, .int 0, .int 0, .int 0, .int 0, .int 0, .int 0, .int 0, .int 0, .int 0, .int 0, .int 0, .int 0, .int 0, .int 0, .int 0, .int 0, .int 0, .int 0, .int 0, .int 0, .int 0, .int 0, .int 0, .int 0, .int 0, .int 0, .int 0, .int 0, .int 0, .int 0, .int 0, .int 0, .int 0, .int 0, .int 0, .int 0, .int 0, .int 0, .int 0, .int 0, .int 0, .int 0, .int 0, .int 0, .int 0, .int 0, .int 0, .int 0, .int 0, .int 0, .int 0, .int 0, .int 0, .int 0, .int 0, .int 0, .int 0, .int 0, .int 0, .int 0, .int 0, .int 0, .int 0, .int 0, .int 0, .int 0, .int 0, .int 0, .int 0, .int 0, .int 0, .int 0, .int 0, .int 0, .int 0, .int 0, .int 0, .int 0, .int 0, .int 0, .int 0, .int 0, .int 0, .int 0, .int 0, .int 0, .int 0, .int 0, .int 0, .int 0, .int 0, .int 0, .int 0, .int 0, .int 0, .int 0, .int 0, .int 0, .int 0, .int 0, .int 0, .int 0, .int 0, .int 0, .int 0, .int 0, .int 0, .int 0, .int 0, .int 0, .int 0, .int 0, .int 0, .int 0, .int 0, .int 0, .int 0, .int 0, .int 0, .int 0, .int 0, .int 0, .int 0, .int 0, .int 0, .int 0, .int 0, .int 0, .int 0, .int 0, .int 0, .int 0, .int 0, .int 0, .int 0, .int 0, .int 0, .int 0, .int 0, .int 0, .int 0, .int 0, .int 0, .int 0, .int 0, .int 0, .int 0, .int 0, .int 0, .int 0, .int 0, .int 0, .int 0, .int 0, .int 0, .int 0, .int 0, .int 0, .int 0, .int 0, .int 0, .int 0, .int 0, .int 0, .int 0, .int 0, .int 0, .int 0, .int 0, .int 0, .int 0, .int 0, .int 0, .int 0, .int 0, .int 0, .int 0, .int 0, .int 0, .int 0, .int 0, .int 0, .int 0]), (5, [.ref 73]), (100, [.int 0, .int 0, .int 0, .int 0, .int 0]), (5, [.ref 75]), (100, [.int 0, .int 0, .int 0, .int 0, .int 0, .int 0, .int 0, .int 0]), (5, [.ref 77]), (100, [.int 0, .int 0, .int 0, .int 0, .int 0, .int 0, .int 0, .int 0]), (11, [.int 0, .ref 79, .ref 80, .ref 81, .ref 82, .ref 83, .ref 94, .int 0, .int 0, .int 0, .int 0, .int 0, .int 0, .int 0, .int 0, .int 0, .int 0, .int 0, .int 0, .int 0, .ref 95, .ref 96, .ref 97, .ref 105, .ref 106, .ref 149]), (100, [.int 0, .int 0, .int 0, .int 0, .int 0, .int 0, .int 0, .int 0, .int 0, .int 0]), (100, [.int 0, .int 0, .int 0, .int 0, .int 0, .int 0, .int 0, .int 0, .int 0, .int 0]), (100, [.int 0, .int 0, .int 0, .int 0, .int 0, .int 0, .int 0]), (100, [.int 0, .int 0, .int 0, .int 0, .int 0, .int 0, .int 0]), (103, [.ref 84, .ref 85, .ref 86, .ref 87, .ref 88, .ref 89, .ref 90, .ref 91, .ref 92, .ref 93]), (100, [.int 0, .int 0, .int 0, .int 0, .int 0, .int 0, .int 0, .int 0, .int 0, .int 0]), (100, [.int 0, .int 0, .int 0, .int 0, .int 0, .int 0, .int 0, .int 0, .int 0, .int 0]), (100, [.int 0, .int 0, .int 0, .int 0, .int 0, .int 0, .int 0, .int 0, .int 0, .int 0]), (100, [.int 0, .int 0, .int 0, .int 0, .int 0, .int 0, .int 0, .int 0, .int 0, .int 0]), (100, [.int 0, .int 0, .int 0, .int 0, .int 0, .int 0, .int 0, .int 0, .int 0, .int 0]), (100, [.int 0, .int 0, .int 0, .int 0, .int 0, .int 0, .int 0, .int 0, .int 0, .int 0]), (100, [.int 0, .int 0, .int 0, .int 0, .int 0, .int 0, .int 0, .int 0, .int 0, .int 0]), (100, [.int 0, .int 0, .int 0, .int 0, .int 0, .int 0, .int 0, .int 0, .int 0, .int 0]), (100, [.int 0, .int 0, .int 0, .int 0, .int 0, .int 0, .int 0, .int 0, .int 0, .int 0]), (100, [.int 0, .int 0, .int 0, .int 0, .int 0, .int 0, .int 0, .int 0, .int 0, .int 0]), (12, [.int 0, .ref 1, .int 0]), (100, [.int 0, .int 0, .int 0, .int 0, .int 0, .int 0, .int 0, .int 0, .int 0, .int 0]), (100, [.int 0, .int 0, .int 0, .int 0, .int 0, .int 0, .int 0, .int 0, .int 0, .int 0]), (103, [.ref 98, .ref 99, .ref 100, .ref 101, .ref 102, .ref 103, .ref 104]), (100, [.int 0, .int 0, .int 0, .int 0, .int 0]), (100, [.int 0, .int 0, .int 0, .int 0, .int 0]), (100, [.int 0, .int 0, .int 0, .int 0, .int 0]), (100, [.int 0, .int 0, .int 0, .int 0, .int 0]), (100, [.int 0, .int 0, .int 0, .int 0, .int 0]), (100, [.int 0, .int 0, .int 0, .int 0, .int 0]), (100, [.int 0, .int 0, .int 0, .int 0, .int 0]), (100, []), (104, [.ref 107, .ref 113, .ref 119, .ref 125, .ref 131, .ref 137, .ref 143]), (103, [.ref 108, .ref 109, .ref 110, .ref 111, .ref 112]), (100, [.int 0, .int 0, .int 0, .int 0, .int 0, .int 0, .int 0, .int 0]), (100, [.int 0, .int 0, .int 0, .int 0, .int 0, .int 0, .int 0, .int 0]), (100, [.int 0, .int 0, .int 0, .int 0, .int 0, .int 0, .int 0, .int 0]), (100, [.int 0, .int 0, .int 0, .int 0, .int 0, .int 0, .int 0, .int 0]), (100, [.int 0, .int 0, .int 0, .int 0, .int 0, .int 0, .int 0, .int 0]), (103, [.ref 114, .ref 115, .ref 116, .ref 117, .ref 118]), (100, [.int 0, .int 0, .int 0, .int 0, .int 0, .int 0, .int 0, .int 0]), (100, [.int 0, .int 0, .int 0, .int 0, .int 0, .int 0, .int 0, .int 0]), (100, [.int 0, .int 0, .int 0, .int 0, .int 0, .int 0, .int 0, .int 0]), (100, [.int 0, .int 0, .int 0, .int 0, .int 0, .int 0, .int 0, .int 0]), (100, [.int 0, .int 0, .int 0, .int 0, .int 0, .int 0, .int 0, .int 0]), (103, [.ref 120, .ref 121, .ref 122, .ref 123, .ref 124]), (100, [.int 0, .int 0, .int 0, .int 0, .int 0, .int 0, .int 0, .int 0]), (100, [.int 0, .int 0, .int 0, .int 0, .int 0, .int 0, .int 0, .int 0]), (100, [.int 0, .int 0, .int 0, .int 0, .int 0, .int 0, .int 0, .int 0]), (100, [.int 0, .int 0, .int 0, .int 0, .int 0, .int 0, .int 0, .int 0]), (100, [.int 0, .int 0, .int 0, .int 0, .int 0, .int 0, .int 0, .int 0]), (103, [.ref 126, .ref 127, .ref 128, .ref 129, .ref 130]), (100, [.int 0, .int 0, .int 0, .int 0, .int 0, .int 0, .int 0, .int 0]), (100, [.int 0, .int 0, .int 0, .int 0, .int 0, .int 0, .int 0, .int 0]), (100, [.int 0, .int 0, .int 0, .int 0, .int 0, .int 0, .int 0, .int 0]), (100, [.int 0, .int 0, .int 0, .int 0, .int 0, .int 0, .int 0, .int 0]), (100, [.int 0, .int 0, .int 0, .int 0, .int 0, .int 0, .int 0, .int 0]), (103, [.ref 132, .ref 133, .ref 134, .ref 135, .ref 136]), (100, [.int 0, .int 0, .int 0, .int 0, .int 0, .int 0, .int 0, .int 0]), (100, [.int 0, .int 0, .int 0, .int 0, .int 0, .int 0, .int 0, .int 0]), (100, [.int 0, .int 0, .int 0, .int 0, .int 0, .int 0, .int 0, .int 0]), (100, [.int 0, .int 0, .int 0, .int 0, .int 0, .int 0, .int 0, .int 0]), (100, [.int 0, .int 0, .int 0, .int 0, .int 0, .int 0, .int 0, .int 0]), (103, [.ref 138, .ref 139, .ref 140, .ref 141, .ref 142]), (100, [.int 0, .int 0, .int 0, .int 0, .int 0, .int 0, .int 0, .int 0]), (100, [.int 0, .int 0, .int 0, .int 0, .int 0, .int 0, .int 0, .int 0]), (100, [.int 0, .int 0, .int 0, .int 0, .int 0, .int 0, .int 0, .int 0]), (100, [.int 0, .int 0, .int 0, .int 0, .int 0, .int 0, .int 0, .int 0]), (100, [.int 0, .int 0, .int 0, .int 0, .int 0, .int 0, .int 0, .int 0]), (103, [.ref 144, .ref 145, .ref 146, .ref 147, .ref 148]), (100, [.int 0, .int 0, .int 0, .int 0, .int 0, .int 0, .int 0, .int 0]), (100, [.int 0, .int 0, .int 0, .int 0, .int 0, .int 0, .int 0, .int 0]), (100, [.int 0, .int 0, .int 0, .int 0, .int 0, .int 0, .int 0, .int 0]), (100, [.int 0, .int 0, .int 0, .int 0, .int 0, .int 0, .int 0, .int 0]), (100, [.int 0, .int 0, .int 0, .int 0, .int 0, .int 0, .int 0, .int 0]), (105, [.ref 150, .ref 151, .ref 152, .ref 153, .ref 154, .ref 155, .ref 156, .ref 157]), (102, [.int 0, .int 0, .int 0, .int 0, .int 0]), (102, [.int 0, .int 0, .int 0, .int 0, .int 0]), (102, [.int 0, .int 0, .int 0, .int 0, .int 0]), (102, [.int 0, .int 0, .int 0, .int 0, .int 0]), (102, [.int 0, .int 0, .int 0, .int 0, .int 0]), (102, [.int 0, .int 0, .int 0, .int 0, .int 0]), (102, [.int 0, .int 0, .int 0, .int 0, .int 0]), (102, [.int 0, .int 0, .int 0, .int 0, .int 0])]
def xf2k : Nat := 2931
def xf3 : xH := xf2 ++ [(101, [.long 0])]
set_option maxRecDepth 100000 in
theorem xf1_ok : xcall 3000 none 8 0 [.ref 4] [(9, xdef 9)] 9 = some (none, none, xf1, xf1k) := xoq_ok (by decide +kernel)
set_option maxRecDepth 100000 in
theorem xf2_ok : xcall 3000 none 8 137 [.ref 78] (xf1 ++ [(11, xdef 11)]) (xf1k + 26) = some (none, none, xf2, xf2k) := xoq_ok (by decide +kernel)
set_option maxRecDepth 100000 in
theorem xf_len : xf1.length = 74 ∧ xf2.length = 154 := by decide +kernel
set_option maxRecDepth 100000 in
theorem p1_pre {scl : List Int32} {Φ : xO → Prop} (k : Px none (some scl) xlaw 23 [(4, .int 0), (3, .ref 158), (2, .ref 78), (1, .ref 4), (0, .ref 0)] [] xf3 (xf2k + 1) Φ) : Px none (some scl) xlaw 0 [(0, .ref 0)] [] [] 0 Φ := by
  refine px_new rfl rfl rfl ?_
  refine px_step (pc' := 4) (lv' := [(0, .ref 0)]) (st' := [.ref 4, .ref 4]) (h' := [(9, xdef 9)]) (ks' := 9) rfl rfl rfl ?_
  refine px_sp (k := 0) (μ' := 0) (as := [.ref 4]) (rest := [.ref 4]) rfl (fun r h => by cases h) rfl ⟨Or.inl rfl, rfl, rfl, rfl⟩ ⟨3000, 8, xf1_ok⟩ ?_
  refine px_step (pc' := 8) (lv' := [(1, .ref 4), (0, .ref 0)]) (st' := []) (h' := xf1) (ks' := xf1k) rfl rfl rfl ?_
  refine px_new (pc' := 11) (lv' := [(1, .ref 4), (0, .ref 0)]) (st' := [.ref 78]) (h' := xf1 ++ [(11, xdef 11)]) (ks' := xf1k + 26) rfl rfl rfl ?_
  refine px_step (pc' := 12) (lv' := [(1, .ref 4), (0, .ref 0)]) (st' := [.ref 78, .ref 78]) (h' := xf1 ++ [(11, xdef 11)]) (ks' := xf1k + 26) rfl rfl rfl ?_
  refine px_sp (k := 0) (μ' := 137) (as := [.ref 78]) (rest := [.ref 78]) rfl (fun r h => by cases h) rfl ⟨Or.inl rfl, rfl, rfl, rfl⟩ ⟨3000, 8, xf2_ok⟩ ?_
  refine px_step (pc' := 16) (lv' := [(2, .ref 78), (1, .ref 4), (0, .ref 0)]) (st' := []) (h' := xf2) (ks' := xf2k) rfl rfl rfl ?_
  refine px_step (pc' := 17) (st' := [.int 1]) (lv' := [(2, .ref 78), (1, .ref 4), (0, .ref 0)]) (h' := xf2) (ks' := xf2k) rfl rfl rfl ?_
  refine px_step (pc' := 19) (st' := [.ref 158]) (lv' := [(2, .ref 78), (1, .ref 4), (0, .ref 0)]) (h' := xf3) (ks' := xf2k + 1) rfl rfl rfl ?_
  refine px_step (pc' := 20) (st' := []) (lv' := [(3, .ref 158), (2, .ref 78), (1, .ref 4), (0, .ref 0)]) (h' := xf3) (ks' := xf2k + 1) rfl rfl rfl ?_
  refine px_step (pc' := 21) (st' := [.int 0]) (lv' := [(3, .ref 158), (2, .ref 78), (1, .ref 4), (0, .ref 0)]) (h' := xf3) (ks' := xf2k + 1) rfl rfl rfl ?_
  exact px_step (pc' := 23) (st' := []) (lv' := [(4, .int 0), (3, .ref 158), (2, .ref 78), (1, .ref 4), (0, .ref 0)]) (h' := xf3) (ks' := xf2k + 1) rfl rfl rfl k
end XP1
end
section
/-! p1: the law's head; closed calls -/
section XP2
def xfin (o : xO) : Prop := ∃ h' ks', o = (none, some (.int 1), h', ks') ∧ h'.length ≤ 1000 ∧ ks' ≤ 100000
set_option maxRecDepth 100000 in
theorem p1_head {x0 x1 x2 x3 x4 x5 v : Int32} {pc : Nat} (hx : x0 &&& 31 = v) (ht : xstep (xmo xlaw) (xml xlaw) (xini xlaw) (some [x0, x1, x2, x3, x4, x5]) (.tableswitch 1679 0 24 #[116, 172, 228, 296, 364, 408, 488, 532, 576, 656, 724, 827, 871, 939, 1007, 1075, 1155, 1235, 1303, 1359, 1400, 1504, 1584, 1652, 1665]) 40 [(4, .int 0), (3, .ref 158), (2, .ref 78), (1, .ref 4), (0, .ref 0)] [.int v] xf3 (xf2k + 1) = some (pc, [(4, .int 0), (3, .ref 158), (2, .ref 78), (1, .ref 4), (0, .ref 0)], [], xf3, xf2k + 1))
    (k : Px none (some [x0, x1, x2, x3, x4, x5]) xlaw pc [(4, .int 0), (3, .ref 158), (2, .ref 78), (1, .ref 4), (0, .ref 0)] [] xf3 (xf2k + 1) xfin) : Px none (some [x0, x1, x2, x3, x4, x5]) xlaw 23 [(4, .int 0), (3, .ref 158), (2, .ref 78), (1, .ref 4), (0, .ref 0)] [] xf3 (xf2k + 1) xfin := by
  refine px_step (pc' := 25) (st' := [.int 0]) rfl rfl rfl ?_
  refine px_step (pc' := 26) (st' := [.ref 0, .int 0]) rfl rfl rfl ?_
  refine px_step (pc' := 27) (st' := [.int 6, .int 0]) rfl rfl rfl ?_
  refine px_step (pc' := 29) (st' := [.int 6, .int 6, .int 0]) rfl rfl rfl ?_
  refine px_step (pc' := 30) (st' := [.int 0, .int 0]) rfl rfl rfl ?_
  refine px_step (pc' := 33) (st' := []) rfl rfl rfl ?_
  refine px_step (pc' := 34) (st' := [.ref 0]) rfl rfl rfl ?_
  refine px_step (pc' := 36) (st' := [.int 0, .ref 0]) rfl rfl rfl ?_
  refine px_step (pc' := 37) (st' := [.int x0]) rfl rfl rfl ?_
  refine px_step (pc' := 39) (st' := [.int 31, .int x0]) rfl rfl rfl ?_
  refine px_step (pc' := 40) (st' := [.int v]) rfl rfl (by rw [← hx]; rfl) ?_
  exact px_step rfl rfl ht k
end XP2
section XCI
def xoi (o : Option xO) (v : Int32) (h : xH) (ks : Nat) : Bool := match o with
  | some (none, some (.int w), h', ks') => decide (w = v) && (xheq h' h && Nat.beq ks' ks)
  | _ => false
theorem xoi_ok {o : Option xO} {v : Int32} {h : xH} {ks : Nat} (e : xoi o v h ks = true) : o = some (none, some (.int v), h, ks) := by
  unfold xoi at e
  split at e
  · rw [Bool.and_eq_true, Bool.and_eq_true] at e
    rw [of_decide_eq_true e.1, xheq_ok e.2.1, Nat.eq_of_beq_eq_true e.2.2]
  · cases e
theorem cl_i {sd : Option (List Int32)} {F d μ : Nat} {as : List Value} {h : xH} {ks : Nat} {v : Int32} {h2 : xH} {ks2 : Nat} (e : xoi (xcall F sd d μ as h ks) v h2 ks2 = true) : Cx sd μ as h ks (none, some (.int v), h2, ks2) := ⟨F, d, xoi_ok e⟩
end XCI
section XBC
theorem xex_int {μ : Nat} {v : Int32} (h : xmr μ = some .int) : xexit μ .ireturn [.int v] = some (some (.int v)) := by
  unfold xexit
  dsimp only
  rw [h]
  dsimp only
  rw [if_pos (show narrow FieldType.int (.int v) = .int v from rfl)]
variable {sd sc : Option (List Int32)} {μ pc : Nat} {lv : xL} {st : List Value} {h : xH} {ks : Nat} {Φ : xO → Prop} {out : xO}
theorem lx_ri {v : Int32} (hi : (xmc μ)[pc]? = some (some .ireturn)) (hm : xmr μ = some .int) : Lx sd sc μ pc lv [.int v] h ks (none, some (.int v), h, ks) := lx_ret hi rfl (xex_int hm)
theorem px_ri {v : Int32} (hi : (xmc μ)[pc]? = some (some .ireturn)) (hm : xmr μ = some .int) (k : Φ (none, some (.int v), h, ks)) : Px sd sc μ pc lv [.int v] h ks Φ := px_ret hi rfl (xex_int hm) k
theorem px_tsd {d lo hi : Int} {offs : Array Int} {x : Int32} {t : Nat} (hi9 : (xmc μ)[pc]? = some (some (.tableswitch d lo hi offs))) (ht : xj pc d = some t) (hx : x.toInt < lo ∨ hi < x.toInt) (k : Px sd sc μ t lv st h ks Φ) : Px sd sc μ pc lv (.int x :: st) h ks Φ := by
  refine px_step hi9 rfl ?_ k
  unfold xstep
  dsimp only
  rw [ht]
  by_cases h1 : x.toInt < lo
  · rw [if_pos h1]
  · rw [if_neg h1, if_pos (hx.resolve_left h1)]
def bcS (v : Int32) (k : Int32) : Int32 := (v.toUInt32 >>> (k.toUInt32 &&& Int32.toUInt32 31)).toInt32
def bc1 (v : Int32) : Int32 := v - (bcS v (Int32.ofInt 1) &&& 1431655765)
def bc2 (v : Int32) : Int32 := (bc1 v &&& 858993459) + (bcS (bc1 v) (Int32.ofInt 2) &&& 858993459)
def bc3 (v : Int32) : Int32 := (bc2 v + bcS (bc2 v) (Int32.ofInt 4)) &&& 252645135
def bc4 (v : Int32) : Int32 := bc3 v + bcS (bc3 v) (Int8.ofInt 8).toInt32
def bc5 (v : Int32) : Int32 := bc4 v + bcS (bc4 v) (Int8.ofInt 16).toInt32
def bc6 (v : Int32) : Int32 := bc5 v &&& (Int8.ofInt 63).toInt32
set_option maxRecDepth 100000 in
theorem bc_ok (sc : Option (List Int32)) (v : Int32) (h : xH) (ks : Nat) : Cx sc 17 [.int v] h ks (none, some (.int (bc6 v)), h, ks) := by
  refine Cx.of (Or.inl rfl) (Nat.le_of_ble_eq_true rfl) ?_
  refine lx_step (pc' := 1) rfl rfl rfl ?_
  refine lx_step (pc' := 2) rfl rfl rfl ?_
  refine lx_step (pc' := 3) rfl rfl rfl ?_
  refine lx_step (pc' := 4) rfl rfl rfl ?_
  refine lx_step (pc' := 7) rfl rfl rfl ?_
  refine lx_step (pc' := 8) rfl rfl rfl ?_
  refine lx_step (pc' := 9) rfl rfl rfl ?_
  refine lx_step (pc' := 10) (lv' := [(0, .int (bc1 v))]) (st' := []) rfl rfl rfl ?_
  refine lx_step (pc' := 11) rfl rfl rfl ?_
  refine lx_step (pc' := 14) rfl rfl rfl ?_
  refine lx_step (pc' := 15) rfl rfl rfl ?_
  refine lx_step (pc' := 16) rfl rfl rfl ?_
  refine lx_step (pc' := 17) rfl rfl rfl ?_
  refine lx_step (pc' := 18) rfl rfl rfl ?_
  refine lx_step (pc' := 21) rfl rfl rfl ?_
  refine lx_step (pc' := 22) rfl rfl rfl ?_
  refine lx_step (pc' := 23) rfl rfl rfl ?_
  refine lx_step (pc' := 24) (lv' := [(0, .int (bc2 v))]) (st' := []) rfl rfl rfl ?_
  refine lx_step (pc' := 25) rfl rfl rfl ?_
  refine lx_step (pc' := 26) rfl rfl rfl ?_
  refine lx_step (pc' := 27) rfl rfl rfl ?_
  refine lx_step (pc' := 28) rfl rfl rfl ?_
  refine lx_step (pc' := 29) rfl rfl rfl ?_
  refine lx_step (pc' := 32) rfl rfl rfl ?_
  refine lx_step (pc' := 33) rfl rfl rfl ?_
  refine lx_step (pc' := 34) (lv' := [(0, .int (bc3 v))]) (st' := []) rfl rfl rfl ?_
  refine lx_step (pc' := 35) rfl rfl rfl ?_
  refine lx_step (pc' := 36) rfl rfl rfl ?_
  refine lx_step (pc' := 38) rfl rfl rfl ?_
  refine lx_step (pc' := 39) rfl rfl rfl ?_
  refine lx_step (pc' := 40) rfl rfl rfl ?_
  refine lx_step (pc' := 41) (lv' := [(0, .int (bc4 v))]) (st' := []) rfl rfl rfl ?_
  refine lx_step (pc' := 42) rfl rfl rfl ?_
  refine lx_step (pc' := 43) rfl rfl rfl ?_
  refine lx_step (pc' := 45) rfl rfl rfl ?_
  refine lx_step (pc' := 46) rfl rfl rfl ?_
  refine lx_step (pc' := 47) rfl rfl rfl ?_
  refine lx_step (pc' := 48) (lv' := [(0, .int (bc5 v))]) (st' := []) rfl rfl rfl ?_
  refine lx_step (pc' := 49) rfl rfl rfl ?_
  refine lx_step (pc' := 51) rfl rfl rfl ?_
  refine lx_step (pc' := 52) rfl rfl rfl ?_
  exact lx_ri rfl rfl
end XBC
end
section
/-! p1: cases -/
section XP3
set_option maxRecDepth 100000 in
set_option maxHeartbeats 4000000 in
theorem p1_c0 {x0 x1 x2 x3 x4 x5 : Int32} (hx : x0 &&& 31 = 0) : Px none (some [x0, x1, x2, x3, x4, x5]) xlaw 23 [(4, .int 0), (3, .ref 158), (2, .ref 78), (1, .ref 4), (0, .ref 0)] [] xf3 (xf2k + 1) xfin := by
  refine p1_head (pc := 156) hx rfl ?_
  repeat' first
    | refine px_step rfl rfl rfl ?_
    | (refine px_ret rfl rfl rfl ?_; try dsimp only [xbk, xbc, xbn])
    | (refine px_thr rfl rfl rfl ?_; try dsimp only [xbk, xbc, xbn])
    | (refine px_if rfl rfl ?_ ?_ <;> intro hb <;> (try simp [xcmp, Int32.lt_iff_toInt_lt, Int32.le_iff_toInt_le] at hb) <;> first | (exfalso; omega) | skip)
    | (refine px_icmp rfl rfl ?_ ?_ <;> intro hb <;> (try simp [xcmp, Int32.lt_iff_toInt_lt, Int32.le_iff_toInt_le] at hb) <;> first | (exfalso; omega) | skip)
    | (refine px_vi rfl rfl rfl rfl rfl ?_; refine Qx.of (Or.inl rfl) (Nat.le_of_ble_eq_true rfl) ?_)
    | (refine px_vc rfl rfl rfl rfl (by decide) ?_; refine Qx.of (Or.inl rfl) (Nat.le_of_ble_eq_true rfl) ?_)
    | (refine px_st rfl rfl rfl rfl rfl ?_; refine Qx.of (Or.inl rfl) (Nat.le_of_ble_eq_true rfl) ?_)
    | (refine px_sw rfl rfl rfl ?_; refine Qx.of (Or.inr rfl) (Nat.le_of_ble_eq_true rfl) ?_)
    | (refine px_sn rfl rfl rfl rfl ?_; refine Qx.of (Or.inl rfl) (Nat.le_of_ble_eq_true rfl) ?_)
    | (refine ⟨_, _, _, rfl, Nat.le_of_ble_eq_true rfl, ?_⟩)
    | exact ⟨_, _, rfl, by simp only [xset, List.length_set, List.length_append, xf3, xf_len.2]; decide, Nat.le_of_ble_eq_true rfl⟩
set_option maxRecDepth 100000 in
set_option maxHeartbeats 4000000 in
theorem p1_c1 {x0 x1 x2 x3 x4 x5 : Int32} (hx : x0 &&& 31 = 1) : Px none (some [x0, x1, x2, x3, x4, x5]) xlaw 23 [(4, .int 0), (3, .ref 158), (2, .ref 78), (1, .ref 4), (0, .ref 0)] [] xf3 (xf2k + 1) xfin := by
  refine p1_head (pc := 212) hx rfl ?_
  repeat' first
    | refine px_step rfl rfl rfl ?_
    | (refine px_ret rfl rfl rfl ?_; try dsimp only [xbk, xbc, xbn])
    | (refine px_thr rfl rfl rfl ?_; try dsimp only [xbk, xbc, xbn])
    | (refine px_if rfl rfl ?_ ?_ <;> intro hb <;> (try simp [xcmp, Int32.lt_iff_toInt_lt, Int32.le_iff_toInt_le] at hb) <;> first | (exfalso; omega) | skip)
    | (refine px_icmp rfl rfl ?_ ?_ <;> intro hb <;> (try simp [xcmp, Int32.lt_iff_toInt_lt, Int32.le_iff_toInt_le] at hb) <;> first | (exfalso; omega) | skip)
    | (refine px_vi rfl rfl rfl rfl rfl ?_; refine Qx.of (Or.inl rfl) (Nat.le_of_ble_eq_true rfl) ?_)
    | (refine px_vc rfl rfl rfl rfl (by decide) ?_; refine Qx.of (Or.inl rfl) (Nat.le_of_ble_eq_true rfl) ?_)
    | (refine px_st rfl rfl rfl rfl rfl ?_; refine Qx.of (Or.inl rfl) (Nat.le_of_ble_eq_true rfl) ?_)
    | (refine px_sw rfl rfl rfl ?_; refine Qx.of (Or.inr rfl) (Nat.le_of_ble_eq_true rfl) ?_)
    | (refine px_sn rfl rfl rfl rfl ?_; refine Qx.of (Or.inl rfl) (Nat.le_of_ble_eq_true rfl) ?_)
    | (refine ⟨_, _, _, rfl, Nat.le_of_ble_eq_true rfl, ?_⟩)
    | exact ⟨_, _, rfl, by simp only [xset, List.length_set, List.length_append, xf3, xf_len.2]; decide, Nat.le_of_ble_eq_true rfl⟩
set_option maxRecDepth 100000 in
set_option maxHeartbeats 4000000 in
theorem p1_c3 {x0 x1 x2 x3 x4 x5 : Int32} (hx : x0 &&& 31 = 3) : Px none (some [x0, x1, x2, x3, x4, x5]) xlaw 23 [(4, .int 0), (3, .ref 158), (2, .ref 78), (1, .ref 4), (0, .ref 0)] [] xf3 (xf2k + 1) xfin := by
  refine p1_head (pc := 336) hx rfl ?_
  repeat' first
    | refine px_step rfl rfl rfl ?_
    | (refine px_ret rfl rfl rfl ?_; try dsimp only [xbk, xbc, xbn])
    | (refine px_thr rfl rfl rfl ?_; try dsimp only [xbk, xbc, xbn])
    | (refine px_if rfl rfl ?_ ?_ <;> intro hb <;> (try simp [xcmp, Int32.lt_iff_toInt_lt, Int32.le_iff_toInt_le] at hb) <;> first | (exfalso; omega) | skip)
    | (refine px_icmp rfl rfl ?_ ?_ <;> intro hb <;> (try simp [xcmp, Int32.lt_iff_toInt_lt, Int32.le_iff_toInt_le] at hb) <;> first | (exfalso; omega) | skip)
    | (refine px_vi rfl rfl rfl rfl rfl ?_; refine Qx.of (Or.inl rfl) (Nat.le_of_ble_eq_true rfl) ?_)
    | (refine px_vc rfl rfl rfl rfl (by decide) ?_; refine Qx.of (Or.inl rfl) (Nat.le_of_ble_eq_true rfl) ?_)
    | (refine px_st rfl rfl rfl rfl rfl ?_; refine Qx.of (Or.inl rfl) (Nat.le_of_ble_eq_true rfl) ?_)
    | (refine px_sw rfl rfl rfl ?_; refine Qx.of (Or.inr rfl) (Nat.le_of_ble_eq_true rfl) ?_)
    | (refine px_sn rfl rfl rfl rfl ?_; refine Qx.of (Or.inl rfl) (Nat.le_of_ble_eq_true rfl) ?_)
    | (refine ⟨_, _, _, rfl, Nat.le_of_ble_eq_true rfl, ?_⟩)
    | exact ⟨_, _, rfl, by simp only [xset, List.length_set, List.length_append, xf3, xf_len.2]; decide, Nat.le_of_ble_eq_true rfl⟩
set_option maxRecDepth 100000 in
set_option maxHeartbeats 4000000 in
theorem p1_c4 {x0 x1 x2 x3 x4 x5 : Int32} (hx : x0 &&& 31 = 4) : Px none (some [x0, x1, x2, x3, x4, x5]) xlaw 23 [(4, .int 0), (3, .ref 158), (2, .ref 78), (1, .ref 4), (0, .ref 0)] [] xf3 (xf2k + 1) xfin := by
  refine p1_head (pc := 404) hx rfl ?_
  repeat' first
    | refine px_step rfl rfl rfl ?_
    | (refine px_ret rfl rfl rfl ?_; try dsimp only [xbk, xbc, xbn])
    | (refine px_thr rfl rfl rfl ?_; try dsimp only [xbk, xbc, xbn])
    | (refine px_if rfl rfl ?_ ?_ <;> intro hb <;> (try simp [xcmp, Int32.lt_iff_toInt_lt, Int32.le_iff_toInt_le] at hb) <;> first | (exfalso; omega) | skip)
    | (refine px_icmp rfl rfl ?_ ?_ <;> intro hb <;> (try simp [xcmp, Int32.lt_iff_toInt_lt, Int32.le_iff_toInt_le] at hb) <;> first | (exfalso; omega) | skip)
    | (refine px_vi rfl rfl rfl rfl rfl ?_; refine Qx.of (Or.inl rfl) (Nat.le_of_ble_eq_true rfl) ?_)
    | (refine px_vc rfl rfl rfl rfl (by decide) ?_; refine Qx.of (Or.inl rfl) (Nat.le_of_ble_eq_true rfl) ?_)
    | (refine px_st rfl rfl rfl rfl rfl ?_; refine Qx.of (Or.inl rfl) (Nat.le_of_ble_eq_true rfl) ?_)
    | (refine px_sw rfl rfl rfl ?_; refine Qx.of (Or.inr rfl) (Nat.le_of_ble_eq_true rfl) ?_)
    | (refine px_sn rfl rfl rfl rfl ?_; refine Qx.of (Or.inl rfl) (Nat.le_of_ble_eq_true rfl) ?_)
    | (refine ⟨_, _, _, rfl, Nat.le_of_ble_eq_true rfl, ?_⟩)
    | exact ⟨_, _, rfl, by simp only [xset, List.length_set, List.length_append, xf3, xf_len.2]; decide, Nat.le_of_ble_eq_true rfl⟩
set_option maxRecDepth 100000 in
set_option maxHeartbeats 4000000 in
theorem p1_c5 {x0 x1 x2 x3 x4 x5 : Int32} (hx : x0 &&& 31 = 5) : Px none (some [x0, x1, x2, x3, x4, x5]) xlaw 23 [(4, .int 0), (3, .ref 158), (2, .ref 78), (1, .ref 4), (0, .ref 0)] [] xf3 (xf2k + 1) xfin := by
  refine p1_head (pc := 448) hx rfl ?_
  repeat' first
    | refine px_step rfl rfl rfl ?_
    | (refine px_ret rfl rfl rfl ?_; try dsimp only [xbk, xbc, xbn])
    | (refine px_thr rfl rfl rfl ?_; try dsimp only [xbk, xbc, xbn])
    | (refine px_if rfl rfl ?_ ?_ <;> intro hb <;> (try simp [xcmp, Int32.lt_iff_toInt_lt, Int32.le_iff_toInt_le] at hb) <;> first | (exfalso; omega) | skip)
    | (refine px_icmp rfl rfl ?_ ?_ <;> intro hb <;> (try simp [xcmp, Int32.lt_iff_toInt_lt, Int32.le_iff_toInt_le] at hb) <;> first | (exfalso; omega) | skip)
    | (refine px_vi rfl rfl rfl rfl rfl ?_; refine Qx.of (Or.inl rfl) (Nat.le_of_ble_eq_true rfl) ?_)
    | (refine px_vc rfl rfl rfl rfl (by decide) ?_; refine Qx.of (Or.inl rfl) (Nat.le_of_ble_eq_true rfl) ?_)
    | (refine px_st rfl rfl rfl rfl rfl ?_; refine Qx.of (Or.inl rfl) (Nat.le_of_ble_eq_true rfl) ?_)
    | (refine px_sw rfl rfl rfl ?_; refine Qx.of (Or.inr rfl) (Nat.le_of_ble_eq_true rfl) ?_)
    | (refine px_sn rfl rfl rfl rfl ?_; refine Qx.of (Or.inl rfl) (Nat.le_of_ble_eq_true rfl) ?_)
    | (refine ⟨_, _, _, rfl, Nat.le_of_ble_eq_true rfl, ?_⟩)
    | exact ⟨_, _, rfl, by simp only [xset, List.length_set, List.length_append, xf3, xf_len.2]; decide, Nat.le_of_ble_eq_true rfl⟩
set_option maxRecDepth 100000 in
set_option maxHeartbeats 4000000 in
theorem p1_c6 {x0 x1 x2 x3 x4 x5 : Int32} (hx : x0 &&& 31 = 6) : Px none (some [x0, x1, x2, x3, x4, x5]) xlaw 23 [(4, .int 0), (3, .ref 158), (2, .ref 78), (1, .ref 4), (0, .ref 0)] [] xf3 (xf2k + 1) xfin := by
  refine p1_head (pc := 528) hx rfl ?_
  repeat' first
    | refine px_step rfl rfl rfl ?_
    | (refine px_ret rfl rfl rfl ?_; try dsimp only [xbk, xbc, xbn])
    | (refine px_thr rfl rfl rfl ?_; try dsimp only [xbk, xbc, xbn])
    | (refine px_if rfl rfl ?_ ?_ <;> intro hb <;> (try simp [xcmp, Int32.lt_iff_toInt_lt, Int32.le_iff_toInt_le] at hb) <;> first | (exfalso; omega) | skip)
    | (refine px_icmp rfl rfl ?_ ?_ <;> intro hb <;> (try simp [xcmp, Int32.lt_iff_toInt_lt, Int32.le_iff_toInt_le] at hb) <;> first | (exfalso; omega) | skip)
    | (refine px_vi rfl rfl rfl rfl rfl ?_; refine Qx.of (Or.inl rfl) (Nat.le_of_ble_eq_true rfl) ?_)
    | (refine px_vc rfl rfl rfl rfl (by decide) ?_; refine Qx.of (Or.inl rfl) (Nat.le_of_ble_eq_true rfl) ?_)
    | (refine px_st rfl rfl rfl rfl rfl ?_; refine Qx.of (Or.inl rfl) (Nat.le_of_ble_eq_true rfl) ?_)
    | (refine px_sw rfl rfl rfl ?_; refine Qx.of (Or.inr rfl) (Nat.le_of_ble_eq_true rfl) ?_)
    | (refine px_sn rfl rfl rfl rfl ?_; refine Qx.of (Or.inl rfl) (Nat.le_of_ble_eq_true rfl) ?_)
    | (refine ⟨_, _, _, rfl, Nat.le_of_ble_eq_true rfl, ?_⟩)
    | exact ⟨_, _, rfl, by simp only [xset, List.length_set, List.length_append, xf3, xf_len.2]; decide, Nat.le_of_ble_eq_true rfl⟩
end XP3
end
section
/-! p1: cases -/
section XP3
set_option maxRecDepth 100000 in
set_option maxHeartbeats 4000000 in
theorem p1_c7 {x0 x1 x2 x3 x4 x5 : Int32} (hx : x0 &&& 31 = 7) : Px none (some [x0, x1, x2, x3, x4, x5]) xlaw 23 [(4, .int 0), (3, .ref 158), (2, .ref 78), (1, .ref 4), (0, .ref 0)] [] xf3 (xf2k + 1) xfin := by
  refine p1_head (pc := 572) hx rfl ?_
  repeat' first
    | refine px_step rfl rfl rfl ?_
    | (refine px_ret rfl rfl rfl ?_; try dsimp only [xbk, xbc, xbn])
    | (refine px_thr rfl rfl rfl ?_; try dsimp only [xbk, xbc, xbn])
    | (refine px_if rfl rfl ?_ ?_ <;> intro hb <;> (try simp [xcmp, Int32.lt_iff_toInt_lt, Int32.le_iff_toInt_le] at hb) <;> first | (exfalso; omega) | skip)
    | (refine px_icmp rfl rfl ?_ ?_ <;> intro hb <;> (try simp [xcmp, Int32.lt_iff_toInt_lt, Int32.le_iff_toInt_le] at hb) <;> first | (exfalso; omega) | skip)
    | (refine px_vi rfl rfl rfl rfl rfl ?_; refine Qx.of (Or.inl rfl) (Nat.le_of_ble_eq_true rfl) ?_)
    | (refine px_vc rfl rfl rfl rfl (by decide) ?_; refine Qx.of (Or.inl rfl) (Nat.le_of_ble_eq_true rfl) ?_)
    | (refine px_st rfl rfl rfl rfl rfl ?_; refine Qx.of (Or.inl rfl) (Nat.le_of_ble_eq_true rfl) ?_)
    | (refine px_sw rfl rfl rfl ?_; refine Qx.of (Or.inr rfl) (Nat.le_of_ble_eq_true rfl) ?_)
    | (refine px_sn rfl rfl rfl rfl ?_; refine Qx.of (Or.inl rfl) (Nat.le_of_ble_eq_true rfl) ?_)
    | (refine ⟨_, _, _, rfl, Nat.le_of_ble_eq_true rfl, ?_⟩)
    | exact ⟨_, _, rfl, by simp only [xset, List.length_set, List.length_append, xf3, xf_len.2]; decide, Nat.le_of_ble_eq_true rfl⟩
set_option maxRecDepth 100000 in
set_option maxHeartbeats 4000000 in
theorem p1_c8 {x0 x1 x2 x3 x4 x5 : Int32} (hx : x0 &&& 31 = 8) : Px none (some [x0, x1, x2, x3, x4, x5]) xlaw 23 [(4, .int 0), (3, .ref 158), (2, .ref 78), (1, .ref 4), (0, .ref 0)] [] xf3 (xf2k + 1) xfin := by
  refine p1_head (pc := 616) hx rfl ?_
  repeat' first
    | refine px_step rfl rfl rfl ?_
    | (refine px_ret rfl rfl rfl ?_; try dsimp only [xbk, xbc, xbn])
    | (refine px_thr rfl rfl rfl ?_; try dsimp only [xbk, xbc, xbn])
    | (refine px_if rfl rfl ?_ ?_ <;> intro hb <;> (try simp [xcmp, Int32.lt_iff_toInt_lt, Int32.le_iff_toInt_le] at hb) <;> first | (exfalso; omega) | skip)
    | (refine px_icmp rfl rfl ?_ ?_ <;> intro hb <;> (try simp [xcmp, Int32.lt_iff_toInt_lt, Int32.le_iff_toInt_le] at hb) <;> first | (exfalso; omega) | skip)
    | (refine px_vi rfl rfl rfl rfl rfl ?_; refine Qx.of (Or.inl rfl) (Nat.le_of_ble_eq_true rfl) ?_)
    | (refine px_vc rfl rfl rfl rfl (by decide) ?_; refine Qx.of (Or.inl rfl) (Nat.le_of_ble_eq_true rfl) ?_)
    | (refine px_st rfl rfl rfl rfl rfl ?_; refine Qx.of (Or.inl rfl) (Nat.le_of_ble_eq_true rfl) ?_)
    | (refine px_sw rfl rfl rfl ?_; refine Qx.of (Or.inr rfl) (Nat.le_of_ble_eq_true rfl) ?_)
    | (refine px_sn rfl rfl rfl rfl ?_; refine Qx.of (Or.inl rfl) (Nat.le_of_ble_eq_true rfl) ?_)
    | (refine ⟨_, _, _, rfl, Nat.le_of_ble_eq_true rfl, ?_⟩)
    | exact ⟨_, _, rfl, by simp only [xset, List.length_set, List.length_append, xf3, xf_len.2]; decide, Nat.le_of_ble_eq_true rfl⟩
set_option maxRecDepth 100000 in
set_option maxHeartbeats 4000000 in
theorem p1_c9 {x0 x1 x2 x3 x4 x5 : Int32} (hx : x0 &&& 31 = 9) : Px none (some [x0, x1, x2, x3, x4, x5]) xlaw 23 [(4, .int 0), (3, .ref 158), (2, .ref 78), (1, .ref 4), (0, .ref 0)] [] xf3 (xf2k + 1) xfin := by
  refine p1_head (pc := 696) hx rfl ?_
  repeat' first
    | refine px_step rfl rfl rfl ?_
    | (refine px_ret rfl rfl rfl ?_; try dsimp only [xbk, xbc, xbn])
    | (refine px_thr rfl rfl rfl ?_; try dsimp only [xbk, xbc, xbn])
    | (refine px_if rfl rfl ?_ ?_ <;> intro hb <;> (try simp [xcmp, Int32.lt_iff_toInt_lt, Int32.le_iff_toInt_le] at hb) <;> first | (exfalso; omega) | skip)
    | (refine px_icmp rfl rfl ?_ ?_ <;> intro hb <;> (try simp [xcmp, Int32.lt_iff_toInt_lt, Int32.le_iff_toInt_le] at hb) <;> first | (exfalso; omega) | skip)
    | (refine px_vi rfl rfl rfl rfl rfl ?_; refine Qx.of (Or.inl rfl) (Nat.le_of_ble_eq_true rfl) ?_)
    | (refine px_vc rfl rfl rfl rfl (by decide) ?_; refine Qx.of (Or.inl rfl) (Nat.le_of_ble_eq_true rfl) ?_)
    | (refine px_st rfl rfl rfl rfl rfl ?_; refine Qx.of (Or.inl rfl) (Nat.le_of_ble_eq_true rfl) ?_)
    | (refine px_sw rfl rfl rfl ?_; refine Qx.of (Or.inr rfl) (Nat.le_of_ble_eq_true rfl) ?_)
    | (refine px_sn rfl rfl rfl rfl ?_; refine Qx.of (Or.inl rfl) (Nat.le_of_ble_eq_true rfl) ?_)
    | (refine ⟨_, _, _, rfl, Nat.le_of_ble_eq_true rfl, ?_⟩)
    | exact ⟨_, _, rfl, by simp only [xset, List.length_set, List.length_append, xf3, xf_len.2]; decide, Nat.le_of_ble_eq_true rfl⟩
set_option maxRecDepth 100000 in
set_option maxHeartbeats 4000000 in
theorem p1_c10 {x0 x1 x2 x3 x4 x5 : Int32} (hx : x0 &&& 31 = 10) : Px none (some [x0, x1, x2, x3, x4, x5]) xlaw 23 [(4, .int 0), (3, .ref 158), (2, .ref 78), (1, .ref 4), (0, .ref 0)] [] xf3 (xf2k + 1) xfin := by
  refine p1_head (pc := 764) hx rfl ?_
  repeat' first
    | refine px_step rfl rfl rfl ?_
    | (refine px_ret rfl rfl rfl ?_; try dsimp only [xbk, xbc, xbn])
    | (refine px_thr rfl rfl rfl ?_; try dsimp only [xbk, xbc, xbn])
    | (refine px_if rfl rfl ?_ ?_ <;> intro hb <;> (try simp [xcmp, Int32.lt_iff_toInt_lt, Int32.le_iff_toInt_le] at hb) <;> first | (exfalso; omega) | skip)
    | (refine px_icmp rfl rfl ?_ ?_ <;> intro hb <;> (try simp [xcmp, Int32.lt_iff_toInt_lt, Int32.le_iff_toInt_le] at hb) <;> first | (exfalso; omega) | skip)
    | (refine px_vi rfl rfl rfl rfl rfl ?_; refine Qx.of (Or.inl rfl) (Nat.le_of_ble_eq_true rfl) ?_)
    | (refine px_vc rfl rfl rfl rfl (by decide) ?_; refine Qx.of (Or.inl rfl) (Nat.le_of_ble_eq_true rfl) ?_)
    | (refine px_st rfl rfl rfl rfl rfl ?_; refine Qx.of (Or.inl rfl) (Nat.le_of_ble_eq_true rfl) ?_)
    | (refine px_sw rfl rfl rfl ?_; refine Qx.of (Or.inr rfl) (Nat.le_of_ble_eq_true rfl) ?_)
    | (refine px_sn rfl rfl rfl rfl ?_; refine Qx.of (Or.inl rfl) (Nat.le_of_ble_eq_true rfl) ?_)
    | (refine ⟨_, _, _, rfl, Nat.le_of_ble_eq_true rfl, ?_⟩)
    | exact ⟨_, _, rfl, by simp only [xset, List.length_set, List.length_append, xf3, xf_len.2]; decide, Nat.le_of_ble_eq_true rfl⟩
set_option maxRecDepth 100000 in
set_option maxHeartbeats 4000000 in
theorem p1_c11 {x0 x1 x2 x3 x4 x5 : Int32} (hx : x0 &&& 31 = 11) : Px none (some [x0, x1, x2, x3, x4, x5]) xlaw 23 [(4, .int 0), (3, .ref 158), (2, .ref 78), (1, .ref 4), (0, .ref 0)] [] xf3 (xf2k + 1) xfin := by
  refine p1_head (pc := 867) hx rfl ?_
  repeat' first
    | refine px_step rfl rfl rfl ?_
    | (refine px_ret rfl rfl rfl ?_; try dsimp only [xbk, xbc, xbn])
    | (refine px_thr rfl rfl rfl ?_; try dsimp only [xbk, xbc, xbn])
    | (refine px_if rfl rfl ?_ ?_ <;> intro hb <;> (try simp [xcmp, Int32.lt_iff_toInt_lt, Int32.le_iff_toInt_le] at hb) <;> first | (exfalso; omega) | skip)
    | (refine px_icmp rfl rfl ?_ ?_ <;> intro hb <;> (try simp [xcmp, Int32.lt_iff_toInt_lt, Int32.le_iff_toInt_le] at hb) <;> first | (exfalso; omega) | skip)
    | (refine px_vi rfl rfl rfl rfl rfl ?_; refine Qx.of (Or.inl rfl) (Nat.le_of_ble_eq_true rfl) ?_)
    | (refine px_vc rfl rfl rfl rfl (by decide) ?_; refine Qx.of (Or.inl rfl) (Nat.le_of_ble_eq_true rfl) ?_)
    | (refine px_st rfl rfl rfl rfl rfl ?_; refine Qx.of (Or.inl rfl) (Nat.le_of_ble_eq_true rfl) ?_)
    | (refine px_sw rfl rfl rfl ?_; refine Qx.of (Or.inr rfl) (Nat.le_of_ble_eq_true rfl) ?_)
    | (refine px_sn rfl rfl rfl rfl ?_; refine Qx.of (Or.inl rfl) (Nat.le_of_ble_eq_true rfl) ?_)
    | (refine ⟨_, _, _, rfl, Nat.le_of_ble_eq_true rfl, ?_⟩)
    | exact ⟨_, _, rfl, by simp only [xset, List.length_set, List.length_append, xf3, xf_len.2]; decide, Nat.le_of_ble_eq_true rfl⟩
set_option maxRecDepth 100000 in
set_option maxHeartbeats 4000000 in
theorem p1_c12 {x0 x1 x2 x3 x4 x5 : Int32} (hx : x0 &&& 31 = 12) : Px none (some [x0, x1, x2, x3, x4, x5]) xlaw 23 [(4, .int 0), (3, .ref 158), (2, .ref 78), (1, .ref 4), (0, .ref 0)] [] xf3 (xf2k + 1) xfin := by
  refine p1_head (pc := 911) hx rfl ?_
  repeat' first
    | refine px_step rfl rfl rfl ?_
    | (refine px_ret rfl rfl rfl ?_; try dsimp only [xbk, xbc, xbn])
    | (refine px_thr rfl rfl rfl ?_; try dsimp only [xbk, xbc, xbn])
    | (refine px_if rfl rfl ?_ ?_ <;> intro hb <;> (try simp [xcmp, Int32.lt_iff_toInt_lt, Int32.le_iff_toInt_le] at hb) <;> first | (exfalso; omega) | skip)
    | (refine px_icmp rfl rfl ?_ ?_ <;> intro hb <;> (try simp [xcmp, Int32.lt_iff_toInt_lt, Int32.le_iff_toInt_le] at hb) <;> first | (exfalso; omega) | skip)
    | (refine px_vi rfl rfl rfl rfl rfl ?_; refine Qx.of (Or.inl rfl) (Nat.le_of_ble_eq_true rfl) ?_)
    | (refine px_vc rfl rfl rfl rfl (by decide) ?_; refine Qx.of (Or.inl rfl) (Nat.le_of_ble_eq_true rfl) ?_)
    | (refine px_st rfl rfl rfl rfl rfl ?_; refine Qx.of (Or.inl rfl) (Nat.le_of_ble_eq_true rfl) ?_)
    | (refine px_sw rfl rfl rfl ?_; refine Qx.of (Or.inr rfl) (Nat.le_of_ble_eq_true rfl) ?_)
    | (refine px_sn rfl rfl rfl rfl ?_; refine Qx.of (Or.inl rfl) (Nat.le_of_ble_eq_true rfl) ?_)
    | (refine ⟨_, _, _, rfl, Nat.le_of_ble_eq_true rfl, ?_⟩)
    | exact ⟨_, _, rfl, by simp only [xset, List.length_set, List.length_append, xf3, xf_len.2]; decide, Nat.le_of_ble_eq_true rfl⟩
end XP3
end
section
/-! p1: cases -/
section XP3
set_option maxRecDepth 100000 in
set_option maxHeartbeats 4000000 in
theorem p1_c13 {x0 x1 x2 x3 x4 x5 : Int32} (hx : x0 &&& 31 = 13) : Px none (some [x0, x1, x2, x3, x4, x5]) xlaw 23 [(4, .int 0), (3, .ref 158), (2, .ref 78), (1, .ref 4), (0, .ref 0)] [] xf3 (xf2k + 1) xfin := by
  refine p1_head (pc := 979) hx rfl ?_
  repeat' first
    | refine px_step rfl rfl rfl ?_
    | (refine px_ret rfl rfl rfl ?_; try dsimp only [xbk, xbc, xbn])
    | (refine px_thr rfl rfl rfl ?_; try dsimp only [xbk, xbc, xbn])
    | (refine px_if rfl rfl ?_ ?_ <;> intro hb <;> (try simp [xcmp, Int32.lt_iff_toInt_lt, Int32.le_iff_toInt_le] at hb) <;> first | (exfalso; omega) | skip)
    | (refine px_icmp rfl rfl ?_ ?_ <;> intro hb <;> (try simp [xcmp, Int32.lt_iff_toInt_lt, Int32.le_iff_toInt_le] at hb) <;> first | (exfalso; omega) | skip)
    | (refine px_vi rfl rfl rfl rfl rfl ?_; refine Qx.of (Or.inl rfl) (Nat.le_of_ble_eq_true rfl) ?_)
    | (refine px_vc rfl rfl rfl rfl (by decide) ?_; refine Qx.of (Or.inl rfl) (Nat.le_of_ble_eq_true rfl) ?_)
    | (refine px_st rfl rfl rfl rfl rfl ?_; refine Qx.of (Or.inl rfl) (Nat.le_of_ble_eq_true rfl) ?_)
    | (refine px_sw rfl rfl rfl ?_; refine Qx.of (Or.inr rfl) (Nat.le_of_ble_eq_true rfl) ?_)
    | (refine px_sn rfl rfl rfl rfl ?_; refine Qx.of (Or.inl rfl) (Nat.le_of_ble_eq_true rfl) ?_)
    | (refine ⟨_, _, _, rfl, Nat.le_of_ble_eq_true rfl, ?_⟩)
    | exact ⟨_, _, rfl, by simp only [xset, List.length_set, List.length_append, xf3, xf_len.2]; decide, Nat.le_of_ble_eq_true rfl⟩
set_option maxRecDepth 100000 in
set_option maxHeartbeats 4000000 in
theorem p1_c14 {x0 x1 x2 x3 x4 x5 : Int32} (hx : x0 &&& 31 = 14) : Px none (some [x0, x1, x2, x3, x4, x5]) xlaw 23 [(4, .int 0), (3, .ref 158), (2, .ref 78), (1, .ref 4), (0, .ref 0)] [] xf3 (xf2k + 1) xfin := by
  refine p1_head (pc := 1047) hx rfl ?_
  repeat' first
    | refine px_step rfl rfl rfl ?_
    | (refine px_ret rfl rfl rfl ?_; try dsimp only [xbk, xbc, xbn])
    | (refine px_thr rfl rfl rfl ?_; try dsimp only [xbk, xbc, xbn])
    | (refine px_if rfl rfl ?_ ?_ <;> intro hb <;> (try simp [xcmp, Int32.lt_iff_toInt_lt, Int32.le_iff_toInt_le] at hb) <;> first | (exfalso; omega) | skip)
    | (refine px_icmp rfl rfl ?_ ?_ <;> intro hb <;> (try simp [xcmp, Int32.lt_iff_toInt_lt, Int32.le_iff_toInt_le] at hb) <;> first | (exfalso; omega) | skip)
    | (refine px_vi rfl rfl rfl rfl rfl ?_; refine Qx.of (Or.inl rfl) (Nat.le_of_ble_eq_true rfl) ?_)
    | (refine px_vc rfl rfl rfl rfl (by decide) ?_; refine Qx.of (Or.inl rfl) (Nat.le_of_ble_eq_true rfl) ?_)
    | (refine px_st rfl rfl rfl rfl rfl ?_; refine Qx.of (Or.inl rfl) (Nat.le_of_ble_eq_true rfl) ?_)
    | (refine px_sw rfl rfl rfl ?_; refine Qx.of (Or.inr rfl) (Nat.le_of_ble_eq_true rfl) ?_)
    | (refine px_sn rfl rfl rfl rfl ?_; refine Qx.of (Or.inl rfl) (Nat.le_of_ble_eq_true rfl) ?_)
    | (refine ⟨_, _, _, rfl, Nat.le_of_ble_eq_true rfl, ?_⟩)
    | exact ⟨_, _, rfl, by simp only [xset, List.length_set, List.length_append, xf3, xf_len.2]; decide, Nat.le_of_ble_eq_true rfl⟩
set_option maxRecDepth 100000 in
set_option maxHeartbeats 4000000 in
theorem p1_c15 {x0 x1 x2 x3 x4 x5 : Int32} (hx : x0 &&& 31 = 15) : Px none (some [x0, x1, x2, x3, x4, x5]) xlaw 23 [(4, .int 0), (3, .ref 158), (2, .ref 78), (1, .ref 4), (0, .ref 0)] [] xf3 (xf2k + 1) xfin := by
  refine p1_head (pc := 1115) hx rfl ?_
  repeat' first
    | refine px_step rfl rfl rfl ?_
    | (refine px_ret rfl rfl rfl ?_; try dsimp only [xbk, xbc, xbn])
    | (refine px_thr rfl rfl rfl ?_; try dsimp only [xbk, xbc, xbn])
    | (refine px_if rfl rfl ?_ ?_ <;> intro hb <;> (try simp [xcmp, Int32.lt_iff_toInt_lt, Int32.le_iff_toInt_le] at hb) <;> first | (exfalso; omega) | skip)
    | (refine px_icmp rfl rfl ?_ ?_ <;> intro hb <;> (try simp [xcmp, Int32.lt_iff_toInt_lt, Int32.le_iff_toInt_le] at hb) <;> first | (exfalso; omega) | skip)
    | (refine px_vi rfl rfl rfl rfl rfl ?_; refine Qx.of (Or.inl rfl) (Nat.le_of_ble_eq_true rfl) ?_)
    | (refine px_vc rfl rfl rfl rfl (by decide) ?_; refine Qx.of (Or.inl rfl) (Nat.le_of_ble_eq_true rfl) ?_)
    | (refine px_st rfl rfl rfl rfl rfl ?_; refine Qx.of (Or.inl rfl) (Nat.le_of_ble_eq_true rfl) ?_)
    | (refine px_sw rfl rfl rfl ?_; refine Qx.of (Or.inr rfl) (Nat.le_of_ble_eq_true rfl) ?_)
    | (refine px_sn rfl rfl rfl rfl ?_; refine Qx.of (Or.inl rfl) (Nat.le_of_ble_eq_true rfl) ?_)
    | (refine ⟨_, _, _, rfl, Nat.le_of_ble_eq_true rfl, ?_⟩)
    | exact ⟨_, _, rfl, by simp only [xset, List.length_set, List.length_append, xf3, xf_len.2]; decide, Nat.le_of_ble_eq_true rfl⟩
set_option maxRecDepth 100000 in
set_option maxHeartbeats 4000000 in
theorem p1_c16 {x0 x1 x2 x3 x4 x5 : Int32} (hx : x0 &&& 31 = 16) : Px none (some [x0, x1, x2, x3, x4, x5]) xlaw 23 [(4, .int 0), (3, .ref 158), (2, .ref 78), (1, .ref 4), (0, .ref 0)] [] xf3 (xf2k + 1) xfin := by
  refine p1_head (pc := 1195) hx rfl ?_
  repeat' first
    | refine px_step rfl rfl rfl ?_
    | (refine px_ret rfl rfl rfl ?_; try dsimp only [xbk, xbc, xbn])
    | (refine px_thr rfl rfl rfl ?_; try dsimp only [xbk, xbc, xbn])
    | (refine px_if rfl rfl ?_ ?_ <;> intro hb <;> (try simp [xcmp, Int32.lt_iff_toInt_lt, Int32.le_iff_toInt_le] at hb) <;> first | (exfalso; omega) | skip)
    | (refine px_icmp rfl rfl ?_ ?_ <;> intro hb <;> (try simp [xcmp, Int32.lt_iff_toInt_lt, Int32.le_iff_toInt_le] at hb) <;> first | (exfalso; omega) | skip)
    | (refine px_vi rfl rfl rfl rfl rfl ?_; refine Qx.of (Or.inl rfl) (Nat.le_of_ble_eq_true rfl) ?_)
    | (refine px_vc rfl rfl rfl rfl (by decide) ?_; refine Qx.of (Or.inl rfl) (Nat.le_of_ble_eq_true rfl) ?_)
    | (refine px_st rfl rfl rfl rfl rfl ?_; refine Qx.of (Or.inl rfl) (Nat.le_of_ble_eq_true rfl) ?_)
    | (refine px_sw rfl rfl rfl ?_; refine Qx.of (Or.inr rfl) (Nat.le_of_ble_eq_true rfl) ?_)
    | (refine px_sn rfl rfl rfl rfl ?_; refine Qx.of (Or.inl rfl) (Nat.le_of_ble_eq_true rfl) ?_)
    | (refine ⟨_, _, _, rfl, Nat.le_of_ble_eq_true rfl, ?_⟩)
    | exact ⟨_, _, rfl, by simp only [xset, List.length_set, List.length_append, xf3, xf_len.2]; decide, Nat.le_of_ble_eq_true rfl⟩
set_option maxRecDepth 100000 in
set_option maxHeartbeats 4000000 in
theorem p1_c17 {x0 x1 x2 x3 x4 x5 : Int32} (hx : x0 &&& 31 = 17) : Px none (some [x0, x1, x2, x3, x4, x5]) xlaw 23 [(4, .int 0), (3, .ref 158), (2, .ref 78), (1, .ref 4), (0, .ref 0)] [] xf3 (xf2k + 1) xfin := by
  refine p1_head (pc := 1275) hx rfl ?_
  repeat' first
    | refine px_step rfl rfl rfl ?_
    | (refine px_ret rfl rfl rfl ?_; try dsimp only [xbk, xbc, xbn])
    | (refine px_thr rfl rfl rfl ?_; try dsimp only [xbk, xbc, xbn])
    | (refine px_if rfl rfl ?_ ?_ <;> intro hb <;> (try simp [xcmp, Int32.lt_iff_toInt_lt, Int32.le_iff_toInt_le] at hb) <;> first | (exfalso; omega) | skip)
    | (refine px_icmp rfl rfl ?_ ?_ <;> intro hb <;> (try simp [xcmp, Int32.lt_iff_toInt_lt, Int32.le_iff_toInt_le] at hb) <;> first | (exfalso; omega) | skip)
    | (refine px_vi rfl rfl rfl rfl rfl ?_; refine Qx.of (Or.inl rfl) (Nat.le_of_ble_eq_true rfl) ?_)
    | (refine px_vc rfl rfl rfl rfl (by decide) ?_; refine Qx.of (Or.inl rfl) (Nat.le_of_ble_eq_true rfl) ?_)
    | (refine px_st rfl rfl rfl rfl rfl ?_; refine Qx.of (Or.inl rfl) (Nat.le_of_ble_eq_true rfl) ?_)
    | (refine px_sw rfl rfl rfl ?_; refine Qx.of (Or.inr rfl) (Nat.le_of_ble_eq_true rfl) ?_)
    | (refine px_sn rfl rfl rfl rfl ?_; refine Qx.of (Or.inl rfl) (Nat.le_of_ble_eq_true rfl) ?_)
    | (refine ⟨_, _, _, rfl, Nat.le_of_ble_eq_true rfl, ?_⟩)
    | exact ⟨_, _, rfl, by simp only [xset, List.length_set, List.length_append, xf3, xf_len.2]; decide, Nat.le_of_ble_eq_true rfl⟩
set_option maxRecDepth 100000 in
set_option maxHeartbeats 4000000 in
theorem p1_c19 {x0 x1 x2 x3 x4 x5 : Int32} (hx : x0 &&& 31 = 19) : Px none (some [x0, x1, x2, x3, x4, x5]) xlaw 23 [(4, .int 0), (3, .ref 158), (2, .ref 78), (1, .ref 4), (0, .ref 0)] [] xf3 (xf2k + 1) xfin := by
  refine p1_head (pc := 1399) hx rfl ?_
  repeat' first
    | refine px_step rfl rfl rfl ?_
    | (refine px_ret rfl rfl rfl ?_; try dsimp only [xbk, xbc, xbn])
    | (refine px_thr rfl rfl rfl ?_; try dsimp only [xbk, xbc, xbn])
    | (refine px_if rfl rfl ?_ ?_ <;> intro hb <;> (try simp [xcmp, Int32.lt_iff_toInt_lt, Int32.le_iff_toInt_le] at hb) <;> first | (exfalso; omega) | skip)
    | (refine px_icmp rfl rfl ?_ ?_ <;> intro hb <;> (try simp [xcmp, Int32.lt_iff_toInt_lt, Int32.le_iff_toInt_le] at hb) <;> first | (exfalso; omega) | skip)
    | (refine px_vi rfl rfl rfl rfl rfl ?_; refine Qx.of (Or.inl rfl) (Nat.le_of_ble_eq_true rfl) ?_)
    | (refine px_vc rfl rfl rfl rfl (by decide) ?_; refine Qx.of (Or.inl rfl) (Nat.le_of_ble_eq_true rfl) ?_)
    | (refine px_st rfl rfl rfl rfl rfl ?_; refine Qx.of (Or.inl rfl) (Nat.le_of_ble_eq_true rfl) ?_)
    | (refine px_sw rfl rfl rfl ?_; refine Qx.of (Or.inr rfl) (Nat.le_of_ble_eq_true rfl) ?_)
    | (refine px_sn rfl rfl rfl rfl ?_; refine Qx.of (Or.inl rfl) (Nat.le_of_ble_eq_true rfl) ?_)
    | (refine ⟨_, _, _, rfl, Nat.le_of_ble_eq_true rfl, ?_⟩)
    | exact ⟨_, _, rfl, by simp only [xset, List.length_set, List.length_append, xf3, xf_len.2]; decide, Nat.le_of_ble_eq_true rfl⟩
end XP3
end
section
/-! p1: cases -/
section XP3
set_option maxRecDepth 100000 in
set_option maxHeartbeats 4000000 in
theorem p1_c20 {x0 x1 x2 x3 x4 x5 : Int32} (hx : x0 &&& 31 = 20) : Px none (some [x0, x1, x2, x3, x4, x5]) xlaw 23 [(4, .int 0), (3, .ref 158), (2, .ref 78), (1, .ref 4), (0, .ref 0)] [] xf3 (xf2k + 1) xfin := by
  refine p1_head (pc := 1440) hx rfl ?_
  repeat' first
    | refine px_step rfl rfl rfl ?_
    | (refine px_ret rfl rfl rfl ?_; try dsimp only [xbk, xbc, xbn])
    | (refine px_thr rfl rfl rfl ?_; try dsimp only [xbk, xbc, xbn])
    | (refine px_if rfl rfl ?_ ?_ <;> intro hb <;> (try simp [xcmp, Int32.lt_iff_toInt_lt, Int32.le_iff_toInt_le] at hb) <;> first | (exfalso; omega) | skip)
    | (refine px_icmp rfl rfl ?_ ?_ <;> intro hb <;> (try simp [xcmp, Int32.lt_iff_toInt_lt, Int32.le_iff_toInt_le] at hb) <;> first | (exfalso; omega) | skip)
    | (refine px_vi rfl rfl rfl rfl rfl ?_; refine Qx.of (Or.inl rfl) (Nat.le_of_ble_eq_true rfl) ?_)
    | (refine px_vc rfl rfl rfl rfl (by decide) ?_; refine Qx.of (Or.inl rfl) (Nat.le_of_ble_eq_true rfl) ?_)
    | (refine px_st rfl rfl rfl rfl rfl ?_; refine Qx.of (Or.inl rfl) (Nat.le_of_ble_eq_true rfl) ?_)
    | (refine px_sw rfl rfl rfl ?_; refine Qx.of (Or.inr rfl) (Nat.le_of_ble_eq_true rfl) ?_)
    | (refine px_sn rfl rfl rfl rfl ?_; refine Qx.of (Or.inl rfl) (Nat.le_of_ble_eq_true rfl) ?_)
    | (refine ⟨_, _, _, rfl, Nat.le_of_ble_eq_true rfl, ?_⟩)
    | exact ⟨_, _, rfl, by simp only [xset, List.length_set, List.length_append, xf3, xf_len.2]; decide, Nat.le_of_ble_eq_true rfl⟩
set_option maxRecDepth 100000 in
set_option maxHeartbeats 4000000 in
theorem p1_c21 {x0 x1 x2 x3 x4 x5 : Int32} (hx : x0 &&& 31 = 21) : Px none (some [x0, x1, x2, x3, x4, x5]) xlaw 23 [(4, .int 0), (3, .ref 158), (2, .ref 78), (1, .ref 4), (0, .ref 0)] [] xf3 (xf2k + 1) xfin := by
  refine p1_head (pc := 1544) hx rfl ?_
  repeat' first
    | refine px_step rfl rfl rfl ?_
    | (refine px_ret rfl rfl rfl ?_; try dsimp only [xbk, xbc, xbn])
    | (refine px_thr rfl rfl rfl ?_; try dsimp only [xbk, xbc, xbn])
    | (refine px_if rfl rfl ?_ ?_ <;> intro hb <;> (try simp [xcmp, Int32.lt_iff_toInt_lt, Int32.le_iff_toInt_le] at hb) <;> first | (exfalso; omega) | skip)
    | (refine px_icmp rfl rfl ?_ ?_ <;> intro hb <;> (try simp [xcmp, Int32.lt_iff_toInt_lt, Int32.le_iff_toInt_le] at hb) <;> first | (exfalso; omega) | skip)
    | (refine px_vi rfl rfl rfl rfl rfl ?_; refine Qx.of (Or.inl rfl) (Nat.le_of_ble_eq_true rfl) ?_)
    | (refine px_vc rfl rfl rfl rfl (by decide) ?_; refine Qx.of (Or.inl rfl) (Nat.le_of_ble_eq_true rfl) ?_)
    | (refine px_st rfl rfl rfl rfl rfl ?_; refine Qx.of (Or.inl rfl) (Nat.le_of_ble_eq_true rfl) ?_)
    | (refine px_sw rfl rfl rfl ?_; refine Qx.of (Or.inr rfl) (Nat.le_of_ble_eq_true rfl) ?_)
    | (refine px_sn rfl rfl rfl rfl ?_; refine Qx.of (Or.inl rfl) (Nat.le_of_ble_eq_true rfl) ?_)
    | (refine ⟨_, _, _, rfl, Nat.le_of_ble_eq_true rfl, ?_⟩)
    | exact ⟨_, _, rfl, by simp only [xset, List.length_set, List.length_append, xf3, xf_len.2]; decide, Nat.le_of_ble_eq_true rfl⟩
set_option maxRecDepth 100000 in
set_option maxHeartbeats 4000000 in
theorem p1_c22 {x0 x1 x2 x3 x4 x5 : Int32} (hx : x0 &&& 31 = 22) : Px none (some [x0, x1, x2, x3, x4, x5]) xlaw 23 [(4, .int 0), (3, .ref 158), (2, .ref 78), (1, .ref 4), (0, .ref 0)] [] xf3 (xf2k + 1) xfin := by
  refine p1_head (pc := 1624) hx rfl ?_
  repeat' first
    | refine px_step rfl rfl rfl ?_
    | (refine px_ret rfl rfl rfl ?_; try dsimp only [xbk, xbc, xbn])
    | (refine px_thr rfl rfl rfl ?_; try dsimp only [xbk, xbc, xbn])
    | (refine px_if rfl rfl ?_ ?_ <;> intro hb <;> (try simp [xcmp, Int32.lt_iff_toInt_lt, Int32.le_iff_toInt_le] at hb) <;> first | (exfalso; omega) | skip)
    | (refine px_icmp rfl rfl ?_ ?_ <;> intro hb <;> (try simp [xcmp, Int32.lt_iff_toInt_lt, Int32.le_iff_toInt_le] at hb) <;> first | (exfalso; omega) | skip)
    | (refine px_vi rfl rfl rfl rfl rfl ?_; refine Qx.of (Or.inl rfl) (Nat.le_of_ble_eq_true rfl) ?_)
    | (refine px_vc rfl rfl rfl rfl (by decide) ?_; refine Qx.of (Or.inl rfl) (Nat.le_of_ble_eq_true rfl) ?_)
    | (refine px_st rfl rfl rfl rfl rfl ?_; refine Qx.of (Or.inl rfl) (Nat.le_of_ble_eq_true rfl) ?_)
    | (refine px_sw rfl rfl rfl ?_; refine Qx.of (Or.inr rfl) (Nat.le_of_ble_eq_true rfl) ?_)
    | (refine px_sn rfl rfl rfl rfl ?_; refine Qx.of (Or.inl rfl) (Nat.le_of_ble_eq_true rfl) ?_)
    | (refine ⟨_, _, _, rfl, Nat.le_of_ble_eq_true rfl, ?_⟩)
    | exact ⟨_, _, rfl, by simp only [xset, List.length_set, List.length_append, xf3, xf_len.2]; decide, Nat.le_of_ble_eq_true rfl⟩
set_option maxRecDepth 100000 in
set_option maxHeartbeats 4000000 in
theorem p1_c23 {x0 x1 x2 x3 x4 x5 : Int32} (hx : x0 &&& 31 = 23) : Px none (some [x0, x1, x2, x3, x4, x5]) xlaw 23 [(4, .int 0), (3, .ref 158), (2, .ref 78), (1, .ref 4), (0, .ref 0)] [] xf3 (xf2k + 1) xfin := by
  refine p1_head (pc := 1692) hx rfl ?_
  repeat' first
    | refine px_step rfl rfl rfl ?_
    | (refine px_ret rfl rfl rfl ?_; try dsimp only [xbk, xbc, xbn])
    | (refine px_thr rfl rfl rfl ?_; try dsimp only [xbk, xbc, xbn])
    | (refine px_if rfl rfl ?_ ?_ <;> intro hb <;> (try simp [xcmp, Int32.lt_iff_toInt_lt, Int32.le_iff_toInt_le] at hb) <;> first | (exfalso; omega) | skip)
    | (refine px_icmp rfl rfl ?_ ?_ <;> intro hb <;> (try simp [xcmp, Int32.lt_iff_toInt_lt, Int32.le_iff_toInt_le] at hb) <;> first | (exfalso; omega) | skip)
    | (refine px_vi rfl rfl rfl rfl rfl ?_; refine Qx.of (Or.inl rfl) (Nat.le_of_ble_eq_true rfl) ?_)
    | (refine px_vc rfl rfl rfl rfl (by decide) ?_; refine Qx.of (Or.inl rfl) (Nat.le_of_ble_eq_true rfl) ?_)
    | (refine px_st rfl rfl rfl rfl rfl ?_; refine Qx.of (Or.inl rfl) (Nat.le_of_ble_eq_true rfl) ?_)
    | (refine px_sw rfl rfl rfl ?_; refine Qx.of (Or.inr rfl) (Nat.le_of_ble_eq_true rfl) ?_)
    | (refine px_sn rfl rfl rfl rfl ?_; refine Qx.of (Or.inl rfl) (Nat.le_of_ble_eq_true rfl) ?_)
    | (refine ⟨_, _, _, rfl, Nat.le_of_ble_eq_true rfl, ?_⟩)
    | exact ⟨_, _, rfl, by simp only [xset, List.length_set, List.length_append, xf3, xf_len.2]; decide, Nat.le_of_ble_eq_true rfl⟩
end XP3
end
section
/-! p1: no call -/
section XP3
set_option maxRecDepth 100000 in
set_option maxHeartbeats 4000000 in
theorem p1_c25 {x0 x1 x2 x3 x4 x5 : Int32} (hx : x0 &&& 31 = 25) : Px none (some [x0, x1, x2, x3, x4, x5]) xlaw 23 [(4, .int 0), (3, .ref 158), (2, .ref 78), (1, .ref 4), (0, .ref 0)] [] xf3 (xf2k + 1) xfin := by
  refine p1_head (pc := 1719) hx rfl ?_
  repeat' first
    | refine px_step rfl rfl rfl ?_
    | (refine px_ret rfl rfl rfl ?_; try dsimp only [xbk, xbc, xbn])
    | (refine px_thr rfl rfl rfl ?_; try dsimp only [xbk, xbc, xbn])
    | (refine px_if rfl rfl ?_ ?_ <;> intro hb <;> (try simp [xcmp, Int32.lt_iff_toInt_lt, Int32.le_iff_toInt_le] at hb) <;> first | (exfalso; omega) | skip)
    | (refine px_icmp rfl rfl ?_ ?_ <;> intro hb <;> (try simp [xcmp, Int32.lt_iff_toInt_lt, Int32.le_iff_toInt_le] at hb) <;> first | (exfalso; omega) | skip)
    | (refine px_vi rfl rfl rfl rfl rfl ?_; refine Qx.of (Or.inl rfl) (Nat.le_of_ble_eq_true rfl) ?_)
    | (refine px_vc rfl rfl rfl rfl (by decide) ?_; refine Qx.of (Or.inl rfl) (Nat.le_of_ble_eq_true rfl) ?_)
    | (refine px_st rfl rfl rfl rfl rfl ?_; refine Qx.of (Or.inl rfl) (Nat.le_of_ble_eq_true rfl) ?_)
    | (refine px_sw rfl rfl rfl ?_; refine Qx.of (Or.inr rfl) (Nat.le_of_ble_eq_true rfl) ?_)
    | (refine px_sn rfl rfl rfl rfl ?_; refine Qx.of (Or.inl rfl) (Nat.le_of_ble_eq_true rfl) ?_)
    | (refine ⟨_, _, _, rfl, Nat.le_of_ble_eq_true rfl, ?_⟩)
    | exact ⟨_, _, rfl, by simp only [xset, List.length_set, List.length_append, xf3, xf_len.2]; decide, Nat.le_of_ble_eq_true rfl⟩
set_option maxRecDepth 100000 in
set_option maxHeartbeats 4000000 in
theorem p1_c26 {x0 x1 x2 x3 x4 x5 : Int32} (hx : x0 &&& 31 = 26) : Px none (some [x0, x1, x2, x3, x4, x5]) xlaw 23 [(4, .int 0), (3, .ref 158), (2, .ref 78), (1, .ref 4), (0, .ref 0)] [] xf3 (xf2k + 1) xfin := by
  refine p1_head (pc := 1719) hx rfl ?_
  repeat' first
    | refine px_step rfl rfl rfl ?_
    | (refine px_ret rfl rfl rfl ?_; try dsimp only [xbk, xbc, xbn])
    | (refine px_thr rfl rfl rfl ?_; try dsimp only [xbk, xbc, xbn])
    | (refine px_if rfl rfl ?_ ?_ <;> intro hb <;> (try simp [xcmp, Int32.lt_iff_toInt_lt, Int32.le_iff_toInt_le] at hb) <;> first | (exfalso; omega) | skip)
    | (refine px_icmp rfl rfl ?_ ?_ <;> intro hb <;> (try simp [xcmp, Int32.lt_iff_toInt_lt, Int32.le_iff_toInt_le] at hb) <;> first | (exfalso; omega) | skip)
    | (refine px_vi rfl rfl rfl rfl rfl ?_; refine Qx.of (Or.inl rfl) (Nat.le_of_ble_eq_true rfl) ?_)
    | (refine px_vc rfl rfl rfl rfl (by decide) ?_; refine Qx.of (Or.inl rfl) (Nat.le_of_ble_eq_true rfl) ?_)
    | (refine px_st rfl rfl rfl rfl rfl ?_; refine Qx.of (Or.inl rfl) (Nat.le_of_ble_eq_true rfl) ?_)
    | (refine px_sw rfl rfl rfl ?_; refine Qx.of (Or.inr rfl) (Nat.le_of_ble_eq_true rfl) ?_)
    | (refine px_sn rfl rfl rfl rfl ?_; refine Qx.of (Or.inl rfl) (Nat.le_of_ble_eq_true rfl) ?_)
    | (refine ⟨_, _, _, rfl, Nat.le_of_ble_eq_true rfl, ?_⟩)
    | exact ⟨_, _, rfl, by simp only [xset, List.length_set, List.length_append, xf3, xf_len.2]; decide, Nat.le_of_ble_eq_true rfl⟩
set_option maxRecDepth 100000 in
set_option maxHeartbeats 4000000 in
theorem p1_c27 {x0 x1 x2 x3 x4 x5 : Int32} (hx : x0 &&& 31 = 27) : Px none (some [x0, x1, x2, x3, x4, x5]) xlaw 23 [(4, .int 0), (3, .ref 158), (2, .ref 78), (1, .ref 4), (0, .ref 0)] [] xf3 (xf2k + 1) xfin := by
  refine p1_head (pc := 1719) hx rfl ?_
  repeat' first
    | refine px_step rfl rfl rfl ?_
    | (refine px_ret rfl rfl rfl ?_; try dsimp only [xbk, xbc, xbn])
    | (refine px_thr rfl rfl rfl ?_; try dsimp only [xbk, xbc, xbn])
    | (refine px_if rfl rfl ?_ ?_ <;> intro hb <;> (try simp [xcmp, Int32.lt_iff_toInt_lt, Int32.le_iff_toInt_le] at hb) <;> first | (exfalso; omega) | skip)
    | (refine px_icmp rfl rfl ?_ ?_ <;> intro hb <;> (try simp [xcmp, Int32.lt_iff_toInt_lt, Int32.le_iff_toInt_le] at hb) <;> first | (exfalso; omega) | skip)
    | (refine px_vi rfl rfl rfl rfl rfl ?_; refine Qx.of (Or.inl rfl) (Nat.le_of_ble_eq_true rfl) ?_)
    | (refine px_vc rfl rfl rfl rfl (by decide) ?_; refine Qx.of (Or.inl rfl) (Nat.le_of_ble_eq_true rfl) ?_)
    | (refine px_st rfl rfl rfl rfl rfl ?_; refine Qx.of (Or.inl rfl) (Nat.le_of_ble_eq_true rfl) ?_)
    | (refine px_sw rfl rfl rfl ?_; refine Qx.of (Or.inr rfl) (Nat.le_of_ble_eq_true rfl) ?_)
    | (refine px_sn rfl rfl rfl rfl ?_; refine Qx.of (Or.inl rfl) (Nat.le_of_ble_eq_true rfl) ?_)
    | (refine ⟨_, _, _, rfl, Nat.le_of_ble_eq_true rfl, ?_⟩)
    | exact ⟨_, _, rfl, by simp only [xset, List.length_set, List.length_append, xf3, xf_len.2]; decide, Nat.le_of_ble_eq_true rfl⟩
set_option maxRecDepth 100000 in
set_option maxHeartbeats 4000000 in
theorem p1_c28 {x0 x1 x2 x3 x4 x5 : Int32} (hx : x0 &&& 31 = 28) : Px none (some [x0, x1, x2, x3, x4, x5]) xlaw 23 [(4, .int 0), (3, .ref 158), (2, .ref 78), (1, .ref 4), (0, .ref 0)] [] xf3 (xf2k + 1) xfin := by
  refine p1_head (pc := 1719) hx rfl ?_
  repeat' first
    | refine px_step rfl rfl rfl ?_
    | (refine px_ret rfl rfl rfl ?_; try dsimp only [xbk, xbc, xbn])
    | (refine px_thr rfl rfl rfl ?_; try dsimp only [xbk, xbc, xbn])
    | (refine px_if rfl rfl ?_ ?_ <;> intro hb <;> (try simp [xcmp, Int32.lt_iff_toInt_lt, Int32.le_iff_toInt_le] at hb) <;> first | (exfalso; omega) | skip)
    | (refine px_icmp rfl rfl ?_ ?_ <;> intro hb <;> (try simp [xcmp, Int32.lt_iff_toInt_lt, Int32.le_iff_toInt_le] at hb) <;> first | (exfalso; omega) | skip)
    | (refine px_vi rfl rfl rfl rfl rfl ?_; refine Qx.of (Or.inl rfl) (Nat.le_of_ble_eq_true rfl) ?_)
    | (refine px_vc rfl rfl rfl rfl (by decide) ?_; refine Qx.of (Or.inl rfl) (Nat.le_of_ble_eq_true rfl) ?_)
    | (refine px_st rfl rfl rfl rfl rfl ?_; refine Qx.of (Or.inl rfl) (Nat.le_of_ble_eq_true rfl) ?_)
    | (refine px_sw rfl rfl rfl ?_; refine Qx.of (Or.inr rfl) (Nat.le_of_ble_eq_true rfl) ?_)
    | (refine px_sn rfl rfl rfl rfl ?_; refine Qx.of (Or.inl rfl) (Nat.le_of_ble_eq_true rfl) ?_)
    | (refine ⟨_, _, _, rfl, Nat.le_of_ble_eq_true rfl, ?_⟩)
    | exact ⟨_, _, rfl, by simp only [xset, List.length_set, List.length_append, xf3, xf_len.2]; decide, Nat.le_of_ble_eq_true rfl⟩
set_option maxRecDepth 100000 in
set_option maxHeartbeats 4000000 in
theorem p1_c29 {x0 x1 x2 x3 x4 x5 : Int32} (hx : x0 &&& 31 = 29) : Px none (some [x0, x1, x2, x3, x4, x5]) xlaw 23 [(4, .int 0), (3, .ref 158), (2, .ref 78), (1, .ref 4), (0, .ref 0)] [] xf3 (xf2k + 1) xfin := by
  refine p1_head (pc := 1719) hx rfl ?_
  repeat' first
    | refine px_step rfl rfl rfl ?_
    | (refine px_ret rfl rfl rfl ?_; try dsimp only [xbk, xbc, xbn])
    | (refine px_thr rfl rfl rfl ?_; try dsimp only [xbk, xbc, xbn])
    | (refine px_if rfl rfl ?_ ?_ <;> intro hb <;> (try simp [xcmp, Int32.lt_iff_toInt_lt, Int32.le_iff_toInt_le] at hb) <;> first | (exfalso; omega) | skip)
    | (refine px_icmp rfl rfl ?_ ?_ <;> intro hb <;> (try simp [xcmp, Int32.lt_iff_toInt_lt, Int32.le_iff_toInt_le] at hb) <;> first | (exfalso; omega) | skip)
    | (refine px_vi rfl rfl rfl rfl rfl ?_; refine Qx.of (Or.inl rfl) (Nat.le_of_ble_eq_true rfl) ?_)
    | (refine px_vc rfl rfl rfl rfl (by decide) ?_; refine Qx.of (Or.inl rfl) (Nat.le_of_ble_eq_true rfl) ?_)
    | (refine px_st rfl rfl rfl rfl rfl ?_; refine Qx.of (Or.inl rfl) (Nat.le_of_ble_eq_true rfl) ?_)
    | (refine px_sw rfl rfl rfl ?_; refine Qx.of (Or.inr rfl) (Nat.le_of_ble_eq_true rfl) ?_)
    | (refine px_sn rfl rfl rfl rfl ?_; refine Qx.of (Or.inl rfl) (Nat.le_of_ble_eq_true rfl) ?_)
    | (refine ⟨_, _, _, rfl, Nat.le_of_ble_eq_true rfl, ?_⟩)
    | exact ⟨_, _, rfl, by simp only [xset, List.length_set, List.length_append, xf3, xf_len.2]; decide, Nat.le_of_ble_eq_true rfl⟩
set_option maxRecDepth 100000 in
set_option maxHeartbeats 4000000 in
theorem p1_c30 {x0 x1 x2 x3 x4 x5 : Int32} (hx : x0 &&& 31 = 30) : Px none (some [x0, x1, x2, x3, x4, x5]) xlaw 23 [(4, .int 0), (3, .ref 158), (2, .ref 78), (1, .ref 4), (0, .ref 0)] [] xf3 (xf2k + 1) xfin := by
  refine p1_head (pc := 1719) hx rfl ?_
  repeat' first
    | refine px_step rfl rfl rfl ?_
    | (refine px_ret rfl rfl rfl ?_; try dsimp only [xbk, xbc, xbn])
    | (refine px_thr rfl rfl rfl ?_; try dsimp only [xbk, xbc, xbn])
    | (refine px_if rfl rfl ?_ ?_ <;> intro hb <;> (try simp [xcmp, Int32.lt_iff_toInt_lt, Int32.le_iff_toInt_le] at hb) <;> first | (exfalso; omega) | skip)
    | (refine px_icmp rfl rfl ?_ ?_ <;> intro hb <;> (try simp [xcmp, Int32.lt_iff_toInt_lt, Int32.le_iff_toInt_le] at hb) <;> first | (exfalso; omega) | skip)
    | (refine px_vi rfl rfl rfl rfl rfl ?_; refine Qx.of (Or.inl rfl) (Nat.le_of_ble_eq_true rfl) ?_)
    | (refine px_vc rfl rfl rfl rfl (by decide) ?_; refine Qx.of (Or.inl rfl) (Nat.le_of_ble_eq_true rfl) ?_)
    | (refine px_st rfl rfl rfl rfl rfl ?_; refine Qx.of (Or.inl rfl) (Nat.le_of_ble_eq_true rfl) ?_)
    | (refine px_sw rfl rfl rfl ?_; refine Qx.of (Or.inr rfl) (Nat.le_of_ble_eq_true rfl) ?_)
    | (refine px_sn rfl rfl rfl rfl ?_; refine Qx.of (Or.inl rfl) (Nat.le_of_ble_eq_true rfl) ?_)
    | (refine ⟨_, _, _, rfl, Nat.le_of_ble_eq_true rfl, ?_⟩)
    | exact ⟨_, _, rfl, by simp only [xset, List.length_set, List.length_append, xf3, xf_len.2]; decide, Nat.le_of_ble_eq_true rfl⟩
set_option maxRecDepth 100000 in
set_option maxHeartbeats 4000000 in
theorem p1_c31 {x0 x1 x2 x3 x4 x5 : Int32} (hx : x0 &&& 31 = 31) : Px none (some [x0, x1, x2, x3, x4, x5]) xlaw 23 [(4, .int 0), (3, .ref 158), (2, .ref 78), (1, .ref 4), (0, .ref 0)] [] xf3 (xf2k + 1) xfin := by
  refine p1_head (pc := 1719) hx rfl ?_
  repeat' first
    | refine px_step rfl rfl rfl ?_
    | (refine px_ret rfl rfl rfl ?_; try dsimp only [xbk, xbc, xbn])
    | (refine px_thr rfl rfl rfl ?_; try dsimp only [xbk, xbc, xbn])
    | (refine px_if rfl rfl ?_ ?_ <;> intro hb <;> (try simp [xcmp, Int32.lt_iff_toInt_lt, Int32.le_iff_toInt_le] at hb) <;> first | (exfalso; omega) | skip)
    | (refine px_icmp rfl rfl ?_ ?_ <;> intro hb <;> (try simp [xcmp, Int32.lt_iff_toInt_lt, Int32.le_iff_toInt_le] at hb) <;> first | (exfalso; omega) | skip)
    | (refine px_vi rfl rfl rfl rfl rfl ?_; refine Qx.of (Or.inl rfl) (Nat.le_of_ble_eq_true rfl) ?_)
    | (refine px_vc rfl rfl rfl rfl (by decide) ?_; refine Qx.of (Or.inl rfl) (Nat.le_of_ble_eq_true rfl) ?_)
    | (refine px_st rfl rfl rfl rfl rfl ?_; refine Qx.of (Or.inl rfl) (Nat.le_of_ble_eq_true rfl) ?_)
    | (refine px_sw rfl rfl rfl ?_; refine Qx.of (Or.inr rfl) (Nat.le_of_ble_eq_true rfl) ?_)
    | (refine px_sn rfl rfl rfl rfl ?_; refine Qx.of (Or.inl rfl) (Nat.le_of_ble_eq_true rfl) ?_)
    | (refine ⟨_, _, _, rfl, Nat.le_of_ble_eq_true rfl, ?_⟩)
    | exact ⟨_, _, rfl, by simp only [xset, List.length_set, List.length_append, xf3, xf_len.2]; decide, Nat.le_of_ble_eq_true rfl⟩
end XP3
end
section
/-! p1: open -/
section XP3
theorem xk_neF {a b : Int32} (h : xcmp .ne a b = false) : a = b := by
  unfold xcmp at h
  simpa using h
theorem and_m1 {x E : Int32} (hE : E = -1) (h : x &&& E = 0) : x = 0 := by
  subst hE
  simpa using h
theorem bc_0 (h : xH) (ks : Nat) : Cx none 17 [.int 0] h ks (none, some (.int 0), h, ks) := by
  have := bc_ok none 0 h ks
  rw [show bc6 0 = 0 by decide +kernel] at this
  exact this
theorem cl_s {sd : Option (List Int32)} {F d μ : Nat} {as : List Value} {h : xH} {ks : Nat} {v : Int32} (e : xoi (xcall F sd d μ as h ks) v h ks = true) : Cx sd μ as h ks (none, some (.int v), h, ks) := cl_i e
set_option maxRecDepth 100000 in
set_option maxHeartbeats 4000000 in
theorem p1_c2a {x0 x2 x3 x4 x5 : Int32} (hx : x0 &&& 31 = 2) : Px none (some [x0, 0, x2, x3, x4, x5]) xlaw 23 [(4, .int 0), (3, .ref 158), (2, .ref 78), (1, .ref 4), (0, .ref 0)] [] xf3 (xf2k + 1) xfin := by
  refine p1_head (pc := 268) hx rfl ?_
  refine px_step rfl rfl rfl ?_
  refine px_step rfl rfl rfl ?_
  refine px_step rfl rfl rfl ?_
  refine px_step rfl rfl rfl ?_
  refine px_step rfl rfl rfl ?_
  refine px_step (st' := [.int 0, .ref 4]) rfl rfl rfl ?_
  refine px_step rfl rfl rfl ?_
  refine px_step rfl rfl rfl ?_
  refine px_step rfl rfl rfl ?_
  refine px_step rfl rfl rfl ?_
  refine px_step (st' := [.int x2, .int 0, .ref 4]) rfl rfl rfl ?_
  refine px_step rfl rfl rfl ?_
  refine px_sw rfl rfl rfl ?_
  refine Qx.of (Or.inr rfl) (Nat.le_of_ble_eq_true rfl) ?_
  refine px_step rfl rfl rfl ?_
  refine px_step rfl rfl rfl ?_
  refine px_step rfl rfl rfl ?_
  refine px_step rfl rfl rfl ?_
  refine px_step rfl rfl rfl ?_
  refine px_vc rfl rfl rfl rfl (by decide) ?_
  refine Qx.of (Or.inl rfl) (Nat.le_of_ble_eq_true rfl) ?_
  refine px_step rfl rfl rfl ?_
  refine px_step rfl rfl rfl ?_
  refine px_step rfl rfl rfl ?_
  refine px_vi rfl rfl rfl rfl rfl (Qx.at (cl_s (F := 300) (d := 2) (v := 1) (by decide +kernel)) ?_)
  dsimp only [xbk, xbc, xbn]
  refine px_if rfl rfl (fun hb => by exact absurd hb (by decide +kernel)) (fun hb => ?_)
  refine px_step rfl rfl rfl ?_
  refine px_st rfl rfl rfl rfl rfl (Qx.at (bc_0 _ _) ?_)
  dsimp only [xbk, xbc, xbn]
  refine px_step rfl rfl rfl ?_
  refine px_icmp rfl rfl (fun hb => by exact absurd hb (by decide +kernel)) (fun hb => ?_)
  refine px_thr rfl rfl rfl ?_
  dsimp only [xbk, xbc, xbn]
  refine ⟨_, _, _, rfl, Nat.le_of_ble_eq_true rfl, ?_⟩
  refine px_step rfl rfl rfl ?_
  refine px_ret rfl rfl rfl ?_
  dsimp only [xbk, xbc, xbn]
  refine px_step rfl rfl rfl ?_
  refine px_step rfl rfl rfl ?_
  refine px_step rfl rfl rfl ?_
  refine px_step rfl rfl rfl ?_
  refine px_step rfl rfl rfl ?_
  refine px_step rfl rfl rfl ?_
  refine px_step (st' := [.int 0, .ref 78]) rfl rfl rfl ?_
  refine px_step rfl rfl rfl ?_
  refine px_step rfl rfl rfl ?_
  refine px_step rfl rfl rfl ?_
  refine px_step rfl rfl rfl ?_
  refine px_step (st' := [.int x2, .int 0, .ref 78]) rfl rfl rfl ?_
  refine px_vi rfl rfl rfl rfl rfl ?_
  refine Qx.of (Or.inl rfl) (Nat.le_of_ble_eq_true rfl) ?_
  refine px_step rfl rfl rfl ?_
  refine px_step rfl rfl rfl ?_
  refine px_step rfl rfl rfl ?_
  refine px_step rfl rfl rfl ?_
  refine px_if rfl rfl (fun hb => by exact absurd hb (by decide +kernel)) (fun hb => ?_)
  refine px_step rfl rfl rfl ?_
  refine px_step rfl rfl rfl ?_
  refine px_step rfl rfl rfl ?_
  refine px_step rfl rfl rfl ?_
  refine px_step rfl rfl rfl ?_
  refine px_icmp rfl rfl (fun hb => by exact absurd hb (by decide +kernel)) (fun hb => ?_)
  refine px_step rfl rfl rfl ?_
  refine px_st rfl rfl rfl rfl rfl (Qx.at (cl_s (F := 300) (d := 2) (v := 0) (by decide +kernel)) ?_)
  dsimp only [xbk, xbc, xbn]
  refine px_step rfl rfl rfl ?_
  refine px_icmp rfl rfl (fun hb => ?_) (fun hb => by exact absurd hb (by decide +kernel))
  refine px_step rfl rfl rfl ?_
  refine px_step rfl rfl rfl ?_
  refine px_vi rfl rfl rfl rfl rfl ?_
  refine Qx.of (Or.inl rfl) (Nat.le_of_ble_eq_true rfl) ?_
  refine px_step rfl rfl rfl ?_
  refine px_step rfl rfl rfl ?_
  refine px_step rfl rfl rfl ?_
  refine px_step rfl rfl rfl ?_
  refine px_ret rfl rfl rfl ?_
  dsimp only [xbk, xbc, xbn]
  refine px_ret rfl rfl rfl ?_
  dsimp only [xbk, xbc, xbn]
  refine px_step rfl rfl rfl ?_
  refine px_step rfl rfl rfl ?_
  refine px_vi rfl rfl rfl rfl rfl ?_
  refine Qx.of (Or.inl rfl) (Nat.le_of_ble_eq_true rfl) ?_
  refine px_step rfl rfl rfl ?_
  refine px_step rfl rfl rfl ?_
  refine px_ret rfl rfl rfl ?_
  dsimp only [xbk, xbc, xbn]
  refine px_step rfl rfl rfl ?_
  refine px_step rfl rfl rfl ?_
  refine px_step rfl rfl rfl ?_
  refine px_step rfl rfl rfl ?_
  refine px_step rfl rfl rfl ?_
  refine px_step rfl rfl rfl ?_
  refine px_step rfl rfl rfl ?_
  refine px_step rfl rfl rfl ?_
  refine px_step rfl rfl rfl ?_
  refine px_step (st' := [.int 6, .int 6]) rfl rfl rfl ?_
  refine px_step rfl rfl rfl ?_
  refine px_step rfl rfl rfl ?_
  refine px_icmp rfl rfl (fun hb => ?_) (fun hb => by exact absurd hb (by decide +kernel))
  refine px_step rfl rfl rfl ?_
  refine px_ret rfl rfl rfl ?_
  exact ⟨_, _, rfl, by simp only [xset, List.length_set, List.length_append, xf3, xf_len.2]; decide, Nat.le_of_ble_eq_true rfl⟩
set_option maxRecDepth 100000 in
set_option maxHeartbeats 4000000 in
theorem p1_c2b {x0 x1 x2 x3 x4 x5 : Int32} (h0 : ¬ x1 = 0) (h1 : ¬ x1.toInt = 0) (hn : x1.toInt < 0) (hx : x0 &&& 31 = 2) : Px none (some [x0, x1, x2, x3, x4, x5]) xlaw 23 [(4, .int 0), (3, .ref 158), (2, .ref 78), (1, .ref 4), (0, .ref 0)] [] xf3 (xf2k + 1) xfin := by
  refine p1_head (pc := 268) hx rfl ?_
  refine px_step rfl rfl rfl ?_
  refine px_step rfl rfl rfl ?_
  refine px_step rfl rfl rfl ?_
  refine px_step rfl rfl rfl ?_
  refine px_step rfl rfl rfl ?_
  refine px_step (st' := [.int x1, .ref 4]) rfl rfl rfl ?_
  refine px_step rfl rfl rfl ?_
  refine px_step rfl rfl rfl ?_
  refine px_step rfl rfl rfl ?_
  refine px_step rfl rfl rfl ?_
  refine px_step (st' := [.int x2, .int x1, .ref 4]) rfl rfl rfl ?_
  refine px_step rfl rfl rfl ?_
  refine px_sw rfl rfl rfl ?_
  refine Qx.of (Or.inr rfl) (Nat.le_of_ble_eq_true rfl) ?_
  refine px_step rfl rfl rfl ?_
  refine px_step rfl rfl rfl ?_
  refine px_step rfl rfl rfl ?_
  refine px_step rfl rfl rfl ?_
  refine px_step rfl rfl rfl ?_
  refine px_vc rfl rfl rfl rfl (by decide) ?_
  refine Qx.of (Or.inl rfl) (Nat.le_of_ble_eq_true rfl) ?_
  refine px_step rfl rfl rfl ?_
  refine px_step (st' := [.ref 5]) rfl rfl rfl ?_
  refine px_step rfl rfl rfl ?_
  refine px_vi rfl rfl rfl rfl rfl ?_
  refine Qx.of (Or.inl rfl) (Nat.le_of_ble_eq_true rfl) ?_
  refine px_step rfl rfl rfl ?_
  refine px_step rfl rfl rfl ?_
  refine px_step rfl rfl rfl ?_
  refine px_step (st' := [.int 0, .int 1, .int x1]) rfl rfl rfl ?_
  refine px_step rfl rfl rfl ?_
  refine px_step rfl rfl rfl ?_
  refine px_step rfl rfl rfl ?_
  refine px_step (st' := [.int (-1), .int 0, .int x1]) rfl rfl rfl ?_
  refine px_step (st' := [.int (-1), .int x1]) rfl rfl rfl ?_
  refine px_step rfl rfl rfl ?_
  refine px_if rfl rfl (fun hb => ?_) (fun hb => by exact absurd (and_m1 rfl (xk_neF hb)) h0)
  refine px_step rfl rfl rfl ?_
  refine px_ret rfl rfl rfl ?_
  dsimp only [xbk, xbc, xbn]
  refine px_if rfl rfl (fun hb => ?_) (fun hb => by exact absurd hb (by decide +kernel))
  refine px_thr rfl rfl rfl ?_
  dsimp only [xbk, xbc, xbn]
  refine ⟨_, _, _, rfl, Nat.le_of_ble_eq_true rfl, ?_⟩
  refine px_step rfl rfl rfl ?_
  refine px_ret rfl rfl rfl ?_
  dsimp only [xbk, xbc, xbn]
  refine px_step rfl rfl rfl ?_
  refine px_step rfl rfl rfl ?_
  refine px_step rfl rfl rfl ?_
  refine px_step rfl rfl rfl ?_
  refine px_step rfl rfl rfl ?_
  refine px_step rfl rfl rfl ?_
  refine px_step (st' := [.int x1, .ref 78]) rfl rfl rfl ?_
  refine px_step rfl rfl rfl ?_
  refine px_step rfl rfl rfl ?_
  refine px_step rfl rfl rfl ?_
  refine px_step rfl rfl rfl ?_
  refine px_step (st' := [.int x2, .int x1, .ref 78]) rfl rfl rfl ?_
  refine px_vi rfl rfl rfl rfl rfl ?_
  refine Qx.of (Or.inl rfl) (Nat.le_of_ble_eq_true rfl) ?_
  refine px_step rfl rfl rfl ?_
  refine px_step rfl rfl rfl ?_
  refine px_step rfl rfl rfl ?_
  refine px_step rfl rfl rfl ?_
  refine px_if rfl rfl (fun hb => ?_) (fun hb => by simp [xcmp, Int32.lt_iff_toInt_lt] at hb; omega)
  refine px_step rfl rfl rfl ?_
  refine px_step rfl rfl rfl ?_
  refine px_vi rfl rfl rfl rfl rfl ?_
  refine Qx.of (Or.inl rfl) (Nat.le_of_ble_eq_true rfl) ?_
  refine px_step rfl rfl rfl ?_
  refine px_step rfl rfl rfl ?_
  refine px_step rfl rfl rfl ?_
  refine px_step rfl rfl rfl ?_
  refine px_ret rfl rfl rfl ?_
  dsimp only [xbk, xbc, xbn]
  refine px_ret rfl rfl rfl ?_
  dsimp only [xbk, xbc, xbn]
  refine px_step rfl rfl rfl ?_
  refine px_step rfl rfl rfl ?_
  refine px_vi rfl rfl rfl rfl rfl ?_
  refine Qx.of (Or.inl rfl) (Nat.le_of_ble_eq_true rfl) ?_
  refine px_step rfl rfl rfl ?_
  refine px_step rfl rfl rfl ?_
  refine px_ret rfl rfl rfl ?_
  dsimp only [xbk, xbc, xbn]
  refine px_step rfl rfl rfl ?_
  refine px_step rfl rfl rfl ?_
  refine px_step rfl rfl rfl ?_
  refine px_step rfl rfl rfl ?_
  refine px_step rfl rfl rfl ?_
  refine px_step rfl rfl rfl ?_
  refine px_step rfl rfl rfl ?_
  refine px_step rfl rfl rfl ?_
  refine px_step rfl rfl rfl ?_
  refine px_step (st' := [.int 6, .int 6]) rfl rfl rfl ?_
  refine px_step rfl rfl rfl ?_
  refine px_step rfl rfl rfl ?_
  refine px_icmp rfl rfl (fun hb => ?_) (fun hb => by exact absurd hb (by decide +kernel))
  refine px_step rfl rfl rfl ?_
  refine px_ret rfl rfl rfl ?_
  exact ⟨_, _, rfl, by simp only [xset, List.length_set, List.length_append, xf3, xf_len.2]; decide, Nat.le_of_ble_eq_true rfl⟩
set_option maxRecDepth 100000 in
set_option maxHeartbeats 4000000 in
theorem p1_c2c {x0 x1 x2 x3 x4 x5 : Int32} (h0 : ¬ x1 = 0) (h1 : ¬ x1.toInt = 0) (hn : ¬ x1.toInt < 0) (hx : x0 &&& 31 = 2) : Px none (some [x0, x1, x2, x3, x4, x5]) xlaw 23 [(4, .int 0), (3, .ref 158), (2, .ref 78), (1, .ref 4), (0, .ref 0)] [] xf3 (xf2k + 1) xfin := by
  refine p1_head (pc := 268) hx rfl ?_
  refine px_step rfl rfl rfl ?_
  refine px_step rfl rfl rfl ?_
  refine px_step rfl rfl rfl ?_
  refine px_step rfl rfl rfl ?_
  refine px_step rfl rfl rfl ?_
  refine px_step (st' := [.int x1, .ref 4]) rfl rfl rfl ?_
  refine px_step rfl rfl rfl ?_
  refine px_step rfl rfl rfl ?_
  refine px_step rfl rfl rfl ?_
  refine px_step rfl rfl rfl ?_
  refine px_step (st' := [.int x2, .int x1, .ref 4]) rfl rfl rfl ?_
  refine px_step rfl rfl rfl ?_
  refine px_sw rfl rfl rfl ?_
  refine Qx.of (Or.inr rfl) (Nat.le_of_ble_eq_true rfl) ?_
  refine px_step rfl rfl rfl ?_
  refine px_step rfl rfl rfl ?_
  refine px_step rfl rfl rfl ?_
  refine px_step rfl rfl rfl ?_
  refine px_step rfl rfl rfl ?_
  refine px_vc rfl rfl rfl rfl (by decide) ?_
  refine Qx.of (Or.inl rfl) (Nat.le_of_ble_eq_true rfl) ?_
  refine px_step rfl rfl rfl ?_
  refine px_step (st' := [.ref 5]) rfl rfl rfl ?_
  refine px_step rfl rfl rfl ?_
  refine px_vi rfl rfl rfl rfl rfl ?_
  refine Qx.of (Or.inl rfl) (Nat.le_of_ble_eq_true rfl) ?_
  refine px_step rfl rfl rfl ?_
  refine px_step rfl rfl rfl ?_
  refine px_step rfl rfl rfl ?_
  refine px_step (st' := [.int 0, .int 1, .int x1]) rfl rfl rfl ?_
  refine px_step rfl rfl rfl ?_
  refine px_step rfl rfl rfl ?_
  refine px_step rfl rfl rfl ?_
  refine px_step (st' := [.int (-1), .int 0, .int x1]) rfl rfl rfl ?_
  refine px_step (st' := [.int (-1), .int x1]) rfl rfl rfl ?_
  refine px_step rfl rfl rfl ?_
  refine px_if rfl rfl (fun hb => ?_) (fun hb => by exact absurd (and_m1 rfl (xk_neF hb)) h0)
  refine px_step rfl rfl rfl ?_
  refine px_ret rfl rfl rfl ?_
  dsimp only [xbk, xbc, xbn]
  refine px_if rfl rfl (fun hb => ?_) (fun hb => by exact absurd hb (by decide +kernel))
  refine px_thr rfl rfl rfl ?_
  dsimp only [xbk, xbc, xbn]
  refine ⟨_, _, _, rfl, Nat.le_of_ble_eq_true rfl, ?_⟩
  refine px_step rfl rfl rfl ?_
  refine px_ret rfl rfl rfl ?_
  dsimp only [xbk, xbc, xbn]
  refine px_step rfl rfl rfl ?_
  refine px_step rfl rfl rfl ?_
  refine px_step rfl rfl rfl ?_
  refine px_step rfl rfl rfl ?_
  refine px_step rfl rfl rfl ?_
  refine px_step rfl rfl rfl ?_
  refine px_step (st' := [.int x1, .ref 78]) rfl rfl rfl ?_
  refine px_step rfl rfl rfl ?_
  refine px_step rfl rfl rfl ?_
  refine px_step rfl rfl rfl ?_
  refine px_step rfl rfl rfl ?_
  refine px_step (st' := [.int x2, .int x1, .ref 78]) rfl rfl rfl ?_
  refine px_vi rfl rfl rfl rfl rfl ?_
  refine Qx.of (Or.inl rfl) (Nat.le_of_ble_eq_true rfl) ?_
  refine px_step rfl rfl rfl ?_
  refine px_step rfl rfl rfl ?_
  refine px_step rfl rfl rfl ?_
  refine px_step rfl rfl rfl ?_
  refine px_if rfl rfl (fun hb => by simp [xcmp, Int32.lt_iff_toInt_lt] at hb; omega) (fun hb => ?_)
  refine px_step rfl rfl rfl ?_
  refine px_step rfl rfl rfl ?_
  refine px_step rfl rfl rfl ?_
  refine px_step (st' := [.int 0, .int 1, .int x1]) rfl rfl rfl ?_
  refine px_step (st' := [.int 1, .int x1]) rfl rfl rfl ?_
  refine px_icmp rfl rfl (fun hb => ?_) (fun hb => by simp [xcmp, Int32.le_iff_toInt_le] at hb; omega)
  refine px_step rfl rfl rfl ?_
  refine px_step rfl rfl rfl ?_
  refine px_vi rfl rfl rfl rfl rfl ?_
  refine Qx.of (Or.inl rfl) (Nat.le_of_ble_eq_true rfl) ?_
  refine px_step rfl rfl rfl ?_
  refine px_step rfl rfl rfl ?_
  refine px_step rfl rfl rfl ?_
  refine px_step rfl rfl rfl ?_
  refine px_ret rfl rfl rfl ?_
  dsimp only [xbk, xbc, xbn]
  refine px_ret rfl rfl rfl ?_
  dsimp only [xbk, xbc, xbn]
  refine px_step rfl rfl rfl ?_
  refine px_step rfl rfl rfl ?_
  refine px_vi rfl rfl rfl rfl rfl ?_
  refine Qx.of (Or.inl rfl) (Nat.le_of_ble_eq_true rfl) ?_
  refine px_step rfl rfl rfl ?_
  refine px_step rfl rfl rfl ?_
  refine px_ret rfl rfl rfl ?_
  dsimp only [xbk, xbc, xbn]
  refine px_step rfl rfl rfl ?_
  refine px_step rfl rfl rfl ?_
  refine px_step rfl rfl rfl ?_
  refine px_step rfl rfl rfl ?_
  refine px_step rfl rfl rfl ?_
  refine px_step rfl rfl rfl ?_
  refine px_step rfl rfl rfl ?_
  refine px_step rfl rfl rfl ?_
  refine px_step rfl rfl rfl ?_
  refine px_step (st' := [.int 6, .int 6]) rfl rfl rfl ?_
  refine px_step rfl rfl rfl ?_
  refine px_step rfl rfl rfl ?_
  refine px_icmp rfl rfl (fun hb => ?_) (fun hb => by exact absurd hb (by decide +kernel))
  refine px_step rfl rfl rfl ?_
  refine px_ret rfl rfl rfl ?_
  exact ⟨_, _, rfl, by simp only [xset, List.length_set, List.length_append, xf3, xf_len.2]; decide, Nat.le_of_ble_eq_true rfl⟩
theorem p1_c2 {x0 x1 x2 x3 x4 x5 : Int32} (hx : x0 &&& 31 = 2) : Px none (some [x0, x1, x2, x3, x4, x5]) xlaw 23 [(4, .int 0), (3, .ref 158), (2, .ref 78), (1, .ref 4), (0, .ref 0)] [] xf3 (xf2k + 1) xfin := by
  by_cases h0 : x1 = 0
  · subst h0
    exact p1_c2a hx
  · have h1 : ¬ x1.toInt = 0 := fun h => h0 (Int32.toInt_inj.mp h)
    by_cases hn : x1.toInt < 0
    · exact p1_c2b h0 h1 hn hx
    · exact p1_c2c h0 h1 hn hx
end XP3
end
section
/-! p1: digest -/
section XCJ
def xol (o : Option xO) (v : Int64) (h : xH) (ks : Nat) : Bool := match o with
  | some (none, some (.long w), h', ks') => decide (w = v) && (xheq h' h && Nat.beq ks' ks)
  | _ => false
theorem xol_ok {o : Option xO} {v : Int64} {h : xH} {ks : Nat} (e : xol o v h ks = true) : o = some (none, some (.long v), h, ks) := by
  unfold xol at e
  split at e
  · rw [Bool.and_eq_true, Bool.and_eq_true] at e
    rw [of_decide_eq_true e.1, xheq_ok e.2.1, Nat.eq_of_beq_eq_true e.2.2]
  · cases e
theorem cl_l {sd : Option (List Int32)} {F d μ : Nat} {as : List Value} {h : xH} {ks : Nat} {v : Int64} {h2 : xH} {ks2 : Nat} (e : xol (xcall F sd d μ as h ks) v h2 ks2 = true) : Cx sd μ as h ks (none, some (.long v), h2, ks2) := ⟨F, d, xol_ok e⟩
def xob (o : Option xO) (v : Int64) (a b : Nat) : Bool := match o with
  | some (none, some (.long w), h', ks') => decide (w = v) && (Nat.ble h'.length a && Nat.ble ks' b)
  | _ => false
theorem xob_ok {o : Option xO} {v : Int64} {a b : Nat} (e : xob o v a b = true) : ∃ h' ks', o = some (none, some (.long v), h', ks') ∧ h'.length ≤ a ∧ ks' ≤ b := by
  unfold xob at e
  split at e
  · rw [Bool.and_eq_true, Bool.and_eq_true] at e
    rw [of_decide_eq_true e.1]
    exact ⟨_, _, rfl, Nat.le_of_ble_eq_true e.2.1, Nat.le_of_ble_eq_true e.2.2⟩
  · cases e
end XCJ
section XP3
set_option maxRecDepth 100000 in
theorem p1_dx : Cx none 48 [.ref 4] xf3 (xf2k + 1) (none, some (.long (-2538472710692905198)), xf3, xf2k + 1) := cl_l (F := 5000) (d := 9) (by decide +kernel)
set_option maxRecDepth 100000 in
theorem p1_dm : ∃ h' ks', Cx none 196 [.ref 78] xf3 (xf2k + 1) (none, some (.long (-2538472710692905198)), h', ks') ∧ h'.length ≤ 900 ∧ ks' ≤ 90000 := by
  obtain ⟨h', ks', e, a, b⟩ := xob_ok (o := xcall 5000 none 9 196 [.ref 78] xf3 (xf2k + 1)) (v := (-2538472710692905198)) (a := 900) (b := 90000) (by decide +kernel)
  exact ⟨h', ks', ⟨5000, 9, e⟩, a, b⟩
set_option maxRecDepth 100000 in
set_option maxHeartbeats 4000000 in
theorem p1_c24 {x0 x1 x2 x3 x4 x5 : Int32} (hx : x0 &&& 31 = 24) : Px none (some [x0, x1, x2, x3, x4, x5]) xlaw 23 [(4, .int 0), (3, .ref 158), (2, .ref 78), (1, .ref 4), (0, .ref 0)] [] xf3 (xf2k + 1) xfin := by
  refine p1_head (pc := 1705) hx rfl ?_
  obtain ⟨h9, k9, hd, hl9, hk9⟩ := p1_dm
  refine px_step rfl rfl rfl ?_
  refine px_vi rfl rfl rfl rfl rfl (Qx.at p1_dx ?_)
  dsimp only [xbk]
  refine px_step rfl rfl rfl ?_
  refine px_vi rfl rfl rfl rfl rfl (Qx.at hd ?_)
  dsimp only [xbk]
  repeat' first
    | refine px_step rfl rfl rfl ?_
    | (refine px_ret rfl rfl rfl ?_; try dsimp only [xbk, xbc, xbn])
    | (refine px_thr rfl rfl rfl ?_; try dsimp only [xbk, xbc, xbn])
    | (refine px_if rfl rfl ?_ ?_ <;> intro hb <;> (try simp [xcmp, Int32.lt_iff_toInt_lt, Int32.le_iff_toInt_le] at hb) <;> first | (exfalso; omega) | skip)
    | (refine px_icmp rfl rfl ?_ ?_ <;> intro hb <;> (try simp [xcmp, Int32.lt_iff_toInt_lt, Int32.le_iff_toInt_le] at hb) <;> first | (exfalso; omega) | skip)
    | (refine px_vi rfl rfl rfl rfl rfl ?_; refine Qx.of (Or.inl rfl) (Nat.le_of_ble_eq_true rfl) ?_)
    | (refine px_vc rfl rfl rfl rfl (by decide) ?_; refine Qx.of (Or.inl rfl) (Nat.le_of_ble_eq_true rfl) ?_)
    | (refine px_st rfl rfl rfl rfl rfl ?_; refine Qx.of (Or.inl rfl) (Nat.le_of_ble_eq_true rfl) ?_)
    | (refine px_sw rfl rfl rfl ?_; refine Qx.of (Or.inr rfl) (Nat.le_of_ble_eq_true rfl) ?_)
    | (refine px_sn rfl rfl rfl rfl ?_; refine Qx.of (Or.inl rfl) (Nat.le_of_ble_eq_true rfl) ?_)
    | (refine ⟨_, _, _, rfl, Nat.le_of_ble_eq_true rfl, ?_⟩)
    | exact ⟨_, _, rfl, Nat.le_trans hl9 (by decide), Nat.le_trans hk9 (by decide)⟩
    | exact ⟨_, _, rfl, by simp only [xset, List.length_set, List.length_append, xf3, xf_len.2]; decide, Nat.le_of_ble_eq_true rfl⟩
end XP3
end
section
/-! p1: many -/
section XP3
set_option maxRecDepth 100000 in
set_option maxHeartbeats 4000000 in
theorem p1_m0 {x0 x2 x3 x4 x5 : Int32} : Px none (some [x0, 0, x2, x3, x4, x5]) xlaw 1343 [(4, .int 0), (3, .ref 158), (2, .ref 78), (1, .ref 4), (0, .ref 0)] [] xf3 (xf2k + 1) xfin := by
  refine px_step rfl rfl rfl ?_
  refine px_step rfl rfl rfl ?_
  refine px_step rfl rfl rfl ?_
  refine px_step rfl rfl rfl ?_
  refine px_step rfl rfl rfl ?_
  refine px_step (st' := [.int 0, .ref 4]) rfl rfl rfl ?_
  refine px_step rfl rfl rfl ?_
  refine px_sw rfl rfl rfl (Qx.at (cl_i (F := 3000) (d := 8) (v := 0) (h2 := xf3) (ks2 := xf2k + 1) (by decide +kernel)) ?_)
  dsimp only [xbn]
  refine px_step rfl rfl rfl ?_
  refine px_step rfl rfl rfl ?_
  refine px_step rfl rfl rfl ?_
  refine px_step rfl rfl rfl ?_
  refine px_step rfl rfl rfl ?_
  refine px_step rfl rfl rfl ?_
  refine px_step (st' := [.int 0, .ref 78]) rfl rfl rfl ?_
  refine px_vi rfl rfl rfl rfl rfl (Qx.at (cl_i (F := 3000) (d := 8) (v := 0) (h2 := xf3 ++ [(100, List.replicate 11 (.int 0))]) (ks2 := xf2k + 1 + 11) (by decide +kernel)) ?_)
  dsimp only [xbk]
  repeat' first
    | refine px_step rfl rfl rfl ?_
    | (refine px_ret rfl rfl rfl ?_; try dsimp only [xbk, xbc, xbn])
    | (refine px_thr rfl rfl rfl ?_; try dsimp only [xbk, xbc, xbn])
    | (refine px_if rfl rfl ?_ ?_ <;> intro hb <;> (try simp [xcmp, Int32.lt_iff_toInt_lt, Int32.le_iff_toInt_le] at hb) <;> first | (exfalso; omega) | skip)
    | (refine px_icmp rfl rfl ?_ ?_ <;> intro hb <;> (try simp [xcmp, Int32.lt_iff_toInt_lt, Int32.le_iff_toInt_le] at hb) <;> first | (exfalso; omega) | skip)
    | (refine px_vi rfl rfl rfl rfl rfl ?_; refine Qx.of (Or.inl rfl) (Nat.le_of_ble_eq_true rfl) ?_)
    | (refine px_vc rfl rfl rfl rfl (by decide) ?_; refine Qx.of (Or.inl rfl) (Nat.le_of_ble_eq_true rfl) ?_)
    | (refine px_st rfl rfl rfl rfl rfl ?_; refine Qx.of (Or.inl rfl) (Nat.le_of_ble_eq_true rfl) ?_)
    | (refine px_sw rfl rfl rfl ?_; refine Qx.of (Or.inr rfl) (Nat.le_of_ble_eq_true rfl) ?_)
    | (refine px_sn rfl rfl rfl rfl ?_; refine Qx.of (Or.inl rfl) (Nat.le_of_ble_eq_true rfl) ?_)
    | (refine ⟨_, _, _, rfl, Nat.le_of_ble_eq_true rfl, ?_⟩)
    | exact ⟨_, _, rfl, by simp only [xset, List.length_set, List.length_append, xf3, xf_len.2]; decide, Nat.le_of_ble_eq_true rfl⟩
set_option maxRecDepth 100000 in
set_option maxHeartbeats 4000000 in
theorem p1_m1 {x0 x2 x3 x4 x5 : Int32} : Px none (some [x0, 1, x2, x3, x4, x5]) xlaw 1343 [(4, .int 0), (3, .ref 158), (2, .ref 78), (1, .ref 4), (0, .ref 0)] [] xf3 (xf2k + 1) xfin := by
  refine px_step rfl rfl rfl ?_
  refine px_step rfl rfl rfl ?_
  refine px_step rfl rfl rfl ?_
  refine px_step rfl rfl rfl ?_
  refine px_step rfl rfl rfl ?_
  refine px_step (st' := [.int 1, .ref 4]) rfl rfl rfl ?_
  refine px_step rfl rfl rfl ?_
  refine px_sw rfl rfl rfl (Qx.at (cl_i (F := 3000) (d := 8) (v := 0) (h2 := xf3) (ks2 := xf2k + 1) (by decide +kernel)) ?_)
  dsimp only [xbn]
  refine px_step rfl rfl rfl ?_
  refine px_step rfl rfl rfl ?_
  refine px_step rfl rfl rfl ?_
  refine px_step rfl rfl rfl ?_
  refine px_step rfl rfl rfl ?_
  refine px_step rfl rfl rfl ?_
  refine px_step (st' := [.int 1, .ref 78]) rfl rfl rfl ?_
  refine px_vi rfl rfl rfl rfl rfl (Qx.at (cl_i (F := 3000) (d := 8) (v := 0) (h2 := xf3 ++ [(100, List.replicate 11 (.int 0))]) (ks2 := xf2k + 1 + 11) (by decide +kernel)) ?_)
  dsimp only [xbk]
  repeat' first
    | refine px_step rfl rfl rfl ?_
    | (refine px_ret rfl rfl rfl ?_; try dsimp only [xbk, xbc, xbn])
    | (refine px_thr rfl rfl rfl ?_; try dsimp only [xbk, xbc, xbn])
    | (refine px_if rfl rfl ?_ ?_ <;> intro hb <;> (try simp [xcmp, Int32.lt_iff_toInt_lt, Int32.le_iff_toInt_le] at hb) <;> first | (exfalso; omega) | skip)
    | (refine px_icmp rfl rfl ?_ ?_ <;> intro hb <;> (try simp [xcmp, Int32.lt_iff_toInt_lt, Int32.le_iff_toInt_le] at hb) <;> first | (exfalso; omega) | skip)
    | (refine px_vi rfl rfl rfl rfl rfl ?_; refine Qx.of (Or.inl rfl) (Nat.le_of_ble_eq_true rfl) ?_)
    | (refine px_vc rfl rfl rfl rfl (by decide) ?_; refine Qx.of (Or.inl rfl) (Nat.le_of_ble_eq_true rfl) ?_)
    | (refine px_st rfl rfl rfl rfl rfl ?_; refine Qx.of (Or.inl rfl) (Nat.le_of_ble_eq_true rfl) ?_)
    | (refine px_sw rfl rfl rfl ?_; refine Qx.of (Or.inr rfl) (Nat.le_of_ble_eq_true rfl) ?_)
    | (refine px_sn rfl rfl rfl rfl ?_; refine Qx.of (Or.inl rfl) (Nat.le_of_ble_eq_true rfl) ?_)
    | (refine ⟨_, _, _, rfl, Nat.le_of_ble_eq_true rfl, ?_⟩)
    | exact ⟨_, _, rfl, by simp only [xset, List.length_set, List.length_append, xf3, xf_len.2]; decide, Nat.le_of_ble_eq_true rfl⟩
set_option maxRecDepth 100000 in
set_option maxHeartbeats 4000000 in
theorem p1_m2 {x0 x2 x3 x4 x5 : Int32} : Px none (some [x0, 2, x2, x3, x4, x5]) xlaw 1343 [(4, .int 0), (3, .ref 158), (2, .ref 78), (1, .ref 4), (0, .ref 0)] [] xf3 (xf2k + 1) xfin := by
  refine px_step rfl rfl rfl ?_
  refine px_step rfl rfl rfl ?_
  refine px_step rfl rfl rfl ?_
  refine px_step rfl rfl rfl ?_
  refine px_step rfl rfl rfl ?_
  refine px_step (st' := [.int 2, .ref 4]) rfl rfl rfl ?_
  refine px_step rfl rfl rfl ?_
  refine px_sw rfl rfl rfl (Qx.at (cl_i (F := 3000) (d := 8) (v := 0) (h2 := xf3) (ks2 := xf2k + 1) (by decide +kernel)) ?_)
  dsimp only [xbn]
  refine px_step rfl rfl rfl ?_
  refine px_step rfl rfl rfl ?_
  refine px_step rfl rfl rfl ?_
  refine px_step rfl rfl rfl ?_
  refine px_step rfl rfl rfl ?_
  refine px_step rfl rfl rfl ?_
  refine px_step (st' := [.int 2, .ref 78]) rfl rfl rfl ?_
  refine px_vi rfl rfl rfl rfl rfl (Qx.at (cl_i (F := 3000) (d := 8) (v := 0) (h2 := xf3 ++ [(100, List.replicate 11 (.int 0))]) (ks2 := xf2k + 1 + 11) (by decide +kernel)) ?_)
  dsimp only [xbk]
  repeat' first
    | refine px_step rfl rfl rfl ?_
    | (refine px_ret rfl rfl rfl ?_; try dsimp only [xbk, xbc, xbn])
    | (refine px_thr rfl rfl rfl ?_; try dsimp only [xbk, xbc, xbn])
    | (refine px_if rfl rfl ?_ ?_ <;> intro hb <;> (try simp [xcmp, Int32.lt_iff_toInt_lt, Int32.le_iff_toInt_le] at hb) <;> first | (exfalso; omega) | skip)
    | (refine px_icmp rfl rfl ?_ ?_ <;> intro hb <;> (try simp [xcmp, Int32.lt_iff_toInt_lt, Int32.le_iff_toInt_le] at hb) <;> first | (exfalso; omega) | skip)
    | (refine px_vi rfl rfl rfl rfl rfl ?_; refine Qx.of (Or.inl rfl) (Nat.le_of_ble_eq_true rfl) ?_)
    | (refine px_vc rfl rfl rfl rfl (by decide) ?_; refine Qx.of (Or.inl rfl) (Nat.le_of_ble_eq_true rfl) ?_)
    | (refine px_st rfl rfl rfl rfl rfl ?_; refine Qx.of (Or.inl rfl) (Nat.le_of_ble_eq_true rfl) ?_)
    | (refine px_sw rfl rfl rfl ?_; refine Qx.of (Or.inr rfl) (Nat.le_of_ble_eq_true rfl) ?_)
    | (refine px_sn rfl rfl rfl rfl ?_; refine Qx.of (Or.inl rfl) (Nat.le_of_ble_eq_true rfl) ?_)
    | (refine ⟨_, _, _, rfl, Nat.le_of_ble_eq_true rfl, ?_⟩)
    | exact ⟨_, _, rfl, by simp only [xset, List.length_set, List.length_append, xf3, xf_len.2]; decide, Nat.le_of_ble_eq_true rfl⟩
set_option maxRecDepth 100000 in
set_option maxHeartbeats 4000000 in
theorem p1_m3 {x0 x2 x3 x4 x5 : Int32} : Px none (some [x0, 3, x2, x3, x4, x5]) xlaw 1343 [(4, .int 0), (3, .ref 158), (2, .ref 78), (1, .ref 4), (0, .ref 0)] [] xf3 (xf2k + 1) xfin := by
  refine px_step rfl rfl rfl ?_
  refine px_step rfl rfl rfl ?_
  refine px_step rfl rfl rfl ?_
  refine px_step rfl rfl rfl ?_
  refine px_step rfl rfl rfl ?_
  refine px_step (st' := [.int 3, .ref 4]) rfl rfl rfl ?_
  refine px_step rfl rfl rfl ?_
  refine px_sw rfl rfl rfl (Qx.at (cl_i (F := 3000) (d := 8) (v := 0) (h2 := xf3) (ks2 := xf2k + 1) (by decide +kernel)) ?_)
  dsimp only [xbn]
  refine px_step rfl rfl rfl ?_
  refine px_step rfl rfl rfl ?_
  refine px_step rfl rfl rfl ?_
  refine px_step rfl rfl rfl ?_
  refine px_step rfl rfl rfl ?_
  refine px_step rfl rfl rfl ?_
  refine px_step (st' := [.int 3, .ref 78]) rfl rfl rfl ?_
  refine px_vi rfl rfl rfl rfl rfl (Qx.at (cl_i (F := 3000) (d := 8) (v := 0) (h2 := xf3 ++ [(100, List.replicate 11 (.int 0))]) (ks2 := xf2k + 1 + 11) (by decide +kernel)) ?_)
  dsimp only [xbk]
  repeat' first
    | refine px_step rfl rfl rfl ?_
    | (refine px_ret rfl rfl rfl ?_; try dsimp only [xbk, xbc, xbn])
    | (refine px_thr rfl rfl rfl ?_; try dsimp only [xbk, xbc, xbn])
    | (refine px_if rfl rfl ?_ ?_ <;> intro hb <;> (try simp [xcmp, Int32.lt_iff_toInt_lt, Int32.le_iff_toInt_le] at hb) <;> first | (exfalso; omega) | skip)
    | (refine px_icmp rfl rfl ?_ ?_ <;> intro hb <;> (try simp [xcmp, Int32.lt_iff_toInt_lt, Int32.le_iff_toInt_le] at hb) <;> first | (exfalso; omega) | skip)
    | (refine px_vi rfl rfl rfl rfl rfl ?_; refine Qx.of (Or.inl rfl) (Nat.le_of_ble_eq_true rfl) ?_)
    | (refine px_vc rfl rfl rfl rfl (by decide) ?_; refine Qx.of (Or.inl rfl) (Nat.le_of_ble_eq_true rfl) ?_)
    | (refine px_st rfl rfl rfl rfl rfl ?_; refine Qx.of (Or.inl rfl) (Nat.le_of_ble_eq_true rfl) ?_)
    | (refine px_sw rfl rfl rfl ?_; refine Qx.of (Or.inr rfl) (Nat.le_of_ble_eq_true rfl) ?_)
    | (refine px_sn rfl rfl rfl rfl ?_; refine Qx.of (Or.inl rfl) (Nat.le_of_ble_eq_true rfl) ?_)
    | (refine ⟨_, _, _, rfl, Nat.le_of_ble_eq_true rfl, ?_⟩)
    | exact ⟨_, _, rfl, by simp only [xset, List.length_set, List.length_append, xf3, xf_len.2]; decide, Nat.le_of_ble_eq_true rfl⟩
set_option maxRecDepth 100000 in
set_option maxHeartbeats 4000000 in
theorem p1_m4 {x0 x2 x3 x4 x5 : Int32} : Px none (some [x0, 4, x2, x3, x4, x5]) xlaw 1343 [(4, .int 0), (3, .ref 158), (2, .ref 78), (1, .ref 4), (0, .ref 0)] [] xf3 (xf2k + 1) xfin := by
  refine px_step rfl rfl rfl ?_
  refine px_step rfl rfl rfl ?_
  refine px_step rfl rfl rfl ?_
  refine px_step rfl rfl rfl ?_
  refine px_step rfl rfl rfl ?_
  refine px_step (st' := [.int 4, .ref 4]) rfl rfl rfl ?_
  refine px_step rfl rfl rfl ?_
  refine px_sw rfl rfl rfl (Qx.at (cl_i (F := 3000) (d := 8) (v := 0) (h2 := xf3) (ks2 := xf2k + 1) (by decide +kernel)) ?_)
  dsimp only [xbn]
  refine px_step rfl rfl rfl ?_
  refine px_step rfl rfl rfl ?_
  refine px_step rfl rfl rfl ?_
  refine px_step rfl rfl rfl ?_
  refine px_step rfl rfl rfl ?_
  refine px_step rfl rfl rfl ?_
  refine px_step (st' := [.int 4, .ref 78]) rfl rfl rfl ?_
  refine px_vi rfl rfl rfl rfl rfl (Qx.at (cl_i (F := 3000) (d := 8) (v := 0) (h2 := xf3 ++ [(100, List.replicate 11 (.int 0))]) (ks2 := xf2k + 1 + 11) (by decide +kernel)) ?_)
  dsimp only [xbk]
  repeat' first
    | refine px_step rfl rfl rfl ?_
    | (refine px_ret rfl rfl rfl ?_; try dsimp only [xbk, xbc, xbn])
    | (refine px_thr rfl rfl rfl ?_; try dsimp only [xbk, xbc, xbn])
    | (refine px_if rfl rfl ?_ ?_ <;> intro hb <;> (try simp [xcmp, Int32.lt_iff_toInt_lt, Int32.le_iff_toInt_le] at hb) <;> first | (exfalso; omega) | skip)
    | (refine px_icmp rfl rfl ?_ ?_ <;> intro hb <;> (try simp [xcmp, Int32.lt_iff_toInt_lt, Int32.le_iff_toInt_le] at hb) <;> first | (exfalso; omega) | skip)
    | (refine px_vi rfl rfl rfl rfl rfl ?_; refine Qx.of (Or.inl rfl) (Nat.le_of_ble_eq_true rfl) ?_)
    | (refine px_vc rfl rfl rfl rfl (by decide) ?_; refine Qx.of (Or.inl rfl) (Nat.le_of_ble_eq_true rfl) ?_)
    | (refine px_st rfl rfl rfl rfl rfl ?_; refine Qx.of (Or.inl rfl) (Nat.le_of_ble_eq_true rfl) ?_)
    | (refine px_sw rfl rfl rfl ?_; refine Qx.of (Or.inr rfl) (Nat.le_of_ble_eq_true rfl) ?_)
    | (refine px_sn rfl rfl rfl rfl ?_; refine Qx.of (Or.inl rfl) (Nat.le_of_ble_eq_true rfl) ?_)
    | (refine ⟨_, _, _, rfl, Nat.le_of_ble_eq_true rfl, ?_⟩)
    | exact ⟨_, _, rfl, by simp only [xset, List.length_set, List.length_append, xf3, xf_len.2]; decide, Nat.le_of_ble_eq_true rfl⟩
set_option maxRecDepth 100000 in
set_option maxHeartbeats 4000000 in
theorem p1_m5 {x0 x2 x3 x4 x5 : Int32} : Px none (some [x0, 5, x2, x3, x4, x5]) xlaw 1343 [(4, .int 0), (3, .ref 158), (2, .ref 78), (1, .ref 4), (0, .ref 0)] [] xf3 (xf2k + 1) xfin := by
  refine px_step rfl rfl rfl ?_
  refine px_step rfl rfl rfl ?_
  refine px_step rfl rfl rfl ?_
  refine px_step rfl rfl rfl ?_
  refine px_step rfl rfl rfl ?_
  refine px_step (st' := [.int 5, .ref 4]) rfl rfl rfl ?_
  refine px_step rfl rfl rfl ?_
  refine px_sw rfl rfl rfl (Qx.at (cl_i (F := 3000) (d := 8) (v := 0) (h2 := xf3) (ks2 := xf2k + 1) (by decide +kernel)) ?_)
  dsimp only [xbn]
  refine px_step rfl rfl rfl ?_
  refine px_step rfl rfl rfl ?_
  refine px_step rfl rfl rfl ?_
  refine px_step rfl rfl rfl ?_
  refine px_step rfl rfl rfl ?_
  refine px_step rfl rfl rfl ?_
  refine px_step (st' := [.int 5, .ref 78]) rfl rfl rfl ?_
  refine px_vi rfl rfl rfl rfl rfl (Qx.at (cl_i (F := 3000) (d := 8) (v := 0) (h2 := xf3 ++ [(100, List.replicate 11 (.int 0))]) (ks2 := xf2k + 1 + 11) (by decide +kernel)) ?_)
  dsimp only [xbk]
  repeat' first
    | refine px_step rfl rfl rfl ?_
    | (refine px_ret rfl rfl rfl ?_; try dsimp only [xbk, xbc, xbn])
    | (refine px_thr rfl rfl rfl ?_; try dsimp only [xbk, xbc, xbn])
    | (refine px_if rfl rfl ?_ ?_ <;> intro hb <;> (try simp [xcmp, Int32.lt_iff_toInt_lt, Int32.le_iff_toInt_le] at hb) <;> first | (exfalso; omega) | skip)
    | (refine px_icmp rfl rfl ?_ ?_ <;> intro hb <;> (try simp [xcmp, Int32.lt_iff_toInt_lt, Int32.le_iff_toInt_le] at hb) <;> first | (exfalso; omega) | skip)
    | (refine px_vi rfl rfl rfl rfl rfl ?_; refine Qx.of (Or.inl rfl) (Nat.le_of_ble_eq_true rfl) ?_)
    | (refine px_vc rfl rfl rfl rfl (by decide) ?_; refine Qx.of (Or.inl rfl) (Nat.le_of_ble_eq_true rfl) ?_)
    | (refine px_st rfl rfl rfl rfl rfl ?_; refine Qx.of (Or.inl rfl) (Nat.le_of_ble_eq_true rfl) ?_)
    | (refine px_sw rfl rfl rfl ?_; refine Qx.of (Or.inr rfl) (Nat.le_of_ble_eq_true rfl) ?_)
    | (refine px_sn rfl rfl rfl rfl ?_; refine Qx.of (Or.inl rfl) (Nat.le_of_ble_eq_true rfl) ?_)
    | (refine ⟨_, _, _, rfl, Nat.le_of_ble_eq_true rfl, ?_⟩)
    | exact ⟨_, _, rfl, by simp only [xset, List.length_set, List.length_append, xf3, xf_len.2]; decide, Nat.le_of_ble_eq_true rfl⟩
set_option maxRecDepth 100000 in
set_option maxHeartbeats 4000000 in
theorem p1_m6 {x0 x2 x3 x4 x5 : Int32} : Px none (some [x0, 6, x2, x3, x4, x5]) xlaw 1343 [(4, .int 0), (3, .ref 158), (2, .ref 78), (1, .ref 4), (0, .ref 0)] [] xf3 (xf2k + 1) xfin := by
  refine px_step rfl rfl rfl ?_
  refine px_step rfl rfl rfl ?_
  refine px_step rfl rfl rfl ?_
  refine px_step rfl rfl rfl ?_
  refine px_step rfl rfl rfl ?_
  refine px_step (st' := [.int 6, .ref 4]) rfl rfl rfl ?_
  refine px_step rfl rfl rfl ?_
  refine px_sw rfl rfl rfl (Qx.at (cl_i (F := 3000) (d := 8) (v := 0) (h2 := xf3) (ks2 := xf2k + 1) (by decide +kernel)) ?_)
  dsimp only [xbn]
  refine px_step rfl rfl rfl ?_
  refine px_step rfl rfl rfl ?_
  refine px_step rfl rfl rfl ?_
  refine px_step rfl rfl rfl ?_
  refine px_step rfl rfl rfl ?_
  refine px_step rfl rfl rfl ?_
  refine px_step (st' := [.int 6, .ref 78]) rfl rfl rfl ?_
  refine px_vi rfl rfl rfl rfl rfl (Qx.at (cl_i (F := 3000) (d := 8) (v := 0) (h2 := xf3 ++ [(100, List.replicate 11 (.int 0))]) (ks2 := xf2k + 1 + 11) (by decide +kernel)) ?_)
  dsimp only [xbk]
  repeat' first
    | refine px_step rfl rfl rfl ?_
    | (refine px_ret rfl rfl rfl ?_; try dsimp only [xbk, xbc, xbn])
    | (refine px_thr rfl rfl rfl ?_; try dsimp only [xbk, xbc, xbn])
    | (refine px_if rfl rfl ?_ ?_ <;> intro hb <;> (try simp [xcmp, Int32.lt_iff_toInt_lt, Int32.le_iff_toInt_le] at hb) <;> first | (exfalso; omega) | skip)
    | (refine px_icmp rfl rfl ?_ ?_ <;> intro hb <;> (try simp [xcmp, Int32.lt_iff_toInt_lt, Int32.le_iff_toInt_le] at hb) <;> first | (exfalso; omega) | skip)
    | (refine px_vi rfl rfl rfl rfl rfl ?_; refine Qx.of (Or.inl rfl) (Nat.le_of_ble_eq_true rfl) ?_)
    | (refine px_vc rfl rfl rfl rfl (by decide) ?_; refine Qx.of (Or.inl rfl) (Nat.le_of_ble_eq_true rfl) ?_)
    | (refine px_st rfl rfl rfl rfl rfl ?_; refine Qx.of (Or.inl rfl) (Nat.le_of_ble_eq_true rfl) ?_)
    | (refine px_sw rfl rfl rfl ?_; refine Qx.of (Or.inr rfl) (Nat.le_of_ble_eq_true rfl) ?_)
    | (refine px_sn rfl rfl rfl rfl ?_; refine Qx.of (Or.inl rfl) (Nat.le_of_ble_eq_true rfl) ?_)
    | (refine ⟨_, _, _, rfl, Nat.le_of_ble_eq_true rfl, ?_⟩)
    | exact ⟨_, _, rfl, by simp only [xset, List.length_set, List.length_append, xf3, xf_len.2]; decide, Nat.le_of_ble_eq_true rfl⟩
set_option maxRecDepth 100000 in
set_option maxHeartbeats 4000000 in
theorem p1_m7 {x0 x2 x3 x4 x5 : Int32} : Px none (some [x0, 7, x2, x3, x4, x5]) xlaw 1343 [(4, .int 0), (3, .ref 158), (2, .ref 78), (1, .ref 4), (0, .ref 0)] [] xf3 (xf2k + 1) xfin := by
  refine px_step rfl rfl rfl ?_
  refine px_step rfl rfl rfl ?_
  refine px_step rfl rfl rfl ?_
  refine px_step rfl rfl rfl ?_
  refine px_step rfl rfl rfl ?_
  refine px_step (st' := [.int 7, .ref 4]) rfl rfl rfl ?_
  refine px_step rfl rfl rfl ?_
  refine px_sw rfl rfl rfl (Qx.at (cl_i (F := 3000) (d := 8) (v := 0) (h2 := xf3) (ks2 := xf2k + 1) (by decide +kernel)) ?_)
  dsimp only [xbn]
  refine px_step rfl rfl rfl ?_
  refine px_step rfl rfl rfl ?_
  refine px_step rfl rfl rfl ?_
  refine px_step rfl rfl rfl ?_
  refine px_step rfl rfl rfl ?_
  refine px_step rfl rfl rfl ?_
  refine px_step (st' := [.int 7, .ref 78]) rfl rfl rfl ?_
  refine px_vi rfl rfl rfl rfl rfl (Qx.at (cl_i (F := 3000) (d := 8) (v := 0) (h2 := xf3 ++ [(100, List.replicate 11 (.int 0))]) (ks2 := xf2k + 1 + 11) (by decide +kernel)) ?_)
  dsimp only [xbk]
  repeat' first
    | refine px_step rfl rfl rfl ?_
    | (refine px_ret rfl rfl rfl ?_; try dsimp only [xbk, xbc, xbn])
    | (refine px_thr rfl rfl rfl ?_; try dsimp only [xbk, xbc, xbn])
    | (refine px_if rfl rfl ?_ ?_ <;> intro hb <;> (try simp [xcmp, Int32.lt_iff_toInt_lt, Int32.le_iff_toInt_le] at hb) <;> first | (exfalso; omega) | skip)
    | (refine px_icmp rfl rfl ?_ ?_ <;> intro hb <;> (try simp [xcmp, Int32.lt_iff_toInt_lt, Int32.le_iff_toInt_le] at hb) <;> first | (exfalso; omega) | skip)
    | (refine px_vi rfl rfl rfl rfl rfl ?_; refine Qx.of (Or.inl rfl) (Nat.le_of_ble_eq_true rfl) ?_)
    | (refine px_vc rfl rfl rfl rfl (by decide) ?_; refine Qx.of (Or.inl rfl) (Nat.le_of_ble_eq_true rfl) ?_)
    | (refine px_st rfl rfl rfl rfl rfl ?_; refine Qx.of (Or.inl rfl) (Nat.le_of_ble_eq_true rfl) ?_)
    | (refine px_sw rfl rfl rfl ?_; refine Qx.of (Or.inr rfl) (Nat.le_of_ble_eq_true rfl) ?_)
    | (refine px_sn rfl rfl rfl rfl ?_; refine Qx.of (Or.inl rfl) (Nat.le_of_ble_eq_true rfl) ?_)
    | (refine ⟨_, _, _, rfl, Nat.le_of_ble_eq_true rfl, ?_⟩)
    | exact ⟨_, _, rfl, by simp only [xset, List.length_set, List.length_append, xf3, xf_len.2]; decide, Nat.le_of_ble_eq_true rfl⟩
set_option maxRecDepth 100000 in
set_option maxHeartbeats 4000000 in
theorem p1_m8 {x0 x2 x3 x4 x5 : Int32} : Px none (some [x0, 8, x2, x3, x4, x5]) xlaw 1343 [(4, .int 0), (3, .ref 158), (2, .ref 78), (1, .ref 4), (0, .ref 0)] [] xf3 (xf2k + 1) xfin := by
  refine px_step rfl rfl rfl ?_
  refine px_step rfl rfl rfl ?_
  refine px_step rfl rfl rfl ?_
  refine px_step rfl rfl rfl ?_
  refine px_step rfl rfl rfl ?_
  refine px_step (st' := [.int 8, .ref 4]) rfl rfl rfl ?_
  refine px_step rfl rfl rfl ?_
  refine px_sw rfl rfl rfl (Qx.at (cl_i (F := 3000) (d := 8) (v := 0) (h2 := xf3) (ks2 := xf2k + 1) (by decide +kernel)) ?_)
  dsimp only [xbn]
  refine px_step rfl rfl rfl ?_
  refine px_step rfl rfl rfl ?_
  refine px_step rfl rfl rfl ?_
  refine px_step rfl rfl rfl ?_
  refine px_step rfl rfl rfl ?_
  refine px_step rfl rfl rfl ?_
  refine px_step (st' := [.int 8, .ref 78]) rfl rfl rfl ?_
  refine px_vi rfl rfl rfl rfl rfl (Qx.at (cl_i (F := 3000) (d := 8) (v := 0) (h2 := xf3 ++ [(100, List.replicate 11 (.int 0))]) (ks2 := xf2k + 1 + 11) (by decide +kernel)) ?_)
  dsimp only [xbk]
  repeat' first
    | refine px_step rfl rfl rfl ?_
    | (refine px_ret rfl rfl rfl ?_; try dsimp only [xbk, xbc, xbn])
    | (refine px_thr rfl rfl rfl ?_; try dsimp only [xbk, xbc, xbn])
    | (refine px_if rfl rfl ?_ ?_ <;> intro hb <;> (try simp [xcmp, Int32.lt_iff_toInt_lt, Int32.le_iff_toInt_le] at hb) <;> first | (exfalso; omega) | skip)
    | (refine px_icmp rfl rfl ?_ ?_ <;> intro hb <;> (try simp [xcmp, Int32.lt_iff_toInt_lt, Int32.le_iff_toInt_le] at hb) <;> first | (exfalso; omega) | skip)
    | (refine px_vi rfl rfl rfl rfl rfl ?_; refine Qx.of (Or.inl rfl) (Nat.le_of_ble_eq_true rfl) ?_)
    | (refine px_vc rfl rfl rfl rfl (by decide) ?_; refine Qx.of (Or.inl rfl) (Nat.le_of_ble_eq_true rfl) ?_)
    | (refine px_st rfl rfl rfl rfl rfl ?_; refine Qx.of (Or.inl rfl) (Nat.le_of_ble_eq_true rfl) ?_)
    | (refine px_sw rfl rfl rfl ?_; refine Qx.of (Or.inr rfl) (Nat.le_of_ble_eq_true rfl) ?_)
    | (refine px_sn rfl rfl rfl rfl ?_; refine Qx.of (Or.inl rfl) (Nat.le_of_ble_eq_true rfl) ?_)
    | (refine ⟨_, _, _, rfl, Nat.le_of_ble_eq_true rfl, ?_⟩)
    | exact ⟨_, _, rfl, by simp only [xset, List.length_set, List.length_append, xf3, xf_len.2]; decide, Nat.le_of_ble_eq_true rfl⟩
set_option maxRecDepth 100000 in
set_option maxHeartbeats 4000000 in
theorem p1_m9 {x0 x2 x3 x4 x5 : Int32} : Px none (some [x0, 9, x2, x3, x4, x5]) xlaw 1343 [(4, .int 0), (3, .ref 158), (2, .ref 78), (1, .ref 4), (0, .ref 0)] [] xf3 (xf2k + 1) xfin := by
  refine px_step rfl rfl rfl ?_
  refine px_step rfl rfl rfl ?_
  refine px_step rfl rfl rfl ?_
  refine px_step rfl rfl rfl ?_
  refine px_step rfl rfl rfl ?_
  refine px_step (st' := [.int 9, .ref 4]) rfl rfl rfl ?_
  refine px_step rfl rfl rfl ?_
  refine px_sw rfl rfl rfl (Qx.at (cl_i (F := 3000) (d := 8) (v := 0) (h2 := xf3) (ks2 := xf2k + 1) (by decide +kernel)) ?_)
  dsimp only [xbn]
  refine px_step rfl rfl rfl ?_
  refine px_step rfl rfl rfl ?_
  refine px_step rfl rfl rfl ?_
  refine px_step rfl rfl rfl ?_
  refine px_step rfl rfl rfl ?_
  refine px_step rfl rfl rfl ?_
  refine px_step (st' := [.int 9, .ref 78]) rfl rfl rfl ?_
  refine px_vi rfl rfl rfl rfl rfl (Qx.at (cl_i (F := 3000) (d := 8) (v := 0) (h2 := xf3 ++ [(100, List.replicate 11 (.int 0))]) (ks2 := xf2k + 1 + 11) (by decide +kernel)) ?_)
  dsimp only [xbk]
  repeat' first
    | refine px_step rfl rfl rfl ?_
    | (refine px_ret rfl rfl rfl ?_; try dsimp only [xbk, xbc, xbn])
    | (refine px_thr rfl rfl rfl ?_; try dsimp only [xbk, xbc, xbn])
    | (refine px_if rfl rfl ?_ ?_ <;> intro hb <;> (try simp [xcmp, Int32.lt_iff_toInt_lt, Int32.le_iff_toInt_le] at hb) <;> first | (exfalso; omega) | skip)
    | (refine px_icmp rfl rfl ?_ ?_ <;> intro hb <;> (try simp [xcmp, Int32.lt_iff_toInt_lt, Int32.le_iff_toInt_le] at hb) <;> first | (exfalso; omega) | skip)
    | (refine px_vi rfl rfl rfl rfl rfl ?_; refine Qx.of (Or.inl rfl) (Nat.le_of_ble_eq_true rfl) ?_)
    | (refine px_vc rfl rfl rfl rfl (by decide) ?_; refine Qx.of (Or.inl rfl) (Nat.le_of_ble_eq_true rfl) ?_)
    | (refine px_st rfl rfl rfl rfl rfl ?_; refine Qx.of (Or.inl rfl) (Nat.le_of_ble_eq_true rfl) ?_)
    | (refine px_sw rfl rfl rfl ?_; refine Qx.of (Or.inr rfl) (Nat.le_of_ble_eq_true rfl) ?_)
    | (refine px_sn rfl rfl rfl rfl ?_; refine Qx.of (Or.inl rfl) (Nat.le_of_ble_eq_true rfl) ?_)
    | (refine ⟨_, _, _, rfl, Nat.le_of_ble_eq_true rfl, ?_⟩)
    | exact ⟨_, _, rfl, by simp only [xset, List.length_set, List.length_append, xf3, xf_len.2]; decide, Nat.le_of_ble_eq_true rfl⟩
set_option maxRecDepth 100000 in
set_option maxHeartbeats 4000000 in
theorem p1_m10 {x0 x2 x3 x4 x5 : Int32} : Px none (some [x0, 10, x2, x3, x4, x5]) xlaw 1343 [(4, .int 0), (3, .ref 158), (2, .ref 78), (1, .ref 4), (0, .ref 0)] [] xf3 (xf2k + 1) xfin := by
  refine px_step rfl rfl rfl ?_
  refine px_step rfl rfl rfl ?_
  refine px_step rfl rfl rfl ?_
  refine px_step rfl rfl rfl ?_
  refine px_step rfl rfl rfl ?_
  refine px_step (st' := [.int 10, .ref 4]) rfl rfl rfl ?_
  refine px_step rfl rfl rfl ?_
  refine px_sw rfl rfl rfl (Qx.at (cl_i (F := 3000) (d := 8) (v := 0) (h2 := xf3) (ks2 := xf2k + 1) (by decide +kernel)) ?_)
  dsimp only [xbn]
  refine px_step rfl rfl rfl ?_
  refine px_step rfl rfl rfl ?_
  refine px_step rfl rfl rfl ?_
  refine px_step rfl rfl rfl ?_
  refine px_step rfl rfl rfl ?_
  refine px_step rfl rfl rfl ?_
  refine px_step (st' := [.int 10, .ref 78]) rfl rfl rfl ?_
  refine px_vi rfl rfl rfl rfl rfl (Qx.at (cl_i (F := 3000) (d := 8) (v := 0) (h2 := xf3 ++ [(100, List.replicate 11 (.int 0))]) (ks2 := xf2k + 1 + 11) (by decide +kernel)) ?_)
  dsimp only [xbk]
  repeat' first
    | refine px_step rfl rfl rfl ?_
    | (refine px_ret rfl rfl rfl ?_; try dsimp only [xbk, xbc, xbn])
    | (refine px_thr rfl rfl rfl ?_; try dsimp only [xbk, xbc, xbn])
    | (refine px_if rfl rfl ?_ ?_ <;> intro hb <;> (try simp [xcmp, Int32.lt_iff_toInt_lt, Int32.le_iff_toInt_le] at hb) <;> first | (exfalso; omega) | skip)
    | (refine px_icmp rfl rfl ?_ ?_ <;> intro hb <;> (try simp [xcmp, Int32.lt_iff_toInt_lt, Int32.le_iff_toInt_le] at hb) <;> first | (exfalso; omega) | skip)
    | (refine px_vi rfl rfl rfl rfl rfl ?_; refine Qx.of (Or.inl rfl) (Nat.le_of_ble_eq_true rfl) ?_)
    | (refine px_vc rfl rfl rfl rfl (by decide) ?_; refine Qx.of (Or.inl rfl) (Nat.le_of_ble_eq_true rfl) ?_)
    | (refine px_st rfl rfl rfl rfl rfl ?_; refine Qx.of (Or.inl rfl) (Nat.le_of_ble_eq_true rfl) ?_)
    | (refine px_sw rfl rfl rfl ?_; refine Qx.of (Or.inr rfl) (Nat.le_of_ble_eq_true rfl) ?_)
    | (refine px_sn rfl rfl rfl rfl ?_; refine Qx.of (Or.inl rfl) (Nat.le_of_ble_eq_true rfl) ?_)
    | (refine ⟨_, _, _, rfl, Nat.le_of_ble_eq_true rfl, ?_⟩)
    | exact ⟨_, _, rfl, by simp only [xset, List.length_set, List.length_append, xf3, xf_len.2]; decide, Nat.le_of_ble_eq_true rfl⟩
set_option maxRecDepth 100000 in
set_option maxHeartbeats 4000000 in
theorem p1_c18 {x0 x1 x2 x3 x4 x5 : Int32} (hx : x0 &&& 31 = 18) : Px none (some [x0, x1, x2, x3, x4, x5]) xlaw 23 [(4, .int 0), (3, .ref 158), (2, .ref 78), (1, .ref 4), (0, .ref 0)] [] xf3 (xf2k + 1) xfin := by
  refine p1_head (pc := 1343) hx rfl ?_
  by_cases hr : x1.toInt < 0 ∨ 10 < x1.toInt
  ·
    repeat' first
      | refine px_step rfl rfl rfl ?_
      | (refine px_ret rfl rfl rfl ?_; try dsimp only [xbk, xbc, xbn])
      | (refine px_thr rfl rfl rfl ?_; try dsimp only [xbk, xbc, xbn])
      | (refine px_if rfl rfl ?_ ?_ <;> intro hb <;> (try simp [xcmp, Int32.lt_iff_toInt_lt, Int32.le_iff_toInt_le] at hb) <;> first | (exfalso; omega) | skip)
      | (refine px_icmp rfl rfl ?_ ?_ <;> intro hb <;> (try simp [xcmp, Int32.lt_iff_toInt_lt, Int32.le_iff_toInt_le] at hb) <;> first | (exfalso; omega) | skip)
      | (refine px_tsd rfl rfl hr ?_)
      | (refine px_vi rfl rfl rfl rfl rfl ?_; refine Qx.of (Or.inl rfl) (Nat.le_of_ble_eq_true rfl) ?_)
      | (refine px_vc rfl rfl rfl rfl (by decide) ?_; refine Qx.of (Or.inl rfl) (Nat.le_of_ble_eq_true rfl) ?_)
      | (refine px_st rfl rfl rfl rfl rfl ?_; refine Qx.of (Or.inl rfl) (Nat.le_of_ble_eq_true rfl) ?_)
      | (refine px_sw rfl rfl rfl ?_; refine Qx.of (Or.inr rfl) (Nat.le_of_ble_eq_true rfl) ?_)
      | (refine px_sn rfl rfl rfl rfl ?_; refine Qx.of (Or.inl rfl) (Nat.le_of_ble_eq_true rfl) ?_)
      | (refine ⟨_, _, _, rfl, Nat.le_of_ble_eq_true rfl, ?_⟩)
      | exact ⟨_, _, rfl, by simp only [xset, List.length_set, List.length_append, xf3, xf_len.2]; decide, Nat.le_of_ble_eq_true rfl⟩
  · rcases (show x1.toInt = 0 ∨ x1.toInt = 1 ∨ x1.toInt = 2 ∨ x1.toInt = 3 ∨ x1.toInt = 4 ∨ x1.toInt = 5 ∨ x1.toInt = 6 ∨ x1.toInt = 7 ∨ x1.toInt = 8 ∨ x1.toInt = 9 ∨ x1.toInt = 10 by omega) with h | h | h | h | h | h | h | h | h | h | h
    · have h9 : x1 = 0 := Int32.toInt_inj.mp (by rw [h]; rfl)
      subst h9
      exact p1_m0
    · have h9 : x1 = 1 := Int32.toInt_inj.mp (by rw [h]; rfl)
      subst h9
      exact p1_m1
    · have h9 : x1 = 2 := Int32.toInt_inj.mp (by rw [h]; rfl)
      subst h9
      exact p1_m2
    · have h9 : x1 = 3 := Int32.toInt_inj.mp (by rw [h]; rfl)
      subst h9
      exact p1_m3
    · have h9 : x1 = 4 := Int32.toInt_inj.mp (by rw [h]; rfl)
      subst h9
      exact p1_m4
    · have h9 : x1 = 5 := Int32.toInt_inj.mp (by rw [h]; rfl)
      subst h9
      exact p1_m5
    · have h9 : x1 = 6 := Int32.toInt_inj.mp (by rw [h]; rfl)
      subst h9
      exact p1_m6
    · have h9 : x1 = 7 := Int32.toInt_inj.mp (by rw [h]; rfl)
      subst h9
      exact p1_m7
    · have h9 : x1 = 8 := Int32.toInt_inj.mp (by rw [h]; rfl)
      subst h9
      exact p1_m8
    · have h9 : x1 = 9 := Int32.toInt_inj.mp (by rw [h]; rfl)
      subst h9
      exact p1_m9
    · have h9 : x1 = 10 := Int32.toInt_inj.mp (by rw [h]; rfl)
      subst h9
      exact p1_m10
end XP3
end
section
/-! p1: the claim -/
section XP4
theorem and31 (x : Int32) : ∃ k : Nat, k < 32 ∧ x &&& 31 = Int32.ofNat k := by
  refine ⟨(x &&& 31).toBitVec.toNat, ?_, ?_⟩
  · have h1 : (x &&& 31).toBitVec.toNat = x.toBitVec.toNat &&& 31 := by
      rw [Int32.toBitVec_and, BitVec.toNat_and]
      rfl
    have h2 : x.toBitVec.toNat &&& 31 ≤ 31 := Nat.and_le_right
    omega
  · apply Int32.toBitVec_inj.mp
    rw [Int32.toBitVec_ofNat', BitVec.ofNat_toNat, BitVec.setWidth_eq]
theorem p1_six {x0 x1 x2 x3 x4 x5 : Int32} : Px none (some [x0, x1, x2, x3, x4, x5]) xlaw 23 [(4, .int 0), (3, .ref 158), (2, .ref 78), (1, .ref 4), (0, .ref 0)] [] xf3 (xf2k + 1) xfin := by
  obtain ⟨k, hk, hx⟩ := and31 x0
  rcases (show k = 0 ∨ k = 1 ∨ k = 2 ∨ k = 3 ∨ k = 4 ∨ k = 5 ∨ k = 6 ∨ k = 7 ∨ k = 8 ∨ k = 9 ∨ k = 10 ∨ k = 11 ∨ k = 12 ∨ k = 13 ∨ k = 14 ∨ k = 15 ∨ k = 16 ∨ k = 17 ∨ k = 18 ∨ k = 19 ∨ k = 20 ∨ k = 21 ∨ k = 22 ∨ k = 23 ∨ k = 24 ∨ k = 25 ∨ k = 26 ∨ k = 27 ∨ k = 28 ∨ k = 29 ∨ k = 30 ∨ k = 31 by omega) with rfl | rfl | rfl | rfl | rfl | rfl | rfl | rfl | rfl | rfl | rfl | rfl | rfl | rfl | rfl | rfl | rfl | rfl | rfl | rfl | rfl | rfl | rfl | rfl | rfl | rfl | rfl | rfl | rfl | rfl | rfl | rfl
  · exact p1_c0 hx
  · exact p1_c1 hx
  · exact p1_c2 hx
  · exact p1_c3 hx
  · exact p1_c4 hx
  · exact p1_c5 hx
  · exact p1_c6 hx
  · exact p1_c7 hx
  · exact p1_c8 hx
  · exact p1_c9 hx
  · exact p1_c10 hx
  · exact p1_c11 hx
  · exact p1_c12 hx
  · exact p1_c13 hx
  · exact p1_c14 hx
  · exact p1_c15 hx
  · exact p1_c16 hx
  · exact p1_c17 hx
  · exact p1_c18 hx
  · exact p1_c19 hx
  · exact p1_c20 hx
  · exact p1_c21 hx
  · exact p1_c22 hx
  · exact p1_c23 hx
  · exact p1_c24 hx
  · exact p1_c25 hx
  · exact p1_c26 hx
  · exact p1_c27 hx
  · exact p1_c28 hx
  · exact p1_c29 hx
  · exact p1_c30 hx
  · exact p1_c31 hx
set_option maxRecDepth 100000 in
theorem p1_f0 : Px none (some []) xlaw 23 [(4, .int 0), (3, .ref 158), (2, .ref 78), (1, .ref 4), (0, .ref 0)] [] xf3 (xf2k + 1) xfin := by
  refine px_step (pc' := 25) (st' := [.int 0]) rfl rfl rfl ?_
  refine px_step (pc' := 26) (st' := [.ref 0, .int 0]) rfl rfl rfl ?_
  refine px_step (pc' := 27) (st' := [.int 0, .int 0]) rfl rfl rfl ?_
  refine px_step (pc' := 29) (st' := [.int 6, .int 0, .int 0]) rfl rfl rfl ?_
  refine px_step (pc' := 30) (st' := [.int (-6), .int 0]) rfl rfl rfl ?_
  refine px_step (pc' := 1725) (st' := []) rfl rfl rfl ?_
  refine px_step (pc' := 1726) (st' := [.int 1]) rfl rfl rfl ?_
  refine px_ret (r := some (.int 1)) rfl rfl rfl ?_
  exact ⟨_, _, rfl, by simp only [xset, List.length_set, List.length_append, xf3, xf_len.2]; decide, Nat.le_of_ble_eq_true rfl⟩
set_option maxRecDepth 100000 in
theorem p1_f1 {x0 : Int32} : Px none (some [x0]) xlaw 23 [(4, .int 0), (3, .ref 158), (2, .ref 78), (1, .ref 4), (0, .ref 0)] [] xf3 (xf2k + 1) xfin := by
  refine px_step (pc' := 25) (st' := [.int 0]) rfl rfl rfl ?_
  refine px_step (pc' := 26) (st' := [.ref 0, .int 0]) rfl rfl rfl ?_
  refine px_step (pc' := 27) (st' := [.int 1, .int 0]) rfl rfl rfl ?_
  refine px_step (pc' := 29) (st' := [.int 6, .int 1, .int 0]) rfl rfl rfl ?_
  refine px_step (pc' := 30) (st' := [.int (-5), .int 0]) rfl rfl rfl ?_
  refine px_step (pc' := 1725) (st' := []) rfl rfl rfl ?_
  refine px_step (pc' := 1726) (st' := [.int 1]) rfl rfl rfl ?_
  refine px_ret (r := some (.int 1)) rfl rfl rfl ?_
  exact ⟨_, _, rfl, by simp only [xset, List.length_set, List.length_append, xf3, xf_len.2]; decide, Nat.le_of_ble_eq_true rfl⟩
set_option maxRecDepth 100000 in
theorem p1_f2 {x0 x1 : Int32} : Px none (some [x0, x1]) xlaw 23 [(4, .int 0), (3, .ref 158), (2, .ref 78), (1, .ref 4), (0, .ref 0)] [] xf3 (xf2k + 1) xfin := by
  refine px_step (pc' := 25) (st' := [.int 0]) rfl rfl rfl ?_
  refine px_step (pc' := 26) (st' := [.ref 0, .int 0]) rfl rfl rfl ?_
  refine px_step (pc' := 27) (st' := [.int 2, .int 0]) rfl rfl rfl ?_
  refine px_step (pc' := 29) (st' := [.int 6, .int 2, .int 0]) rfl rfl rfl ?_
  refine px_step (pc' := 30) (st' := [.int (-4), .int 0]) rfl rfl rfl ?_
  refine px_step (pc' := 1725) (st' := []) rfl rfl rfl ?_
  refine px_step (pc' := 1726) (st' := [.int 1]) rfl rfl rfl ?_
  refine px_ret (r := some (.int 1)) rfl rfl rfl ?_
  exact ⟨_, _, rfl, by simp only [xset, List.length_set, List.length_append, xf3, xf_len.2]; decide, Nat.le_of_ble_eq_true rfl⟩
set_option maxRecDepth 100000 in
theorem p1_f3 {x0 x1 x2 : Int32} : Px none (some [x0, x1, x2]) xlaw 23 [(4, .int 0), (3, .ref 158), (2, .ref 78), (1, .ref 4), (0, .ref 0)] [] xf3 (xf2k + 1) xfin := by
  refine px_step (pc' := 25) (st' := [.int 0]) rfl rfl rfl ?_
  refine px_step (pc' := 26) (st' := [.ref 0, .int 0]) rfl rfl rfl ?_
  refine px_step (pc' := 27) (st' := [.int 3, .int 0]) rfl rfl rfl ?_
  refine px_step (pc' := 29) (st' := [.int 6, .int 3, .int 0]) rfl rfl rfl ?_
  refine px_step (pc' := 30) (st' := [.int (-3), .int 0]) rfl rfl rfl ?_
  refine px_step (pc' := 1725) (st' := []) rfl rfl rfl ?_
  refine px_step (pc' := 1726) (st' := [.int 1]) rfl rfl rfl ?_
  refine px_ret (r := some (.int 1)) rfl rfl rfl ?_
  exact ⟨_, _, rfl, by simp only [xset, List.length_set, List.length_append, xf3, xf_len.2]; decide, Nat.le_of_ble_eq_true rfl⟩
set_option maxRecDepth 100000 in
theorem p1_f4 {x0 x1 x2 x3 : Int32} : Px none (some [x0, x1, x2, x3]) xlaw 23 [(4, .int 0), (3, .ref 158), (2, .ref 78), (1, .ref 4), (0, .ref 0)] [] xf3 (xf2k + 1) xfin := by
  refine px_step (pc' := 25) (st' := [.int 0]) rfl rfl rfl ?_
  refine px_step (pc' := 26) (st' := [.ref 0, .int 0]) rfl rfl rfl ?_
  refine px_step (pc' := 27) (st' := [.int 4, .int 0]) rfl rfl rfl ?_
  refine px_step (pc' := 29) (st' := [.int 6, .int 4, .int 0]) rfl rfl rfl ?_
  refine px_step (pc' := 30) (st' := [.int (-2), .int 0]) rfl rfl rfl ?_
  refine px_step (pc' := 1725) (st' := []) rfl rfl rfl ?_
  refine px_step (pc' := 1726) (st' := [.int 1]) rfl rfl rfl ?_
  refine px_ret (r := some (.int 1)) rfl rfl rfl ?_
  exact ⟨_, _, rfl, by simp only [xset, List.length_set, List.length_append, xf3, xf_len.2]; decide, Nat.le_of_ble_eq_true rfl⟩
set_option maxRecDepth 100000 in
theorem p1_f5 {x0 x1 x2 x3 x4 : Int32} : Px none (some [x0, x1, x2, x3, x4]) xlaw 23 [(4, .int 0), (3, .ref 158), (2, .ref 78), (1, .ref 4), (0, .ref 0)] [] xf3 (xf2k + 1) xfin := by
  refine px_step (pc' := 25) (st' := [.int 0]) rfl rfl rfl ?_
  refine px_step (pc' := 26) (st' := [.ref 0, .int 0]) rfl rfl rfl ?_
  refine px_step (pc' := 27) (st' := [.int 5, .int 0]) rfl rfl rfl ?_
  refine px_step (pc' := 29) (st' := [.int 6, .int 5, .int 0]) rfl rfl rfl ?_
  refine px_step (pc' := 30) (st' := [.int (-1), .int 0]) rfl rfl rfl ?_
  refine px_step (pc' := 1725) (st' := []) rfl rfl rfl ?_
  refine px_step (pc' := 1726) (st' := [.int 1]) rfl rfl rfl ?_
  refine px_ret (r := some (.int 1)) rfl rfl rfl ?_
  exact ⟨_, _, rfl, by simp only [xset, List.length_set, List.length_append, xf3, xf_len.2]; decide, Nat.le_of_ble_eq_true rfl⟩
theorem p1_all : ∀ {scl : List Int32}, scl.length ≤ 6 → Px none (some scl) xlaw 23 [(4, .int 0), (3, .ref 158), (2, .ref 78), (1, .ref 4), (0, .ref 0)] [] xf3 (xf2k + 1) xfin
  | [], _ => p1_f0
  | [_], _ => p1_f1
  | [_, _], _ => p1_f2
  | [_, _, _], _ => p1_f3
  | [_, _, _, _], _ => p1_f4
  | [_, _, _, _, _], _ => p1_f5
  | [_, _, _, _, _, _], _ => p1_six
  | _ :: _ :: _ :: _ :: _ :: _ :: _ :: _, h => by simp at h
theorem whole_start {p : Program} {e : Env} {s : State} {m : MethodId} {below : List Frame} {meth : Method} {c : Code} (l : Launch) (hflags : l.flags = flags0) {b L : Nat} {xs : Nat → Int32} (hL : L ≤ 6) (C0 : lw_At p s m meth c b L xs) : W p l e room_1 s m #[Value.ref b] below meth c s.heap [] 0 0 (lw_Z below #[Value.ref b] s) (entryFrame m ([Value.ref b] : List Value).toArray 9) := by
  have hlen : ((List.range L).map xs).length = L := by simp
  obtain ⟨out, ⟨F, d, n, he⟩, h', ks', rfl, hc, hs⟩ := p1_pre (p1_all (scl := (List.range L).map xs) (by rw [hlen]; exact hL))
  refine x_law l hflags C0 hlen (fun j hj => ?_) he (Nat.le_trans hc (Nat.le_of_ble_eq_true rfl)) (Nat.le_trans hs (Nat.le_of_ble_eq_true rfl))
  simp [List.getD, List.getElem?_map, List.getElem?_range hj]
end XP4
end
section
set_option maxHeartbeats 4000000 in
theorem lw_walk (l : Launch) (hflags : l.flags = flags0) (b : Addr) (xs : List Int32) : MetFree l x (headSpec (Jvm.Cond.code x code maxLocals ret :: tables_1) room_1) (lw_P b xs) (fun _ _ _ _ _ => True) lw_Q := by
  refine MetFree.of_bodyS (code := code) (maxLocals := maxLocals) (ret := ret) (by decide) ?_ ?_
  · intro args s m h hn
    obtain ⟨meth, c, h1, h2, h3, h4, h5, h6, -, -⟩ := Cond.code_spec hn (atoms_spec (ws := Jvm.Cond.code x code maxLocals ret :: tables_1) h _ List.mem_cons_self)
    exact ⟨meth, c, h1, h2, h3, h4, h5, h6⟩
  · intro p e s m args below meth c s₁ B hml0 hP _
    obtain ⟨rfl, hx, hbd, hgv⟩ := hP
    obtain ⟨scr, harrAt, hlist, hof, hsmall⟩ := hx
    obtain ⟨hcb, hkn, -, -⟩ := State.arrayAt?_spec harrAt
    have hown : s.vm.findClass R_law = some m.cls := findClass_of_methodNamed B.named
    have hts0 : ∀ c ∈ (Jvm.Cond.code x code maxLocals ret :: tables_1), c.before #[Value.ref b] s = true := atoms_spec (ws := Jvm.Cond.code x code maxLocals ret :: tables_1) B.pre
    have hts : ∀ w ∈ lw_tbl, w.before #[Value.ref b] s = true := k2_hts_sels lw_privs (fun w hw => hts0 w (List.mem_cons_of_mem _ hw)) lw_privs_ok
    have hml : c.maxLocals = 9 := B.maxLocals_eq (hts0 _ List.mem_cons_self)
    have X₀ : Stand p l e room_1 s m #[Value.ref b] below meth c s₁ [] 0 0 := Stand.of_body B
    have hh0 : s₁.heap = s.heap := by rw [B.state]; rfl
    have hsz : scr.slots.size = xs.length := by rw [← Array.length_toList, hlist, List.length_map]
    have hval : ∀ j : Nat, j < xs.length → scr.slots[j]? = some (.int (xs.getD j 0)) := fun j hj => by
      rw [← Array.getElem?_toList, hlist]
      simp [hj]
    have hbl : b < s.heap.size := (Array.getElem?_eq_some_iff.mp hcb).1
    have hX : va_X b xs.length (fun j => xs.getD j 0) s s.heap := ⟨scr, hcb, hof, hkn, hsz, hval⟩
    have K : W p l e room_1 s m #[Value.ref b] below meth c s₁.heap [] 0 0 (lw_Z below #[Value.ref b] s) (entryFrame m ([Value.ref b] : List Value).toArray 9) := by
      rw [hh0]
      exact whole_start l hflags hbd ⟨B.exec, B.bytes, B.returns, hml, hown, hts, hX, hbl, B.notSynchronized, hgv⟩
    obtain ⟨t, a1, o, b1, b2, b3⟩ := K s₁ rfl X₀
    exact ⟨t, o, a1, b1, b2, b3⟩
theorem lw_pre_spec {args : Array Value} {s : State} (h : (Jvm.Cond.and given_1 narrow_1).before args s = true) (hr : rest_1_c.before args s = true) : ∃ (b : Addr) (xs : List Int32), lw_P b xs args s := by
  have hs := flat_of_before _ h
  have hq := flat_of_before _ hr
  have hc : (Cond.count 1).before args s = true := hs _ (by decide +kernel)
  have harr : (Cond.arrayOf (.arg 0) .int).before args s = true := hs _ (by decide +kernel)
  have hle : (Cond.le (.length (.arg 0)) (.int 6)).before args s = true := hs _ (by decide +kernel)
  have hlen : (Cond.isInt (.length (.arg 0))).before args s = true := hq _ (by decide +kernel)
  have hall : (Cond.all (.arg 0) (.isInt (.elem (.arg 0) (.index 0)))).before args s = true := hq _ (by decide +kernel)
  obtain ⟨b, xs, hb, hx⟩ := State.ints_of_pre rfl harr hlen hall
  have hsm : xs.length < 2 ^ 31 := hx.choose_spec.2.2.2
  have hev : (Term.length (.arg 0)).eval args s none [] s = some (.int xs.length.toInt32) := hx.length_eval hb
  have hv := Cond.le_ints hev (show (Term.int 6).eval args s none [] s = some (.int 6) from rfl)
  have hd : xs.length.toInt32 ≤ 6 := by
    simpa [Cond.before, Cond.holds, hv] using hle
  have hN : xs.length ≤ 6 := (Int32.ofNat_le_ofNat hsm (by decide)).mp (show Int32.ofNat xs.length ≤ Int32.ofNat 6 from hd)
  exact ⟨b, xs, Cond.one_arg hc (show args[0]? = some (.ref b) from hb), hx, hN, h⟩
theorem lw_comes (l : Launch) (hflags : l.flags = flags0) : Comes l x (Jvm.Cond.code x code maxLocals ret :: tables_1) room_1 (fun tb e args s => Calls_1 tb e args s ∧ rest_1 tb e args s ∧ Pre_1 tb e args s)
    (fun _ _ args s o t => lw_Q args s o t) := by
  intro p e ha hc hk s m args below hf hfit hheap happ hpre
  obtain ⟨b, xs, hP⟩ := lw_pre_spec hpre.2.2 hpre.2.1
  obtain ⟨k, o, h1, h2, h3, hQ⟩ := lw_walk l hflags b xs p e ha hc hk s m args below hf ((Spec.applies_iff_loose hf).mp happ).1 hP trivial
  exact ⟨k, o, h1, h2, h3, hQ⟩
theorem lw_frame {s t : State} {o : Outcome} {args : Array Value} (h : State.butDraws s t lw_cs (fun t1 => Framed s o t1 [] 600002 7302232)) :
    State.butDraws s t [Jvm.Choice.named "NaN.bits"] (fun t1 => Framed s o t1 (fieldLocs frame_1_writes args s ++ arrayLocs frame_1_arrays args s ++ staticLocs frame_1_statics s) 600002 7302232) := h
theorem lw_limb (L : Cond) (hL : ∀ (args : Array Value) (s t : State), L.after args s (.returned (some (.int 1))) t = true) :
    ArmFor flags0 classFile x code maxLocals ret World_1 tables_1 room_1 Calls_1 rest_1 Pre_1
      (fun tb e a s o t => postC L tb e a s o t ∧ State.butDraws s t [Jvm.Choice.named "NaN.bits"] (fun t1 => Framed s o t1 (fieldLocs frame_1_writes a s ++ arrayLocs frame_1_arrays a s ++ staticLocs frame_1_statics s) 600002 7302232)) := by
  intro l hflags _ _ p e ha hc hk s m args below hf hfit hheap happ hpre
  obtain ⟨k, o, h1, h2, h3, rfl, hF⟩ := lw_comes l hflags p e ha hc hk s m args below hf hfit hheap happ hpre
  exact ⟨k, _, h1, h2, h3, hL args s _, lw_frame hF⟩
theorem i_vc : Claimed_1_1 ∧ Claimed_1_2 := ⟨lw_limb limb_1_1 (fun args s t => by simp [limb_1_1, Cond.after, Cond.holds, Cond.value]), lw_limb limb_1_2 (fun args s t => Cond.after_iff.mpr (by
  first | (rw [show limb_1_2 = Cond.eq .result (.int 1) from rfl, Cond.eq_ints (x := 1) (y := 1) rfl rfl]; simp; done) | (simp [limb_1_2, Cond.value, Term.eval]; done)))⟩
end
