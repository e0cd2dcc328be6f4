section
-- ===== PART A: goes FIRST, ahead of the names: the tables' words, and 'selects' of the private methods out of them =====
/-- a private method of a class that the tables say can be made, by its rows of tables_1 -/
def lw_okq (q : MethodName × Nat) : Prop := (q.1.cls ≠ "java/lang/invoke/MethodHandle" ∧ q.1.cls ≠ "java/lang/invoke/VarHandle") ∧ Cond.instantiable q.1.cls q.2 ∈ tables_1 ∧ Cond.privateMethod q.1 ∈ tables_1 ∧ Cond.instanceMethod q.1 ∈ tables_1
theorem lw_p0 : lw_okq (⟨"SkateSheet$Score", "countMarksOf", "(ILSkateSheet$Sheets;)V"⟩, 11) := ⟨⟨by decide +kernel, by decide +kernel⟩, List.mem_of_getElem? (i := 214) (by decide +kernel), List.mem_of_getElem? (i := 358) (by decide +kernel), List.mem_of_getElem? (i := 359) (by decide +kernel)⟩
theorem lw_p1 : lw_okq (⟨"SkateSheet$Score", "placeInDance", "(ILSkateSheet$Sheets;)V"⟩, 11) := ⟨⟨by decide +kernel, by decide +kernel⟩, List.mem_of_getElem? (i := 214) (by decide +kernel), List.mem_of_getElem? (i := 387) (by decide +kernel), List.mem_of_getElem? (i := 388) (by decide +kernel)⟩
theorem lw_p2 : lw_okq (⟨"SkateSheet$Score", "turnOf", "(IIZ)I"⟩, 11) := ⟨⟨by decide +kernel, by decide +kernel⟩, List.mem_of_getElem? (i := 214) (by decide +kernel), List.mem_of_getElem? (i := 406) (by decide +kernel), List.mem_of_getElem? (i := 407) (by decide +kernel)⟩
theorem lw_p3 : lw_okq (⟨"SkateSheet$Score", "compareInDance", "(III)I"⟩, 11) := ⟨⟨by decide +kernel, by decide +kernel⟩, List.mem_of_getElem? (i := 214) (by decide +kernel), List.mem_of_getElem? (i := 418) (by decide +kernel), List.mem_of_getElem? (i := 419) (by decide +kernel)⟩
theorem lw_p4 : lw_okq (⟨"SkateSheet$Score", "reasonAmongCandidates", "(II)I"⟩, 11) := ⟨⟨by decide +kernel, by decide +kernel⟩, List.mem_of_getElem? (i := 214) (by decide +kernel), List.mem_of_getElem? (i := 430) (by decide +kernel), List.mem_of_getElem? (i := 431) (by decide +kernel)⟩
theorem lw_p5 : lw_okq (⟨"SkateSheet$Score", "addPlaces", "()V"⟩, 11) := ⟨⟨by decide +kernel, by decide +kernel⟩, List.mem_of_getElem? (i := 214) (by decide +kernel), List.mem_of_getElem? (i := 441) (by decide +kernel), List.mem_of_getElem? (i := 442) (by decide +kernel)⟩
theorem lw_p6 : lw_okq (⟨"SkateSheet$Score", "placeOverAll", "()V"⟩, 11) := ⟨⟨by decide +kernel, by decide +kernel⟩, List.mem_of_getElem? (i := 214) (by decide +kernel), List.mem_of_getElem? (i := 446) (by decide +kernel), List.mem_of_getElem? (i := 447) (by decide +kernel)⟩
theorem lw_p7 : lw_okq (⟨"SkateSheet$Score", "bestByTotal", "(I)I"⟩, 11) := ⟨⟨by decide +kernel, by decide +kernel⟩, List.mem_of_getElem? (i := 214) (by decide +kernel), List.mem_of_getElem? (i := 450) (by decide +kernel), List.mem_of_getElem? (i := 451) (by decide +kernel)⟩
theorem lw_p8 : lw_okq (⟨"SkateSheet$Score", "heaviest", "(I)I"⟩, 11) := ⟨⟨by decide +kernel, by decide +kernel⟩, List.mem_of_getElem? (i := 214) (by decide +kernel), List.mem_of_getElem? (i := 454) (by decide +kernel), List.mem_of_getElem? (i := 455) (by decide +kernel)⟩
theorem lw_p9 : lw_okq (⟨"SkateSheet$Score", "bestByPlaces", "(II)I"⟩, 11) := ⟨⟨by decide +kernel, by decide +kernel⟩, List.mem_of_getElem? (i := 214) (by decide +kernel), List.mem_of_getElem? (i := 459) (by decide +kernel), List.mem_of_getElem? (i := 460) (by decide +kernel)⟩
theorem lw_p10 : lw_okq (⟨"SkateSheet$Score", "bestByMarks", "(II)I"⟩, 11) := ⟨⟨by decide +kernel, by decide +kernel⟩, List.mem_of_getElem? (i := 214) (by decide +kernel), List.mem_of_getElem? (i := 463) (by decide +kernel), List.mem_of_getElem? (i := 464) (by decide +kernel)⟩
theorem lw_p11 : lw_okq (⟨"SkateSheet$Score", "takePlaces", "(III)V"⟩, 11) := ⟨⟨by decide +kernel, by decide +kernel⟩, List.mem_of_getElem? (i := 214) (by decide +kernel), List.mem_of_getElem? (i := 467) (by decide +kernel), List.mem_of_getElem? (i := 468) (by decide +kernel)⟩
theorem lw_p12 : lw_okq (⟨"java/lang/Throwable", "fillInStackTrace", "(I)Ljava/lang/Throwable;"⟩, 6) := ⟨⟨by decide +kernel, by decide +kernel⟩, List.mem_of_getElem? (i := 528) (by decide +kernel), List.mem_of_getElem? (i := 526) (by decide +kernel), List.mem_of_getElem? (i := 527) (by decide +kernel)⟩
theorem lw_p13 : lw_okq (⟨"SkateSheet", "digestCouple", "(JI)J"⟩, 9) := ⟨⟨by decide +kernel, by decide +kernel⟩, List.mem_of_getElem? (i := 30) (by decide +kernel), List.mem_of_getElem? (i := 558) (by decide +kernel), List.mem_of_getElem? (i := 559) (by decide +kernel)⟩
theorem lw_p14 : lw_okq (⟨"SkateSheet", "needCouple", "(I)V"⟩, 9) := ⟨⟨by decide +kernel, by decide +kernel⟩, List.mem_of_getElem? (i := 30) (by decide +kernel), List.mem_of_getElem? (i := 566) (by decide +kernel), List.mem_of_getElem? (i := 567) (by decide +kernel)⟩
theorem lw_p15 : lw_okq (⟨"SkateSheet", "digestFinalist", "(JI)J"⟩, 9) := ⟨⟨by decide +kernel, by decide +kernel⟩, List.mem_of_getElem? (i := 30) (by decide +kernel), List.mem_of_getElem? (i := 604) (by decide +kernel), List.mem_of_getElem? (i := 605) (by decide +kernel)⟩
def lw_privs_1 : List (MethodName × Nat) := [(⟨"SkateSheet$Score", "countMarksOf", "(ILSkateSheet$Sheets;)V"⟩, 11), (⟨"SkateSheet$Score", "placeInDance", "(ILSkateSheet$Sheets;)V"⟩, 11), (⟨"SkateSheet$Score", "turnOf", "(IIZ)I"⟩, 11), (⟨"SkateSheet$Score", "compareInDance", "(III)I"⟩, 11), (⟨"SkateSheet$Score", "reasonAmongCandidates", "(II)I"⟩, 11), (⟨"SkateSheet$Score", "addPlaces", "()V"⟩, 11), (⟨"SkateSheet$Score", "placeOverAll", "()V"⟩, 11), (⟨"SkateSheet$Score", "bestByTotal", "(I)I"⟩, 11), (⟨"SkateSheet$Score", "heaviest", "(I)I"⟩, 11), (⟨"SkateSheet$Score", "bestByPlaces", "(II)I"⟩, 11), (⟨"SkateSheet$Score", "bestByMarks", "(II)I"⟩, 11), (⟨"SkateSheet$Score", "takePlaces", "(III)V"⟩, 11), (⟨"java/lang/Throwable", "fillInStackTrace", "(I)Ljava/lang/Throwable;"⟩, 6), (⟨"SkateSheet", "digestCouple", "(JI)J"⟩, 9), (⟨"SkateSheet", "needCouple", "(I)V"⟩, 9), (⟨"SkateSheet", "digestFinalist", "(JI)J"⟩, 9)]
theorem lw_r1 : ∀ q ∈ lw_privs_1, lw_okq q := List.forall_mem_cons.mpr ⟨lw_p0, List.forall_mem_cons.mpr ⟨lw_p1, List.forall_mem_cons.mpr ⟨lw_p2, List.forall_mem_cons.mpr ⟨lw_p3, List.forall_mem_cons.mpr ⟨lw_p4, List.forall_mem_cons.mpr ⟨lw_p5, List.forall_mem_cons.mpr ⟨lw_p6, List.forall_mem_cons.mpr ⟨lw_p7, List.forall_mem_cons.mpr ⟨lw_p8, List.forall_mem_cons.mpr ⟨lw_p9, List.forall_mem_cons.mpr ⟨lw_p10, List.forall_mem_cons.mpr ⟨lw_p11, List.forall_mem_cons.mpr ⟨lw_p12, List.forall_mem_cons.mpr ⟨lw_p13, List.forall_mem_cons.mpr ⟨lw_p14, List.forall_mem_cons.mpr ⟨lw_p15, fun _ h => absurd h List.not_mem_nil⟩⟩⟩⟩⟩⟩⟩⟩⟩⟩⟩⟩⟩⟩⟩⟩
theorem lw_p16 : lw_okq (⟨"SkateSheet", "needInFinal", "(I)V"⟩, 9) := ⟨⟨by decide +kernel, by decide +kernel⟩, List.mem_of_getElem? (i := 30) (by decide +kernel), List.mem_of_getElem? (i := 612) (by decide +kernel), List.mem_of_getElem? (i := 613) (by decide +kernel)⟩
theorem lw_p17 : lw_okq (⟨"SkateSheet", "needDance", "(I)V"⟩, 9) := ⟨⟨by decide +kernel, by decide +kernel⟩, List.mem_of_getElem? (i := 30) (by decide +kernel), List.mem_of_getElem? (i := 627) (by decide +kernel), List.mem_of_getElem? (i := 628) (by decide +kernel)⟩
theorem lw_p18 : lw_okq (⟨"SkateSheet$Round", "heatFor", "(IILSkateSheet$Couples;)I"⟩, 7) := ⟨⟨by decide +kernel, by decide +kernel⟩, List.mem_of_getElem? (i := 147) (by decide +kernel), List.mem_of_getElem? (i := 763) (by decide +kernel), List.mem_of_getElem? (i := 764) (by decide +kernel)⟩
theorem lw_p19 : lw_okq (⟨"SkateSheet$Round", "withMoreCrosses", "(II)I"⟩, 7) := ⟨⟨by decide +kernel, by decide +kernel⟩, List.mem_of_getElem? (i := 147) (by decide +kernel), List.mem_of_getElem? (i := 803) (by decide +kernel), List.mem_of_getElem? (i := 804) (by decide +kernel)⟩
theorem lw_p20 : lw_okq (⟨"SkateSheet", "needSheet", "(II)V"⟩, 9) := ⟨⟨by decide +kernel, by decide +kernel⟩, List.mem_of_getElem? (i := 30) (by decide +kernel), List.mem_of_getElem? (i := 858) (by decide +kernel), List.mem_of_getElem? (i := 859) (by decide +kernel)⟩
theorem lw_p21 : lw_okq (⟨"SkateSheet", "addDrifts", "()V"⟩, 9) := ⟨⟨by decide +kernel, by decide +kernel⟩, List.mem_of_getElem? (i := 30) (by decide +kernel), List.mem_of_getElem? (i := 890) (by decide +kernel), List.mem_of_getElem? (i := 891) (by decide +kernel)⟩
theorem lw_p22 : lw_okq (⟨"SkateSheet", "givePoints", "()V"⟩, 9) := ⟨⟨by decide +kernel, by decide +kernel⟩, List.mem_of_getElem? (i := 30) (by decide +kernel), List.mem_of_getElem? (i := 902) (by decide +kernel), List.mem_of_getElem? (i := 903) (by decide +kernel)⟩
theorem lw_p23 : lw_okq (⟨"SkateSheet", "tryExchange", "(IIII)V"⟩, 9) := ⟨⟨by decide +kernel, by decide +kernel⟩, List.mem_of_getElem? (i := 30) (by decide +kernel), List.mem_of_getElem? (i := 958) (by decide +kernel), List.mem_of_getElem? (i := 959) (by decide +kernel)⟩
theorem lw_p24 : lw_okq (⟨"SkateSheetModel", "no", "(I)I"⟩, 26) := ⟨⟨by decide +kernel, by decide +kernel⟩, List.mem_of_getElem? (i := 986) (by decide +kernel), List.mem_of_getElem? (i := 1120) (by decide +kernel), List.mem_of_getElem? (i := 1121) (by decide +kernel)⟩
theorem lw_p25 : lw_okq (⟨"SkateSheetModel", "panelFor", "(I)I"⟩, 26) := ⟨⟨by decide +kernel, by decide +kernel⟩, List.mem_of_getElem? (i := 986) (by decide +kernel), List.mem_of_getElem? (i := 1135) (by decide +kernel), List.mem_of_getElem? (i := 1136) (by decide +kernel)⟩
theorem lw_p26 : lw_okq (⟨"SkateSheetModel", "noHeats", "()V"⟩, 26) := ⟨⟨by decide +kernel, by decide +kernel⟩, List.mem_of_getElem? (i := 986) (by decide +kernel), List.mem_of_getElem? (i := 1142) (by decide +kernel), List.mem_of_getElem? (i := 1143) (by decide +kernel)⟩
theorem lw_p27 : lw_okq (⟨"SkateSheetModel", "isJudge", "(I)Z"⟩, 26) := ⟨⟨by decide +kernel, by decide +kernel⟩, List.mem_of_getElem? (i := 986) (by decide +kernel), List.mem_of_getElem? (i := 1158) (by decide +kernel), List.mem_of_getElem? (i := 1159) (by decide +kernel)⟩
theorem lw_p28 : lw_okq (⟨"SkateSheetModel", "crossesOf", "(I)I"⟩, 26) := ⟨⟨by decide +kernel, by decide +kernel⟩, List.mem_of_getElem? (i := 986) (by decide +kernel), List.mem_of_getElem? (i := 1166) (by decide +kernel), List.mem_of_getElem? (i := 1167) (by decide +kernel)⟩
theorem lw_p29 : lw_okq (⟨"SkateSheetModel", "isDance", "(I)Z"⟩, 26) := ⟨⟨by decide +kernel, by decide +kernel⟩, List.mem_of_getElem? (i := 986) (by decide +kernel), List.mem_of_getElem? (i := 1178) (by decide +kernel), List.mem_of_getElem? (i := 1179) (by decide +kernel)⟩
theorem lw_p30 : lw_okq (⟨"SkateSheetModel", "sheetsOf", "(I)I"⟩, 26) := ⟨⟨by decide +kernel, by decide +kernel⟩, List.mem_of_getElem? (i := 986) (by decide +kernel), List.mem_of_getElem? (i := 1182) (by decide +kernel), List.mem_of_getElem? (i := 1183) (by decide +kernel)⟩
theorem lw_p31 : lw_okq (⟨"SkateSheetModel", "isSheet", "(II)Z"⟩, 26) := ⟨⟨by decide +kernel, by decide +kernel⟩, List.mem_of_getElem? (i := 986) (by decide +kernel), List.mem_of_getElem? (i := 1190) (by decide +kernel), List.mem_of_getElem? (i := 1191) (by decide +kernel)⟩
def lw_privs_2 : List (MethodName × Nat) := [(⟨"SkateSheet", "needInFinal", "(I)V"⟩, 9), (⟨"SkateSheet", "needDance", "(I)V"⟩, 9), (⟨"SkateSheet$Round", "heatFor", "(IILSkateSheet$Couples;)I"⟩, 7), (⟨"SkateSheet$Round", "withMoreCrosses", "(II)I"⟩, 7), (⟨"SkateSheet", "needSheet", "(II)V"⟩, 9), (⟨"SkateSheet", "addDrifts", "()V"⟩, 9), (⟨"SkateSheet", "givePoints", "()V"⟩, 9), (⟨"SkateSheet", "tryExchange", "(IIII)V"⟩, 9), (⟨"SkateSheetModel", "no", "(I)I"⟩, 26), (⟨"SkateSheetModel", "panelFor", "(I)I"⟩, 26), (⟨"SkateSheetModel", "noHeats", "()V"⟩, 26), (⟨"SkateSheetModel", "isJudge", "(I)Z"⟩, 26), (⟨"SkateSheetModel", "crossesOf", "(I)I"⟩, 26), (⟨"SkateSheetModel", "isDance", "(I)Z"⟩, 26), (⟨"SkateSheetModel", "sheetsOf", "(I)I"⟩, 26), (⟨"SkateSheetModel", "isSheet", "(II)Z"⟩, 26)]
theorem lw_r2 : ∀ q ∈ lw_privs_2, lw_okq q := List.forall_mem_cons.mpr ⟨lw_p16, List.forall_mem_cons.mpr ⟨lw_p17, List.forall_mem_cons.mpr ⟨lw_p18, List.forall_mem_cons.mpr ⟨lw_p19, List.forall_mem_cons.mpr ⟨lw_p20, List.forall_mem_cons.mpr ⟨lw_p21, List.forall_mem_cons.mpr ⟨lw_p22, List.forall_mem_cons.mpr ⟨lw_p23, List.forall_mem_cons.mpr ⟨lw_p24, List.forall_mem_cons.mpr ⟨lw_p25, List.forall_mem_cons.mpr ⟨lw_p26, List.forall_mem_cons.mpr ⟨lw_p27, List.forall_mem_cons.mpr ⟨lw_p28, List.forall_mem_cons.mpr ⟨lw_p29, List.forall_mem_cons.mpr ⟨lw_p30, List.forall_mem_cons.mpr ⟨lw_p31, fun _ h => absurd h List.not_mem_nil⟩⟩⟩⟩⟩⟩⟩⟩⟩⟩⟩⟩⟩⟩⟩⟩
theorem lw_p32 : lw_okq (⟨"SkateSheetModel", "place", "(I)I"⟩, 26) := ⟨⟨by decide +kernel, by decide +kernel⟩, List.mem_of_getElem? (i := 986) (by decide +kernel), List.mem_of_getElem? (i := 1198) (by decide +kernel), List.mem_of_getElem? (i := 1199) (by decide +kernel)⟩
theorem lw_p33 : lw_okq (⟨"SkateSheetModel$Result", "place", "(I)V"⟩, 8) := ⟨⟨by decide +kernel, by decide +kernel⟩, List.mem_of_getElem? (i := 1206) (by decide +kernel), List.mem_of_getElem? (i := 1213) (by decide +kernel), List.mem_of_getElem? (i := 1214) (by decide +kernel)⟩
theorem lw_p34 : lw_okq (⟨"SkateSheetModel$Result", "count", "(IIIZ)I"⟩, 8) := ⟨⟨by decide +kernel, by decide +kernel⟩, List.mem_of_getElem? (i := 1206) (by decide +kernel), List.mem_of_getElem? (i := 1218) (by decide +kernel), List.mem_of_getElem? (i := 1219) (by decide +kernel)⟩
theorem lw_p35 : lw_okq (⟨"SkateSheetModel$Result", "ahead", "(IIII)I"⟩, 8) := ⟨⟨by decide +kernel, by decide +kernel⟩, List.mem_of_getElem? (i := 1206) (by decide +kernel), List.mem_of_getElem? (i := 1222) (by decide +kernel), List.mem_of_getElem? (i := 1223) (by decide +kernel)⟩
theorem lw_p36 : lw_okq (⟨"SkateSheetModel$Result", "over", "(I)I"⟩, 8) := ⟨⟨by decide +kernel, by decide +kernel⟩, List.mem_of_getElem? (i := 1206) (by decide +kernel), List.mem_of_getElem? (i := 1227) (by decide +kernel), List.mem_of_getElem? (i := 1228) (by decide +kernel)⟩
theorem lw_p37 : lw_okq (⟨"SkateSheetModel$Result", "give", "(III)V"⟩, 8) := ⟨⟨by decide +kernel, by decide +kernel⟩, List.mem_of_getElem? (i := 1206) (by decide +kernel), List.mem_of_getElem? (i := 1231) (by decide +kernel), List.mem_of_getElem? (i := 1232) (by decide +kernel)⟩
theorem lw_p38 : lw_okq (⟨"SkateSheetModel$Result", "ten", "(II)I"⟩, 8) := ⟨⟨by decide +kernel, by decide +kernel⟩, List.mem_of_getElem? (i := 1206) (by decide +kernel), List.mem_of_getElem? (i := 1235) (by decide +kernel), List.mem_of_getElem? (i := 1236) (by decide +kernel)⟩
theorem lw_p39 : lw_okq (⟨"SkateSheetModel$Result", "eleven", "(II)I"⟩, 8) := ⟨⟨by decide +kernel, by decide +kernel⟩, List.mem_of_getElem? (i := 1206) (by decide +kernel), List.mem_of_getElem? (i := 1239) (by decide +kernel), List.mem_of_getElem? (i := 1240) (by decide +kernel)⟩
theorem lw_p40 : lw_okq (⟨"java/util/ArrayList", "add", "(Ljava/lang/Object;[Ljava/lang/Object;I)V"⟩, 3) := ⟨⟨by decide +kernel, by decide +kernel⟩, List.mem_of_getElem? (i := 994) (by decide +kernel), List.mem_of_getElem? (i := 1284) (by decide +kernel), List.mem_of_getElem? (i := 1285) (by decide +kernel)⟩
theorem lw_p41 : lw_okq (⟨"java/util/ArrayList", "grow", "()[Ljava/lang/Object;"⟩, 3) := ⟨⟨by decide +kernel, by decide +kernel⟩, List.mem_of_getElem? (i := 994) (by decide +kernel), List.mem_of_getElem? (i := 1288) (by decide +kernel), List.mem_of_getElem? (i := 1289) (by decide +kernel)⟩
theorem lw_p42 : lw_okq (⟨"java/util/ArrayList", "grow", "(I)[Ljava/lang/Object;"⟩, 3) := ⟨⟨by decide +kernel, by decide +kernel⟩, List.mem_of_getElem? (i := 994) (by decide +kernel), List.mem_of_getElem? (i := 1292) (by decide +kernel), List.mem_of_getElem? (i := 1293) (by decide +kernel)⟩
theorem lw_p43 : lw_okq (⟨"SkateSheetModel", "standing", "(I)I"⟩, 26) := ⟨⟨by decide +kernel, by decide +kernel⟩, List.mem_of_getElem? (i := 986) (by decide +kernel), List.mem_of_getElem? (i := 1339) (by decide +kernel), List.mem_of_getElem? (i := 1340) (by decide +kernel)⟩
theorem lw_p44 : lw_okq (⟨"SkateSheetModel", "isCouple", "(I)Z"⟩, 26) := ⟨⟨by decide +kernel, by decide +kernel⟩, List.mem_of_getElem? (i := 986) (by decide +kernel), List.mem_of_getElem? (i := 1378) (by decide +kernel), List.mem_of_getElem? (i := 1379) (by decide +kernel)⟩
theorem lw_p45 : lw_okq (⟨"SkateSheetModel", "coupleNow", "(II)I"⟩, 26) := ⟨⟨by decide +kernel, by decide +kernel⟩, List.mem_of_getElem? (i := 986) (by decide +kernel), List.mem_of_getElem? (i := 1382) (by decide +kernel), List.mem_of_getElem? (i := 1383) (by decide +kernel)⟩
theorem lw_p46 : lw_okq (⟨"SkateSheetModel", "judgeNow", "(II)I"⟩, 26) := ⟨⟨by decide +kernel, by decide +kernel⟩, List.mem_of_getElem? (i := 986) (by decide +kernel), List.mem_of_getElem? (i := 1394) (by decide +kernel), List.mem_of_getElem? (i := 1395) (by decide +kernel)⟩
theorem lw_p47 : lw_okq (⟨"SkateSheetModel", "manyNow", "(I)I"⟩, 26) := ⟨⟨by decide +kernel, by decide +kernel⟩, List.mem_of_getElem? (i := 986) (by decide +kernel), List.mem_of_getElem? (i := 1414) (by decide +kernel), List.mem_of_getElem? (i := 1415) (by decide +kernel)⟩
def lw_privs_3 : List (MethodName × Nat) := [(⟨"SkateSheetModel", "place", "(I)I"⟩, 26), (⟨"SkateSheetModel$Result", "place", "(I)V"⟩, 8), (⟨"SkateSheetModel$Result", "count", "(IIIZ)I"⟩, 8), (⟨"SkateSheetModel$Result", "ahead", "(IIII)I"⟩, 8), (⟨"SkateSheetModel$Result", "over", "(I)I"⟩, 8), (⟨"SkateSheetModel$Result", "give", "(III)V"⟩, 8), (⟨"SkateSheetModel$Result", "ten", "(II)I"⟩, 8), (⟨"SkateSheetModel$Result", "eleven", "(II)I"⟩, 8), (⟨"java/util/ArrayList", "add", "(Ljava/lang/Object;[Ljava/lang/Object;I)V"⟩, 3), (⟨"java/util/ArrayList", "grow", "()[Ljava/lang/Object;"⟩, 3), (⟨"java/util/ArrayList", "grow", "(I)[Ljava/lang/Object;"⟩, 3), (⟨"SkateSheetModel", "standing", "(I)I"⟩, 26), (⟨"SkateSheetModel", "isCouple", "(I)Z"⟩, 26), (⟨"SkateSheetModel", "coupleNow", "(II)I"⟩, 26), (⟨"SkateSheetModel", "judgeNow", "(II)I"⟩, 26), (⟨"SkateSheetModel", "manyNow", "(I)I"⟩, 26)]
theorem lw_r3 : ∀ q ∈ lw_privs_3, lw_okq q := List.forall_mem_cons.mpr ⟨lw_p32, List.forall_mem_cons.mpr ⟨lw_p33, List.forall_mem_cons.mpr ⟨lw_p34, List.forall_mem_cons.mpr ⟨lw_p35, List.forall_mem_cons.mpr ⟨lw_p36, List.forall_mem_cons.mpr ⟨lw_p37, List.forall_mem_cons.mpr ⟨lw_p38, List.forall_mem_cons.mpr ⟨lw_p39, List.forall_mem_cons.mpr ⟨lw_p40, List.forall_mem_cons.mpr ⟨lw_p41, List.forall_mem_cons.mpr ⟨lw_p42, List.forall_mem_cons.mpr ⟨lw_p43, List.forall_mem_cons.mpr ⟨lw_p44, List.forall_mem_cons.mpr ⟨lw_p45, List.forall_mem_cons.mpr ⟨lw_p46, List.forall_mem_cons.mpr ⟨lw_p47, fun _ h => absurd h List.not_mem_nil⟩⟩⟩⟩⟩⟩⟩⟩⟩⟩⟩⟩⟩⟩⟩⟩
theorem lw_p48 : lw_okq (⟨"SkateSheetModel", "exchangedNow", "([IIII)I"⟩, 26) := ⟨⟨by decide +kernel, by decide +kernel⟩, List.mem_of_getElem? (i := 986) (by decide +kernel), List.mem_of_getElem? (i := 1426) (by decide +kernel), List.mem_of_getElem? (i := 1427) (by decide +kernel)⟩
theorem lw_p49 : lw_okq (⟨"SkateSheetModel", "exchange", "([III)V"⟩, 26) := ⟨⟨by decide +kernel, by decide +kernel⟩, List.mem_of_getElem? (i := 986) (by decide +kernel), List.mem_of_getElem? (i := 1430) (by decide +kernel), List.mem_of_getElem? (i := 1431) (by decide +kernel)⟩
theorem lw_p50 : lw_okq (⟨"SkateSheetModel", "fragileNow", "()I"⟩, 26) := ⟨⟨by decide +kernel, by decide +kernel⟩, List.mem_of_getElem? (i := 986) (by decide +kernel), List.mem_of_getElem? (i := 1446) (by decide +kernel), List.mem_of_getElem? (i := 1447) (by decide +kernel)⟩
theorem lw_p51 : lw_okq (⟨"SkateSheetModel", "votesNow", "(II)I"⟩, 26) := ⟨⟨by decide +kernel, by decide +kernel⟩, List.mem_of_getElem? (i := 986) (by decide +kernel), List.mem_of_getElem? (i := 1461) (by decide +kernel), List.mem_of_getElem? (i := 1462) (by decide +kernel)⟩
def lw_privs_4 : List (MethodName × Nat) := [(⟨"SkateSheetModel", "exchangedNow", "([IIII)I"⟩, 26), (⟨"SkateSheetModel", "exchange", "([III)V"⟩, 26), (⟨"SkateSheetModel", "fragileNow", "()I"⟩, 26), (⟨"SkateSheetModel", "votesNow", "(II)I"⟩, 26)]
theorem lw_r4 : ∀ q ∈ lw_privs_4, lw_okq q := List.forall_mem_cons.mpr ⟨lw_p48, List.forall_mem_cons.mpr ⟨lw_p49, List.forall_mem_cons.mpr ⟨lw_p50, List.forall_mem_cons.mpr ⟨lw_p51, fun _ h => absurd h List.not_mem_nil⟩⟩⟩⟩
def lw_privs : List (MethodName × Nat) := lw_privs_1 ++ (lw_privs_2 ++ (lw_privs_3 ++ (lw_privs_4)))
def lw_tbl : List Cond := k2_sels lw_privs ++ tables_1
theorem lw_privs_ok : ∀ q ∈ lw_privs, lw_okq q := by
  show ∀ q ∈ lw_privs_1 ++ (lw_privs_2 ++ (lw_privs_3 ++ (lw_privs_4))), lw_okq q
  exact List.forall_mem_append.mpr ⟨lw_r1, List.forall_mem_append.mpr ⟨lw_r2, List.forall_mem_append.mpr ⟨lw_r3, lw_r4⟩⟩⟩
/-- the streams that the claim lets the run draw from -/
abbrev lw_cs : List Choice := [Jvm.Choice.named "NaN.bits"]
theorem lw_bits : nanBits ∈ lw_cs := by first | decide | exact List.mem_cons_self | simp [lw_cs, nanBits]
-- ===== end of PART A; then your names; then what follows =====
end
section
/-! ===== BEGIN words of one list among another's, by their places ===== -/
theorem goodIn_r {big : List Cond} (ws : List Cond) (ps : List Nat) (hp : ws = ps.filterMap (fun i => big[i]?)) (h : ws.all goodWord = true) : GoodIn big ws := by
  intro w hw
  have h1 := List.all_eq_true.mp h w hw
  rw [hp] at hw
  obtain ⟨i, -, hi⟩ := List.mem_filterMap.mp hw
  have hm : w ∈ big := by first | exact List.mem_of_getElem? hi | exact List.getElem?_mem hi
  exact ⟨hm, good_of_word h1⟩
theorem goodIn_app {big a b : List Cond} (ha : GoodIn big a) (hb : GoodIn big b) : GoodIn big (a ++ b) := fun w h => (List.mem_append.mp h).elim (ha w) (hb w)
theorem goodIn_ca {big a b : List Cond} {c : Cond} (ha : GoodIn big (c :: a)) (hb : GoodIn big b) : GoodIn big (c :: (a ++ b)) := fun w h => (List.mem_cons.mp h).elim (fun e => ha w (List.mem_cons.mpr (Or.inl e))) (fun h => (List.mem_append.mp h).elim (fun h => ha w (List.mem_cons.mpr (Or.inr h))) (hb w))
theorem goodIn_sub {big ws : List Cond} (hm : ∀ w ∈ ws, w ∈ big) (h : ws.all goodWord = true) : GoodIn big ws := fun w hw => ⟨hm w hw, good_of_word (List.all_eq_true.mp h w hw)⟩
/-! ===== END ===== -/

/-! ===== BEGIN new T[n][m]: the outer array a place, the inner ones among the pooled ===== -/
/-- f, but v at every address of l -/
def vr_up {α : Type} (f : Nat → α) (l : List Nat) (v : α) : Nat → α := fun a => if a ∈ l then v else f a
theorem vr_up_in {α : Type} {f : Nat → α} {l : List Nat} {v : α} {a : Nat} (h : a ∈ l) : vr_up f l v a = v := if_pos h
theorem vr_up_ne {α : Type} {f : Nat → α} {l : List Nat} {v : α} {a : Nat} (h : a ∉ l) : vr_up f l v a = f a := if_neg h
theorem vr_rows {L l : List Nat} {f : Nat → va_E} {e : va_E} (h : ∀ a, a ∈ l → a ∉ L) : va_pl L f ++ l.map (fun a => (a, e)) = va_pl (L ++ l) (vr_up f l e) := by
  unfold va_pl
  rw [List.map_append]
  congr 1
  · apply List.map_congr_left
    intro a ha
    rw [vr_up_ne (fun q => h a q ha)]
  · apply List.map_congr_left
    intro a ha
    rw [vr_up_in ha]
theorem vr_lay {X rows : va_W} {x : Nat × va_E} {pl : va_W} {D : va_G} {cl : List vw_C} {H : Heap} (hP : va_P D cl (((X ++ pl) ++ [x]) ++ rows) H) : va_P D cl ((X ++ [x]) ++ (pl ++ rows)) H := by
  rw [List.append_assoc (X ++ pl)] at hP
  have h := va_P.swap hP
  rw [← List.append_assoc X] at h
  have h2 := va_P.swap h
  rw [List.append_assoc (X ++ [x])] at h2
  exact h2
theorem vr_layD {X rows : va_W} {x : Nat × va_E} {pl : va_W} {A : Nat → Prop} (hD : va_D A (((X ++ pl) ++ [x]) ++ rows)) : va_D A ((X ++ [x]) ++ (pl ++ rows)) := by
  rw [List.append_assoc (X ++ pl)] at hD
  have h := va_D.swap hD
  rw [← List.append_assoc X] at h
  have h2 := va_D.swap h
  rw [List.append_assoc (X ++ [x])] at h2
  exact h2
theorem vr_outer (c : ClassId) (N h0 : Nat) : ∀ i : Nat, Jvm.Free.Multi.outerC c N h0 i = arrV c N (fun j => va_rf (if j < i then some (h0 + 1 + j) else none))
  | 0 => by
    show ({ cls := c, slots := Array.replicate N .null, vm := .none } : Cell) = _
    rw [arrV_new]
    refine congrArg (arrV c N) (funext fun j => ?_)
    simp [va_rf]
  | i + 1 => by
    show (Jvm.Free.Multi.outerC c N h0 i).setSlot i (.ref (h0 + 1 + i)) = _
    rw [vr_outer c N h0 i, arrV_store]
    refine congrArg (arrV c N) (funext fun j => ?_)
    by_cases e : j = i
    · subst e
      simp [updV, va_rf]
    · by_cases h : j < i
      · simp [updV, e, h, Nat.lt_succ_of_lt h]
      · simp [updV, e, h, show ¬ j < i + 1 by omega]
section VGM
variable {p : Program} {l : Launch} {e : Env} {R : Room} {s : State} {m : MethodId} {args : Array Value} {below : List Frame} {meth : Method} {c : Code} {H : Heap} {locs : List Loc} {cells slots : Nat} {Q : State → Prop}
variable {cc : ByteArray} {pc : Nat} {ls : Array Slot} {rest : List Value} {D : va_G} {cl : List vw_C} {A : Nat → Prop} {a : Nat} {tys : List (ClassId × FieldType)} {ws : va_W} {H0 : Heap}
end VGM
/-! ===== END ===== -/

/-! ===== BEGIN exceptions that leave a method, and their catching by the caller (launches without stack traces) ===== -/
section VXA
/-! The laws vx_back, vx_callV, vx_callS, vx_callSW, vx_throw0, vx_throwS follow proofs of the library, with one case more: JvmDerived/Free/Laws.lean (Back.of_free), Shelf42/LK1.lean (callV, callS), Shelf/KitTraced.lean (throwNew0V, throwNewS). -/
/-- where a method has thrown q: the class by its name, the cell, what was written, the world -/
def vx_T (XC : String → State → State → Prop) (st : State) (q : Addr) (t : State) (mc ms : Nat) (free : Addr → Prop) : Prop :=
  ∃ (E : String) (ce : Cell) (L : List Loc), XC E st t ∧ t.heap[q]? = some ce ∧ ce.vm = .none ∧ st.vm.findClass E = some ce.cls ∧ st.WarmedH t.vm ∧ st.sameButNew ({ t with vm := st.vm } : State) L mc ms ∧ ∀ z ∈ L, free z.base
def vx_Q (Qc : Array Value → State → Outcome → State → Prop) (XC : String → State → State → Prop) (mc ms : Nat) (free : Addr → Prop) : Array Value → State → Outcome → State → Prop := fun a st o t =>
  (Qc a st o t ∧ ∃ L, FrameEnd st o t L mc ms ∧ ∀ q ∈ L, free q.base) ∨ ∃ q, o = .threw q ∧ vx_T XC st q t mc ms free
/-- a callee that returns or throws -/
def vx_Met (l : Launch) (y : MethodName) (ws : List Cond) (rm : Room) (Pc : Array Value → State → Prop) (Qc : Array Value → State → Outcome → State → Prop) (XC : String → State → State → Prop) (mc ms : Nat) (free : Addr → Prop) : Prop :=
  MetFree l y (headSpec ws rm) Pc (fun _ _ _ _ _ => True) (vx_Q Qc XC mc ms free)
def vx_Post (XC : String → State → State → Prop) (mc ms : Nat) (free : Addr → Prop) : Pt → Array Value → Addr → Pt → Prop := fun A a q B =>
  ∃ (g : JFrame) (mk : MethodId) (t : State) (L : List Loc) (E : String) (ce : Cell), B.U.heap = t.heap ∧ B.U.vm = t.vm ∧ XC E (A.U.calling g mk a) t ∧ t.heap[q]? = some ce ∧ ce.vm = .none ∧ A.U.vm.findClass E = some ce.cls ∧ B.locs = A.locs ++ L ∧ (∀ z ∈ L, free z.base) ∧ B.cells = A.cells + mc ∧ B.slots = A.slots + ms
def vx_Back (l : Launch) (R : Room) (p : Program) (e : Env) (below : List Frame) (s : State) (sargs : Array Value) (y : MethodName) (len W9 : Nat)
    (Pre : Pt → Array Value → Prop) (Post : Pt → Array Value → Option Value → Pt → Prop) (PostX : Pt → Array Value → Addr → Pt → Prop) : Prop :=
  ∀ (m : MethodId) (meth : Method) (c : Code) (A : Pt) (g : JFrame) (ig : Instr) (mk : MethodId) (a : Array Value),
    Stand p l e R s m sargs below meth c A.U A.locs A.cells A.slots → g.method = m → g.locals.size = c.maxLocals → decode c.code g.pc = .ok (ig, len) →
    2 * g.monitorRoom + (g.stack.map fun v => v.category).sum ≤ W9 → A.U.methodNamed? y = some mk → Pre A a →
    (∃ (v : Option Value) (B : Pt), Stand p l e R s m sargs below meth c B.U B.locs B.cells B.slots ∧ Post A a v B ∧
      Steps p.tables e below (doInvoke e (A.U.setTop g) [] mk a).1 (B.U.setTop { g with pc := g.pc + len, stack := v.toList ++ g.stack })) ∨
    (∃ (q : Addr) (B : Pt), Stand p l e R s m sargs below meth c B.U B.locs B.cells B.slots ∧ PostX A a q B ∧
      Steps p.tables e below (doInvoke e (A.U.setTop g) [] mk a).1 ((B.U.setTop g).pushFrame (.throwing q)))
section Payer
variable {l : Launch} {R : Room} {p : Program} {e : Env} {below : List Frame} {s : State} {sargs : Array Value} {y : MethodName} {len W9 : Nat}
theorem vx_back {ws : List Cond} {rm : Room} {Pc : Array Value → State → Prop} {Qc : Array Value → State → Outcome → State → Prop} {XC : String → State → State → Prop} {mc ms : Nat} {free : Addr → Prop} {bytes : ByteArray} {maxL : Nat} {ret : Option FieldType}
    (hM : vx_Met l y ws rm Pc Qc XC mc ms free) (hblind : FrameBlind Pc) (hrc : rm.cells = mc) (hrs : rm.slots = ms)
    (hframes : rm.frames + 1 ≤ R.frames) (hlocals : W9 + (maxL + 11) + rm.locals ≤ R.locals)
    (hws : ∀ w ∈ ws, ∀ a' U, s.WarmedH U.vm → w.before a' U = true) (hcode : Cond.code y bytes maxL ret ∈ ws) (hinit : ∀ a' U, s.WarmedH U.vm → (Cond.initialized y.cls).before a' U = true) :
    vx_Back l R p e below s sargs y len W9 (PreOf R mc ms Pc) (PostOf Qc mc ms free) (vx_Post XC mc ms free) := by
  intro m meth c A g ig mk a X hg hsize hdg hW hn hp
  have h1 : (headSpec ws rm).pre.before a A.U = true := atoms_intro fun w hw => hws w hw _ _ X.warmed
  have h2 : (Cond.code y bytes maxL ret).before a A.U = true := hws _ hcode _ _ X.warmed
  have h3 : (Cond.initialized y.cls).before a A.U = true := hinit _ _ X.warmed
  have h4 : A.cells + (headSpec ws rm).room.cells ≤ R.cells := by rw [show (headSpec ws rm).room.cells = mc from hrc]; exact hp.1
  have h5 : A.slots + (headSpec ws rm).room.slots ≤ R.slots := by rw [show (headSpec ws rm).room.slots = ms from hrs]; exact hp.2.1
  have hPc : Pc a (A.U.calling g mk a) := hblind _ _ _ _ hp.2.2
  obtain ⟨U, Ls, c0, s0⟩ := A
  dsimp only [Pt.U, Pt.locs, Pt.cells, Pt.slots] at h1 h2 h3 h4 h5 X hn hPc ⊢
  obtain ⟨methY, cY, hmY, hcY, -, hlY, -, -, -, -⟩ := Cond.code_spec hn h2
  obtain ⟨kY, hkY, -⟩ := className_of_methodNamed hn
  have hinitY : kY.init = .initialized := Cond.initialized_spec (findClass_of_methodNamed hn) hkY h3
  have h : At U g.method c below := by rw [hg]; exact X.here
  have hlocals9 : W9 + (maxL + 11) + (headSpec ws rm).room.locals ≤ R.locals := hlocals
  have happ : (headSpec ws rm).appliesLoose y e.platform (U.calling g mk a) = true :=
    Spec.appliesLoose_calling (g := g) h hdg hn hkY hinitY
      (X.room_calling (g := g) (R' := (headSpec ws rm).room) hsize hmY hcY hframes (by rw [hlY]; omega) h4 h5) h1
  obtain ⟨mid, hmid⟩ := h.above
  have hfr : (U.setTop g).frames = (.java g :: mid) ++ below := by rw [State.frames_setTop' g h.top, hmid]; rfl
  obtain ⟨o, s₂, hsteps, -, hend, hq⟩ := Steps.callFree hM p X.admits X.cas X.clock (acts := []) hfr happ hPc trivial
  have hq' : vx_Q Qc XC mc ms free a (U.calling g mk a) o s₂ := hq
  rw [State.frames_setTop' g h.top] at hend
  obtain ⟨g₀, hg0⟩ := Option.isSome_iff_exists.mp h.top
  obtain ⟨r, hr⟩ := State.topJava?_eq_some.mp hg0
  have hr' : (({ U with heap := s₂.heap, slotsUsed := s₂.slotsUsed } : State).setVm s₂.vm).frames = .java g₀ :: r := hr
  rcases hq' with ⟨hqc, L, hfe, hL⟩ | ⟨q, rfl, E, ce, L, hx, hce, hcv, hcl, hW₂, hsm, hL⟩
  · obtain ⟨⟨v, rfl⟩, hW₂, e2, q2, q3, q4, q5, q6⟩ := id hfe
    have e3 : s₂ = ({ (U.calling g mk a).setFrames s₂.frames with heap := s₂.heap, slotsUsed := s₂.slotsUsed } : State).setVm s₂.vm := by
      have : s₂ = ({ s₂ with vm := (U.calling g mk a).vm } : State).setVm s₂.vm := rfl
      rw [e2] at this
      exact this
    obtain ⟨c₂, i₂, len₂, hc₂, hd₂, hf₂⟩ := hend
    have hW' : U.WarmedH s₂.vm := hW₂
    have hcc : c₂ = c := by
      have h1 : s₂.code? g.method = U.code? g.method := by
        rw [State.code?_eq, State.code?_eq, hW'.alike.method?]
      exact Option.some.inj (hc₂.symm.trans (h1.trans h.code))
    subst hcc
    have hlen : len₂ = len := by rw [hdg] at hd₂; cases hd₂; rfl
    subst hlen
    have hs₂ : s₂ = (({ U with heap := s₂.heap, slotsUsed := s₂.slotsUsed } : State).setVm s₂.vm).setTop { g with pc := g.pc + len₂, stack := v.toList ++ g.stack } := by
      refine e3.trans ?_
      rw [hf₂, State.calling_eq h.top, State.setFrames_setFrames, State.setTop_of_frames _ hr', hr]
      rfl
    have hsame : U.sameButNew ({ U with heap := s₂.heap, slotsUsed := s₂.slotsUsed } : State) L mc ms := by
      refine ⟨?_, q2, q3, q4, q5, q6⟩
      obtain ⟨t, ht, -⟩ := State.frames_cons hr
      show ({ U with heap := s₂.heap, slotsUsed := s₂.slotsUsed } : State) = { U.setFrames U.frames with heap := s₂.heap, slotsUsed := s₂.slotsUsed }
      rw [State.setFrames_self ht]
    subst hg
    refine Or.inl ⟨v, ⟨(({ U with heap := s₂.heap, slotsUsed := s₂.slotsUsed } : State).setVm s₂.vm), Ls ++ L, c0 + mc, s0 + ms⟩,
      ⟨X.admits, X.cas, X.clock, X.frames, X.room, X.hears, X.method, X.code, (X.here.setHeapUsed s₂.heap s₂.slotsUsed).setVm hW'.alike, X.tail, State.WarmedH.trans X.warmed hW', X.limits, X.bytes, X.same.trans (hsame.setVm s.vm)⟩,
      ⟨g, mk, s₂, L, rfl, rfl, hqc, rfl, hL, rfl, rfl⟩, ?_⟩
    show Steps p.tables e below _ ((({ U with heap := s₂.heap, slotsUsed := s₂.slotsUsed } : State).setVm s₂.vm).setTop { g with pc := g.pc + len₂, stack := v.toList ++ g.stack })
    rw [← hs₂]
    exact hsteps
  · obtain ⟨e2, q2, q3, q4, q5, q6⟩ := id hsm
    have e3 : s₂ = ({ (U.calling g mk a).setFrames s₂.frames with heap := s₂.heap, slotsUsed := s₂.slotsUsed } : State).setVm s₂.vm := by
      have : s₂ = ({ s₂ with vm := (U.calling g mk a).vm } : State).setVm s₂.vm := rfl
      rw [e2] at this
      exact this
    have hf₂ : s₂.frames = .throwing q :: .java g :: U.frames.tail := hend
    have hW' : U.WarmedH s₂.vm := hW₂
    have hs₂ : s₂ = ((({ U with heap := s₂.heap, slotsUsed := s₂.slotsUsed } : State).setVm s₂.vm).setTop g).pushFrame (.throwing q) := by
      refine e3.trans ?_
      rw [hf₂, State.calling_eq h.top, State.setFrames_setFrames, State.pushFrame, State.frames_setTop _ hr', State.setTop_of_frames _ hr', State.setFrames_setFrames, hr]
      rfl
    have hsame : U.sameButNew ({ U with heap := s₂.heap, slotsUsed := s₂.slotsUsed } : State) L mc ms := by
      refine ⟨?_, q2, q3, q4, q5, q6⟩
      obtain ⟨t, ht, -⟩ := State.frames_cons hr
      show ({ U with heap := s₂.heap, slotsUsed := s₂.slotsUsed } : State) = { U.setFrames U.frames with heap := s₂.heap, slotsUsed := s₂.slotsUsed }
      rw [State.setFrames_self ht]
    subst hg
    refine Or.inr ⟨q, ⟨(({ U with heap := s₂.heap, slotsUsed := s₂.slotsUsed } : State).setVm s₂.vm), Ls ++ L, c0 + mc, s0 + ms⟩,
      ⟨X.admits, X.cas, X.clock, X.frames, X.room, X.hears, X.method, X.code, (X.here.setHeapUsed s₂.heap s₂.slotsUsed).setVm hW'.alike, X.tail, State.WarmedH.trans X.warmed hW', X.limits, X.bytes, X.same.trans (hsame.setVm s.vm)⟩,
      ⟨g, mk, s₂, L, E, ce, rfl, rfl, hx, hce, hcv, hcl, rfl, hL, rfl, rfl⟩, ?_⟩
    show Steps p.tables e below _ (((({ U with heap := s₂.heap, slotsUsed := s₂.slotsUsed } : State).setVm s₂.vm).setTop g).pushFrame (.throwing q))
    rw [← hs₂]
    exact hsteps
end Payer
section Calls
variable {p : Program} {l : Launch} {e : Env} {R : Room} {s : State} {m : MethodId} {args : Array Value} {below : List Frame} {meth : Method} {c : Code} {T : State} {locs : List Loc} {cells slots : Nat}
theorem vx_callV (X : Stand p l e R s m args below meth c T locs cells slots) (hexec : p.tables.exec = Jvm.exec) {own C : String} {index : Nat} {y : MethodName} {bytes : ByteArray} {maxL : Nat} {ret : Option FieldType}
    (hown : s.vm.findClass own = some m.cls) (hlink : (Cond.methodLink own index y).before args s = true) (hinst : (Cond.instanceMethod y).before args s = true) (hsel : (Cond.selects C y y).before args s = true)
    (hcode : (Cond.code y bytes maxL ret).before args s = true) (hy : y.cls ≠ "java/lang/invoke/MethodHandle" ∧ y.cls ≠ "java/lang/invoke/VarHandle")
    {W9 : Nat} {Pre : Pt → Array Value → Prop} {Post : Pt → Array Value → Option Value → Pt → Prop} {PostX : Pt → Array Value → Addr → Pt → Prop} (hK : vx_Back l R p e below s args y 3 W9 Pre Post PostX)
    {b : Addr} {cellB : Cell} (hcell : T.heap[b]? = some cellB) (hobj : cellB.vm.isStatics = false) (hcls : s.vm.findClass C = some cellB.cls)
    {g : JFrame} (hg : g.method = m) (hsize : g.locals.size = c.maxLocals) {argsL rest : List Value} (hlen : ∀ sig, parseMethodDescriptor y.desc = some sig → argsL.length = sig.parameters.length)
    (hstack : g.stack = argsL.reverse ++ .ref b :: rest) (hW : 2 * g.monitorRoom + (rest.map fun v => v.category).sum ≤ W9) (hdg : decode c.code g.pc = .ok (.invokevirtual index, 3))
    (hpre : ∀ vm₁, s.WarmedH vm₁ → Pre ⟨T.setVm vm₁, locs, cells, slots⟩ (Value.ref b :: argsL).toArray) :
    (∃ (v : Option Value) (vm₁ : Vm) (B : Pt), s.WarmedH vm₁ ∧ Stand p l e R s m args below meth c B.U B.locs B.cells B.slots ∧ Post ⟨T.setVm vm₁, locs, cells, slots⟩ (Value.ref b :: argsL).toArray v B ∧
      ∀ target, Steps p.tables e below (B.U.setTop { g with pc := g.pc + 3, stack := v.toList ++ rest }) target → Steps p.tables e below (T.setTop g) target) ∨
    (∃ (q : Addr) (vm₁ : Vm) (B : Pt), s.WarmedH vm₁ ∧ Stand p l e R s m args below meth c B.U B.locs B.cells B.slots ∧ PostX ⟨T.setVm vm₁, locs, cells, slots⟩ (Value.ref b :: argsL).toArray q B ∧
      Steps p.tables e below (T.setTop g) ((B.U.setTop { g with stack := rest }).pushFrame (.throwing q))) := by
  obtain ⟨mk, methM, hnamed, hmethM, hstM, habM⟩ := Cond.instanceMethod_spec hinst
  obtain ⟨methM', cM, hmethM', -, -, -, -, -, -, hsigM⟩ := Cond.code_spec hnamed hcode
  cases hmethM.symm.trans hmethM'
  obtain ⟨c2, r2, m2, q1, q2, q3, q4, kP, hkP, hkPi⟩ := Cond.selects_spec hsel
  cases hcls.symm.trans q1
  cases (State.methodFound?_of_named hnamed hy).symm.trans q2
  cases hnamed.symm.trans q3
  have hselP : selectMethod e.platform s.vm cellB.cls mk = .method mk := by rw [Launch.admits_selectMethod X.admits]; exact q4
  obtain ⟨vm₁, X₁, hstep₁⟩ := X.invokevirtual hexec hown hlink hnamed hmethM hstM hkP hkPi hy (a := b) (cell := cellB) hcell
    (fun z h => by rw [h] at hobj; cases hobj) hselP hmethM habM hkP hkPi (g := g) hg (argsL := argsL) (rest := rest) (hlen _ hsigM) hstack hdg
  rcases hK m meth c ⟨T.setVm vm₁, locs, cells, slots⟩ { g with stack := rest } (.invokevirtual index) mk (Value.ref b :: argsL).toArray X₁ hg hsize hdg hW (X₁.named hnamed) (hpre vm₁ X₁.warmed) with ⟨v, B, X', hpost, hsteps⟩ | ⟨q, B, X', hpost, hsteps⟩
  · exact Or.inl ⟨v, vm₁, B, X₁.warmed, X', hpost, fun target h => hstep₁ _ fun acts => by rw [doInvoke_state]; exact hsteps.trans h⟩
  · exact Or.inr ⟨q, vm₁, B, X₁.warmed, X', hpost, hstep₁ _ fun acts => by rw [doInvoke_state]; exact hsteps⟩
theorem vx_callS (X : Stand p l e R s m args below meth c T locs cells slots) (hexec : p.tables.exec = Jvm.exec) {own : String} {index : Nat} {y : MethodName} {bytes : ByteArray} {maxL : Nat} {ret : Option FieldType}
    (hown : s.vm.findClass own = some m.cls) (hlink : (Cond.methodLink own index y).before args s = true) (hstat : (Cond.static y).before args s = true) (hinit : (Cond.initialized y.cls).before args s = true)
    (hcode : (Cond.code y bytes maxL ret).before args s = true) (hy : y.cls ≠ "java/lang/invoke/MethodHandle" ∧ y.cls ≠ "java/lang/invoke/VarHandle")
    {W9 : Nat} {Pre : Pt → Array Value → Prop} {Post : Pt → Array Value → Option Value → Pt → Prop} {PostX : Pt → Array Value → Addr → Pt → Prop} (hK : vx_Back l R p e below s args y 3 W9 Pre Post PostX)
    {g : JFrame} (hg : g.method = m) (hsize : g.locals.size = c.maxLocals) {argsL rest : List Value} (hlen : ∀ sig, parseMethodDescriptor y.desc = some sig → argsL.length = sig.parameters.length)
    (hstack : g.stack = argsL.reverse ++ rest) (hW : 2 * g.monitorRoom + (rest.map fun v => v.category).sum ≤ W9) (hdg : decode c.code g.pc = .ok (.invokestatic index, 3))
    (hpre : ∀ vm₁, s.WarmedH vm₁ → Pre ⟨T.setVm vm₁, locs, cells, slots⟩ argsL.toArray) :
    (∃ (v : Option Value) (vm₁ : Vm) (B : Pt), s.WarmedH vm₁ ∧ Stand p l e R s m args below meth c B.U B.locs B.cells B.slots ∧ Post ⟨T.setVm vm₁, locs, cells, slots⟩ argsL.toArray v B ∧
      ∀ target, Steps p.tables e below (B.U.setTop { g with pc := g.pc + 3, stack := v.toList ++ rest }) target → Steps p.tables e below (T.setTop g) target) ∨
    (∃ (q : Addr) (vm₁ : Vm) (B : Pt), s.WarmedH vm₁ ∧ Stand p l e R s m args below meth c B.U B.locs B.cells B.slots ∧ PostX ⟨T.setVm vm₁, locs, cells, slots⟩ argsL.toArray q B ∧
      Steps p.tables e below (T.setTop g) ((B.U.setTop { g with stack := rest }).pushFrame (.throwing q))) := by
  obtain ⟨mk, hnamed⟩ := Cond.code_named hcode
  obtain ⟨methM, cM, hmethM, -, -, -, -, -, -, hsigM⟩ := Cond.code_spec hnamed hcode
  have hstatic : methM.isStatic = true := Cond.static_spec hnamed hmethM hstat
  obtain ⟨kP, hkP, -⟩ := className_of_methodNamed hnamed
  have hinitP : kP.init = .initialized := Cond.initialized_spec (findClass_of_methodNamed hnamed) hkP hinit
  obtain ⟨vm₁, X₁, hstep₁⟩ := X.invokestatic hexec hown hlink hnamed hmethM hstatic hkP hinitP hy (g := g) hg (argsL := argsL) (rest := rest) (hlen _ hsigM) hstack hdg
  rcases hK m meth c ⟨T.setVm vm₁, locs, cells, slots⟩ { g with stack := rest } (.invokestatic index) mk argsL.toArray X₁ hg hsize hdg hW (X₁.named hnamed) (hpre vm₁ X₁.warmed) with ⟨v, B, X', hpost, hsteps⟩ | ⟨q, B, X', hpost, hsteps⟩
  · exact Or.inl ⟨v, vm₁, B, X₁.warmed, X', hpost, fun target h => hstep₁ _ fun acts => by rw [doInvoke_state]; exact hsteps.trans h⟩
  · exact Or.inr ⟨q, vm₁, B, X₁.warmed, X', hpost, hstep₁ _ fun acts => by rw [doInvoke_state]; exact hsteps⟩
end Calls
theorem vx_cls {s : State} {T : State} {vm₁ : Vm} {E : String} {k : ClassId} (hW : s.WarmedH vm₁) (h : (T.setVm vm₁).vm.findClass E = some k) : s.vm.findClass E = some k := by
  have h1 : vm₁.findClass E = some k := h
  rw [hW.alike.findClass] at h1
  exact h1
/-- the method's frame g, with q thrown over it -/
def vx_W (p : Program) (l : Launch) (e : Env) (R : Room) (s : State) (m : MethodId) (args : Array Value) (below : List Frame) (meth : Method) (c : Code) (H : Heap) (locs : List Loc) (cells slots : Nat) (Q : State → Prop) (g : JFrame) (q : Addr) : Prop :=
  ∀ T : State, T.heap = H → Stand p l e R s m args below meth c T locs cells slots → ∃ t, Steps p.tables e below ((T.setTop g).pushFrame (.throwing q)) t ∧ Q t
def vx_Run (p : Program) (l : Launch) (e : Env) (R : Room) (s : State) (m : MethodId) (args : Array Value) (below : List Frame) (meth : Method) (c : Code) (H : Heap) (locs : List Loc) (cells slots mc ms : Nat) (g : JFrame) (rest : List Value) (Qa : State → Outcome → State → Prop) (XC : String → State → State → Prop) (free : Addr → Prop) : Prop :=
  ∀ T : State, T.heap = H → Stand p l e R s m args below meth c T locs cells slots →
    (∃ (v : Option Value) (st₀ t T' : State) (L : List Loc), st₀.heap = H ∧ Stand p l e R s m args below meth c T' (locs ++ L) (cells + mc) (slots + ms) ∧ (∀ q ∈ L, free q.base) ∧ T'.heap = t.heap ∧ T'.vm = t.vm ∧ Qa st₀ (.returned v) t ∧
      Goes p e below T g T' { g with pc := g.pc + 3, stack := v.toList ++ rest }) ∨
    (∃ (q : Addr) (st₀ t T' : State) (L : List Loc) (E : String) (ce : Cell), st₀.heap = H ∧ Stand p l e R s m args below meth c T' (locs ++ L) (cells + mc) (slots + ms) ∧ (∀ z ∈ L, free z.base) ∧ T'.heap = t.heap ∧ T'.vm = t.vm ∧ XC E st₀ t ∧ t.heap[q]? = some ce ∧ ce.vm = .none ∧ s.vm.findClass E = some ce.cls ∧
      Steps p.tables e below (T.setTop g) ((T'.setTop { g with stack := rest }).pushFrame (.throwing q)))
def vx_X {S : Type} (px : S → Prop) (B : String → S → State → Prop) (A : Nat → Prop) : String → State → State → Prop := fun E st t => ∃ u : S, px u ∧ B E u t ∧ va_F A st t
section Runs
variable {p : Program} {l : Launch} {e : Env} {R : Room} {s : State} {m : MethodId} {args : Array Value} {below : List Frame} {meth : Method} {c : Code} {H : Heap} {locs : List Loc} {cells slots : Nat}
variable {y : MethodName} {bytes cc : ByteArray} {maxL nL mc ms n index : Nat} {ret : Option FieldType} {ws : List Cond} {rm : Room} {Pc : Array Value → State → Prop} {Qc : Array Value → State → Outcome → State → Prop} {XC : String → State → State → Prop} {free : Addr → Prop} {Ts : List Cond} {own C : String} {b : Addr} {As rest : List Value} {g : JFrame}
theorem vx_callBack (cb : CallB R s args own index y bytes maxL ret ws rm mc ms n) (hM : vx_Met l y ws rm Pc Qc XC mc ms free) (hbl : FrameBlind Pc) : vx_Back l R p e below s args y 3 8 (PreOf R mc ms Pc) (PostOf Qc mc ms free) (vx_Post XC mc ms free) := by
  obtain ⟨hrc, hrs, hfr, hlo, hws, hcw, -, hini, -⟩ := cb
  exact vx_back (bytes := bytes) (maxL := maxL) (ret := ret) hM hbl hrc hrs hfr hlo hws hcw (fun a' U hW => word_at hW (Or.inl (by first | rfl | simp [Cond.onTables, Cond.keeps, Cond.steady])) hini)
theorem vx_runV (S : CallFix p m c cc nL s args Ts own) (hM : vx_Met l y ws rm Pc Qc XC mc ms free) (cw : CallW R s args own C index y bytes maxL ret ws rm mc ms n) (hp : PreV s H C b Pc As)
    (hg : g.method = m) (hn : As.length = n) (hsize : g.locals.size = nL) (hstack : g.stack = As.reverse ++ .ref b :: rest) (hW : 2 * g.monitorRoom + (rest.map fun v => v.category).sum ≤ 8) (hdg : decode cc g.pc = .ok (.invokevirtual index, 3)) (hf : cells + mc ≤ R.cells ∧ slots + ms ≤ R.slots) :
    vx_Run p l e R s m args below meth c H locs cells slots mc ms g rest (Qc (Value.ref b :: As).toArray) XC free := by
  have hK : vx_Back l R p e below s args y 3 8 (PreOf R mc ms Pc) (PostOf Qc mc ms free) (vx_Post XC mc ms free) := vx_callBack cw.1 hM hp.1
  obtain ⟨⟨-, -, -, -, -, -, hcode, -, hy, hlen, hl⟩, hin, hse⟩ := cw
  obtain ⟨hx, hb, hml, ho, -⟩ := S
  obtain ⟨-, ⟨cellB, hcB, hoB, hclB⟩, hPc⟩ := hp
  intro T hT X
  rcases vx_callV X hx (C := C) (bytes := bytes) (maxL := maxL) (ret := ret) ho hl hin hse hcode hy hK (by rw [hT]; exact hcB) hoB hclB hg (hsize.trans hml.symm) (argsL := As) (rest := rest) (fun sig h => hn.trans (hlen sig h)) hstack hW (by rw [hb]; exact hdg)
    (fun vm₁ hW₁ => ⟨hf.1, hf.2, hPc (T.setVm vm₁) hT hW₁⟩) with ⟨v, vm₁, ⟨U', l2, c2, s2⟩, hW₁, X', ⟨g', mk, t, L, e1, e2, hq, h1, hL, h2, h3⟩, st⟩ | ⟨q, vm₁, ⟨U', l2, c2, s2⟩, hW₁, X', ⟨g', mk, t, L, E, ce, e1, e2, hq, hce, hcv, hcl, h1, hL, h2, h3⟩, st⟩
  · dsimp only [Pt.U, Pt.locs, Pt.cells, Pt.slots] at X' e1 e2 h1 h2 h3 st
    subst h1; subst h2; subst h3
    exact Or.inl ⟨v, (T.setVm vm₁).calling g' mk (Value.ref b :: As).toArray, t, U', L, hT, X', hL, e1, e2, hq, st⟩
  · dsimp only [Pt.U, Pt.locs, Pt.cells, Pt.slots] at X' e1 e2 h1 h2 h3 st hcl
    subst h1; subst h2; subst h3
    exact Or.inr ⟨q, (T.setVm vm₁).calling g' mk (Value.ref b :: As).toArray, t, U', L, E, ce, hT, X', hL, e1, e2, hq, hce, hcv, vx_cls hW₁ hcl, st⟩
theorem vx_runS (S : CallFix p m c cc nL s args Ts own) (hM : vx_Met l y ws rm Pc Qc XC mc ms free) (cw : CallB R s args own index y bytes maxL ret ws rm mc ms n ∧ (Cond.static y).before args s = true) (hp : PreS s H Pc As)
    (hg : g.method = m) (hn : As.length = n) (hsize : g.locals.size = nL) (hstack : g.stack = As.reverse ++ rest) (hW : 2 * g.monitorRoom + (rest.map fun v => v.category).sum ≤ 8) (hdg : decode cc g.pc = .ok (.invokestatic index, 3)) (hf : cells + mc ≤ R.cells ∧ slots + ms ≤ R.slots) :
    vx_Run p l e R s m args below meth c H locs cells slots mc ms g rest (Qc As.toArray) XC free := by
  have hK : vx_Back l R p e below s args y 3 8 (PreOf R mc ms Pc) (PostOf Qc mc ms free) (vx_Post XC mc ms free) := vx_callBack cw.1 hM hp.1
  obtain ⟨⟨-, -, -, -, -, -, hcode, hini, hy, hlen, hl⟩, hstt⟩ := cw
  obtain ⟨hx, hb, hml, ho, -⟩ := S
  intro T hT X
  rcases vx_callS X hx (bytes := bytes) (maxL := maxL) (ret := ret) ho hl hstt hini hcode hy hK hg (hsize.trans hml.symm) (argsL := As) (rest := rest) (fun sig h => hn.trans (hlen sig h)) hstack hW (by rw [hb]; exact hdg)
    (fun vm₁ hW₁ => ⟨hf.1, hf.2, hp.2 (T.setVm vm₁) hT hW₁⟩) with ⟨v, vm₁, ⟨U', l2, c2, s2⟩, hW₁, X', ⟨g', mk, t, L, e1, e2, hq, h1, hL, h2, h3⟩, st⟩ | ⟨q, vm₁, ⟨U', l2, c2, s2⟩, hW₁, X', ⟨g', mk, t, L, E, ce, e1, e2, hq, hce, hcv, hcl, h1, hL, h2, h3⟩, st⟩
  · dsimp only [Pt.U, Pt.locs, Pt.cells, Pt.slots] at X' e1 e2 h1 h2 h3 st
    subst h1; subst h2; subst h3
    exact Or.inl ⟨v, (T.setVm vm₁).calling g' mk As.toArray, t, U', L, hT, X', hL, e1, e2, hq, st⟩
  · dsimp only [Pt.U, Pt.locs, Pt.cells, Pt.slots] at X' e1 e2 h1 h2 h3 st hcl
    subst h1; subst h2; subst h3
    exact Or.inr ⟨q, (T.setVm vm₁).calling g' mk As.toArray, t, U', L, E, ce, hT, X', hL, e1, e2, hq, hce, hcv, vx_cls hW₁ hcl, st⟩
end Runs
section Rows
variable {p : Program} {l : Launch} {e : Env} {R : Room} {s : State} {m : MethodId} {args : Array Value} {below : List Frame} {meth : Method} {c : Code} {H : Heap} {locs : List Loc} {cells slots : Nat} {Q : State → Prop}
variable {mc ms : Nat} {free : Addr → Prop} {A0 A1 : Nat → Prop} {H0 : Heap} {a : Array Value} {pc : Nat} {ls : Array Slot} {st0 rest : List Value}
theorem vx_keep {st₀ t T' : State} {L : List Loc} (h0 : st₀.heap = H) (e1 : T'.heap = t.heap) (hS : va_S A0 H0 H locs) (hA : ∀ q, q < H.size → A1 q → A0 q) (hf : ∀ q, free q → A0 q) (hL : ∀ q ∈ L, free q.base) (hF : va_F A1 st₀ t) :
    H.size ≤ T'.heap.size ∧ (∀ q : Nat, q < H.size → ¬ A1 q → T'.heap[q]? = H[q]?) ∧ va_S A0 H0 T'.heap (locs ++ L) := by
  obtain ⟨hz, hk⟩ := hF
  rw [h0] at hz hk
  exact ⟨by rw [e1]; exact hz, fun q h1 h2 => by rw [e1]; exact hk q h1 h2,
    ⟨Nat.le_trans hS.1 (by rw [e1]; exact hz), fun q h1 h2 => by rw [e1, hk q (Nat.lt_of_lt_of_le h1 hS.1) (fun z => h2 (hA q (Nat.lt_of_lt_of_le h1 hS.1) z))]; exact hS.2.1 q h1 h2, fun q hq => by
      rcases List.mem_append.mp hq with h | h
      · exact hS.2.2 q h
      · exact hf _ (hL q h)⟩⟩
theorem vx_calli {S SX : Type} {post : Int32 → S → Prop} {px : SX → Prop} {B : S → State → Prop} {BX : String → SX → State → Prop} {AX : Nat → Prop} (hr : vx_Run p l e R s m args below meth c H locs cells slots mc ms (F0 m pc ls st0) rest (va_Qi post B A1 a) (vx_X px BX AX) free) (hS : va_S A0 H0 H locs) (hA : ∀ q, q < H.size → A1 q → A0 q) (hf : ∀ q, free q → A0 q) (hAX : ∀ q, q < H.size → AX q → A0 q)
    (kx : ∀ (E : String) (ce : Cell) (q9 : Addr) (u : SX) (t : State) (H1 : Heap) (locs1 : List Loc), t.heap = H1 → s.vm.Alike t.vm → px u → BX E u t → H.size ≤ H1.size → (∀ q : Nat, q < H.size → ¬ AX q → H1[q]? = H[q]?) → va_S A0 H0 H1 locs1 → H1[q9]? = some ce → ce.vm = .none → s.vm.findClass E = some ce.cls → vx_W p l e R s m args below meth c H1 locs1 (cells + mc) (slots + ms) Q (F0 m pc ls rest) q9)
    (kk : ∀ (r : Int32) (u : S) (t : State) (H1 : Heap) (locs1 : List Loc), t.heap = H1 → s.vm.Alike t.vm → post r u → B u t → H.size ≤ H1.size → (∀ q : Nat, q < H.size → ¬ A1 q → H1[q]? = H[q]?) → va_S A0 H0 H1 locs1 → W p l e R s m args below meth c H1 locs1 (cells + mc) (slots + ms) Q (F0 m (pc + 3) ls (.int r :: rest))) : W p l e R s m args below meth c H locs cells slots Q (F0 m pc ls st0) := by
  intro T hT X
  rcases hr T hT X with ⟨v, st₀, t, T', L, h0, X', hL, e1, e2, ⟨⟨r, u, hv, hp, hb⟩, hF⟩, st⟩ | ⟨q, st₀, t, T', L, E, ce, h0, X', hL, e1, e2, ⟨u, hp, hb, hF⟩, hce, hcv, hcl, st⟩
  · cases hv
    obtain ⟨k1, k2, k3⟩ := vx_keep h0 e1 hS hA hf hL hF
    obtain ⟨t2, a1, b1⟩ := kk r u t T'.heap (locs ++ L) e1.symm (by rw [← e2]; exact X'.warmed.alike) hp hb k1 k2 k3 T' rfl X'
    exact ⟨t2, st t2 a1, b1⟩
  · obtain ⟨k1, k2, k3⟩ := vx_keep h0 e1 hS hAX hf hL hF
    obtain ⟨t2, a1, b1⟩ := kx E ce q u t T'.heap (locs ++ L) e1.symm (by rw [← e2]; exact X'.warmed.alike) hp hb k1 k2 k3 (by rw [e1]; exact hce) hcv hcl T' rfl X'
    exact ⟨t2, st.trans a1, b1⟩
theorem vx_calll {S SX : Type} {post : Int64 → S → Prop} {px : SX → Prop} {B : S → State → Prop} {BX : String → SX → State → Prop} {AX : Nat → Prop} (hr : vx_Run p l e R s m args below meth c H locs cells slots mc ms (F0 m pc ls st0) rest (va_Ql post B A1 a) (vx_X px BX AX) free) (hS : va_S A0 H0 H locs) (hA : ∀ q, q < H.size → A1 q → A0 q) (hf : ∀ q, free q → A0 q) (hAX : ∀ q, q < H.size → AX q → A0 q)
    (kx : ∀ (E : String) (ce : Cell) (q9 : Addr) (u : SX) (t : State) (H1 : Heap) (locs1 : List Loc), t.heap = H1 → s.vm.Alike t.vm → px u → BX E u t → H.size ≤ H1.size → (∀ q : Nat, q < H.size → ¬ AX q → H1[q]? = H[q]?) → va_S A0 H0 H1 locs1 → H1[q9]? = some ce → ce.vm = .none → s.vm.findClass E = some ce.cls → vx_W p l e R s m args below meth c H1 locs1 (cells + mc) (slots + ms) Q (F0 m pc ls rest) q9)
    (kk : ∀ (r : Int64) (u : S) (t : State) (H1 : Heap) (locs1 : List Loc), t.heap = H1 → s.vm.Alike t.vm → post r u → B u t → H.size ≤ H1.size → (∀ q : Nat, q < H.size → ¬ A1 q → H1[q]? = H[q]?) → va_S A0 H0 H1 locs1 → W p l e R s m args below meth c H1 locs1 (cells + mc) (slots + ms) Q (F0 m (pc + 3) ls (.long r :: rest))) : W p l e R s m args below meth c H locs cells slots Q (F0 m pc ls st0) := by
  intro T hT X
  rcases hr T hT X with ⟨v, st₀, t, T', L, h0, X', hL, e1, e2, ⟨⟨r, u, hv, hp, hb⟩, hF⟩, st⟩ | ⟨q, st₀, t, T', L, E, ce, h0, X', hL, e1, e2, ⟨u, hp, hb, hF⟩, hce, hcv, hcl, st⟩
  · cases hv
    obtain ⟨k1, k2, k3⟩ := vx_keep h0 e1 hS hA hf hL hF
    obtain ⟨t2, a1, b1⟩ := kk r u t T'.heap (locs ++ L) e1.symm (by rw [← e2]; exact X'.warmed.alike) hp hb k1 k2 k3 T' rfl X'
    exact ⟨t2, st t2 a1, b1⟩
  · obtain ⟨k1, k2, k3⟩ := vx_keep h0 e1 hS hAX hf hL hF
    obtain ⟨t2, a1, b1⟩ := kx E ce q u t T'.heap (locs ++ L) e1.symm (by rw [← e2]; exact X'.warmed.alike) hp hb k1 k2 k3 (by rw [e1]; exact hce) hcv hcl T' rfl X'
    exact ⟨t2, st.trans a1, b1⟩
theorem vx_callf {S SX : Type} {post : UInt32 → S → Prop} {px : SX → Prop} {B : S → State → Prop} {BX : String → SX → State → Prop} {AX : Nat → Prop} (hr : vx_Run p l e R s m args below meth c H locs cells slots mc ms (F0 m pc ls st0) rest (va_Qf post B A1 a) (vx_X px BX AX) free) (hS : va_S A0 H0 H locs) (hA : ∀ q, q < H.size → A1 q → A0 q) (hf : ∀ q, free q → A0 q) (hAX : ∀ q, q < H.size → AX q → A0 q)
    (kx : ∀ (E : String) (ce : Cell) (q9 : Addr) (u : SX) (t : State) (H1 : Heap) (locs1 : List Loc), t.heap = H1 → s.vm.Alike t.vm → px u → BX E u t → H.size ≤ H1.size → (∀ q : Nat, q < H.size → ¬ AX q → H1[q]? = H[q]?) → va_S A0 H0 H1 locs1 → H1[q9]? = some ce → ce.vm = .none → s.vm.findClass E = some ce.cls → vx_W p l e R s m args below meth c H1 locs1 (cells + mc) (slots + ms) Q (F0 m pc ls rest) q9)
    (kk : ∀ (r : UInt32) (u : S) (t : State) (H1 : Heap) (locs1 : List Loc), t.heap = H1 → s.vm.Alike t.vm → post r u → B u t → H.size ≤ H1.size → (∀ q : Nat, q < H.size → ¬ A1 q → H1[q]? = H[q]?) → va_S A0 H0 H1 locs1 → W p l e R s m args below meth c H1 locs1 (cells + mc) (slots + ms) Q (F0 m (pc + 3) ls (.float r :: rest))) : W p l e R s m args below meth c H locs cells slots Q (F0 m pc ls st0) := by
  intro T hT X
  rcases hr T hT X with ⟨v, st₀, t, T', L, h0, X', hL, e1, e2, ⟨⟨r, u, hv, hp, hb⟩, hF⟩, st⟩ | ⟨q, st₀, t, T', L, E, ce, h0, X', hL, e1, e2, ⟨u, hp, hb, hF⟩, hce, hcv, hcl, st⟩
  · cases hv
    obtain ⟨k1, k2, k3⟩ := vx_keep h0 e1 hS hA hf hL hF
    obtain ⟨t2, a1, b1⟩ := kk r u t T'.heap (locs ++ L) e1.symm (by rw [← e2]; exact X'.warmed.alike) hp hb k1 k2 k3 T' rfl X'
    exact ⟨t2, st t2 a1, b1⟩
  · obtain ⟨k1, k2, k3⟩ := vx_keep h0 e1 hS hAX hf hL hF
    obtain ⟨t2, a1, b1⟩ := kx E ce q u t T'.heap (locs ++ L) e1.symm (by rw [← e2]; exact X'.warmed.alike) hp hb k1 k2 k3 (by rw [e1]; exact hce) hcv hcl T' rfl X'
    exact ⟨t2, st.trans a1, b1⟩
theorem vx_calld {S SX : Type} {post : UInt64 → S → Prop} {px : SX → Prop} {B : S → State → Prop} {BX : String → SX → State → Prop} {AX : Nat → Prop} (hr : vx_Run p l e R s m args below meth c H locs cells slots mc ms (F0 m pc ls st0) rest (va_Qd post B A1 a) (vx_X px BX AX) free) (hS : va_S A0 H0 H locs) (hA : ∀ q, q < H.size → A1 q → A0 q) (hf : ∀ q, free q → A0 q) (hAX : ∀ q, q < H.size → AX q → A0 q)
    (kx : ∀ (E : String) (ce : Cell) (q9 : Addr) (u : SX) (t : State) (H1 : Heap) (locs1 : List Loc), t.heap = H1 → s.vm.Alike t.vm → px u → BX E u t → H.size ≤ H1.size → (∀ q : Nat, q < H.size → ¬ AX q → H1[q]? = H[q]?) → va_S A0 H0 H1 locs1 → H1[q9]? = some ce → ce.vm = .none → s.vm.findClass E = some ce.cls → vx_W p l e R s m args below meth c H1 locs1 (cells + mc) (slots + ms) Q (F0 m pc ls rest) q9)
    (kk : ∀ (r : UInt64) (u : S) (t : State) (H1 : Heap) (locs1 : List Loc), t.heap = H1 → s.vm.Alike t.vm → post r u → B u t → H.size ≤ H1.size → (∀ q : Nat, q < H.size → ¬ A1 q → H1[q]? = H[q]?) → va_S A0 H0 H1 locs1 → W p l e R s m args below meth c H1 locs1 (cells + mc) (slots + ms) Q (F0 m (pc + 3) ls (.double r :: rest))) : W p l e R s m args below meth c H locs cells slots Q (F0 m pc ls st0) := by
  intro T hT X
  rcases hr T hT X with ⟨v, st₀, t, T', L, h0, X', hL, e1, e2, ⟨⟨r, u, hv, hp, hb⟩, hF⟩, st⟩ | ⟨q, st₀, t, T', L, E, ce, h0, X', hL, e1, e2, ⟨u, hp, hb, hF⟩, hce, hcv, hcl, st⟩
  · cases hv
    obtain ⟨k1, k2, k3⟩ := vx_keep h0 e1 hS hA hf hL hF
    obtain ⟨t2, a1, b1⟩ := kk r u t T'.heap (locs ++ L) e1.symm (by rw [← e2]; exact X'.warmed.alike) hp hb k1 k2 k3 T' rfl X'
    exact ⟨t2, st t2 a1, b1⟩
  · obtain ⟨k1, k2, k3⟩ := vx_keep h0 e1 hS hAX hf hL hF
    obtain ⟨t2, a1, b1⟩ := kx E ce q u t T'.heap (locs ++ L) e1.symm (by rw [← e2]; exact X'.warmed.alike) hp hb k1 k2 k3 (by rw [e1]; exact hce) hcv hcl T' rfl X'
    exact ⟨t2, st.trans a1, b1⟩
theorem vx_callv {S SX : Type} {post : S → Prop} {px : SX → Prop} {B : S → State → Prop} {BX : String → SX → State → Prop} {AX : Nat → Prop} (hr : vx_Run p l e R s m args below meth c H locs cells slots mc ms (F0 m pc ls st0) rest (va_Qv post B A1 a) (vx_X px BX AX) free) (hS : va_S A0 H0 H locs) (hA : ∀ q, q < H.size → A1 q → A0 q) (hf : ∀ q, free q → A0 q) (hAX : ∀ q, q < H.size → AX q → A0 q)
    (kx : ∀ (E : String) (ce : Cell) (q9 : Addr) (u : SX) (t : State) (H1 : Heap) (locs1 : List Loc), t.heap = H1 → s.vm.Alike t.vm → px u → BX E u t → H.size ≤ H1.size → (∀ q : Nat, q < H.size → ¬ AX q → H1[q]? = H[q]?) → va_S A0 H0 H1 locs1 → H1[q9]? = some ce → ce.vm = .none → s.vm.findClass E = some ce.cls → vx_W p l e R s m args below meth c H1 locs1 (cells + mc) (slots + ms) Q (F0 m pc ls rest) q9)
    (kk : ∀ (u : S) (t : State) (H1 : Heap) (locs1 : List Loc), t.heap = H1 → s.vm.Alike t.vm → post u → B u t → H.size ≤ H1.size → (∀ q : Nat, q < H.size → ¬ A1 q → H1[q]? = H[q]?) → va_S A0 H0 H1 locs1 → W p l e R s m args below meth c H1 locs1 (cells + mc) (slots + ms) Q (F0 m (pc + 3) ls (rest))) : W p l e R s m args below meth c H locs cells slots Q (F0 m pc ls st0) := by
  intro T hT X
  rcases hr T hT X with ⟨v, st₀, t, T', L, h0, X', hL, e1, e2, ⟨⟨u, hv, hp, hb⟩, hF⟩, st⟩ | ⟨q, st₀, t, T', L, E, ce, h0, X', hL, e1, e2, ⟨u, hp, hb, hF⟩, hce, hcv, hcl, st⟩
  · cases hv
    obtain ⟨k1, k2, k3⟩ := vx_keep h0 e1 hS hA hf hL hF
    obtain ⟨t2, a1, b1⟩ := kk u t T'.heap (locs ++ L) e1.symm (by rw [← e2]; exact X'.warmed.alike) hp hb k1 k2 k3 T' rfl X'
    exact ⟨t2, st t2 a1, b1⟩
  · obtain ⟨k1, k2, k3⟩ := vx_keep h0 e1 hS hAX hf hL hF
    obtain ⟨t2, a1, b1⟩ := kx E ce q u t T'.heap (locs ++ L) e1.symm (by rw [← e2]; exact X'.warmed.alike) hp hb k1 k2 k3 (by rw [e1]; exact hce) hcv hcl T' rfl X'
    exact ⟨t2, st.trans a1, b1⟩
/-- caught by the row x of this method's table; the rows ahead don't take it -/
theorem vx_catch {own name : String} {E : String} {ce : Cell} {q : Addr} (hown : s.vm.findClass own = some m.cls) (pre : List ExceptionTableEntry) (x : ExceptionTableEntry) (suf : List ExceptionTableEntry) (hsplit : c.exceptionTable.toList = pre ++ x :: suf)
    (hpass : ∀ z ∈ pre, covers z pc = false ∨ (z.catchType ≠ 0 ∧ ∃ nm : String, (Cond.classLink own z.catchType nm).before args s = true ∧ va_Nc E nm s)) (hx : covers x pc = true) (h0 : x.catchType ≠ 0)
    (hlink : (Cond.classLink own x.catchType name).before args s = true) (hcast : (Cond.castable E name).before args s = true) (hcell : H[q]? = some ce) (hv : ce.vm = .none) (hcl : s.vm.findClass E = some ce.cls)
    (kk : W p l e R s m args below meth c H locs cells slots Q (F0 m x.handlerPc ls [.ref q])) : vx_W p l e R s m args below meth c H locs cells slots Q (F0 m pc ls rest) q := by
  intro T hT X
  have hpl : e.platform.magicAccessors = ({} : Platform).magicAccessors := by rw [X.admits.platform]
  obtain ⟨c3, c4, hc3, hc4, hasg⟩ := Cond.castable_spec hcast
  cases Option.some.inj (hc3.symm.trans hcl)
  obtain ⟨c5, hc5, hcl5⟩ := Cond.classLink_spec hown hlink e.platform hpl
  cases Option.some.inj (hc4.symm.trans hc5)
  obtain ⟨vm', X', st⟩ := X.thenCaughtThrough q (g := F0 m pc ls rest) rfl (Steps.refl _) (by rw [hT]; exact hcell) (by rw [hv]; rfl) (by obtain ⟨k9, h9, -⟩ := Vm.findClass_spec hcl; exact ⟨k9, h9⟩) pre x suf hsplit
    (fun z hz => by
      rcases hpass z hz with h | ⟨hz0, nm, hl1, hn1⟩
      · exact Or.inl h
      · obtain ⟨c6, hc6, hcl6⟩ := Cond.classLink_spec hown hl1 e.platform hpl
        obtain ⟨a8, b8, h1, h2, h3⟩ := hn1
        cases Option.some.inj (h1.symm.trans hcl)
        cases Option.some.inj (h2.symm.trans hc6)
        exact Or.inr ⟨hz0, _, hcl6, h3⟩) hx (Or.inr ⟨h0, c4, hcl5, hasg⟩)
  obtain ⟨t, a1, b1⟩ := kk (T.setVm vm') hT X'
  exact ⟨t, st.trans a1, b1⟩
end Rows
section Ends
variable {p : Program} {l : Launch} {e : Env} {R : Room} {s : State} {m : MethodId} {args : Array Value} {below : List Frame} {meth : Method} {c : Code} {H : Heap} {locs : List Loc} {cells slots : Nat} {Q : State → Prop}
variable {mc ms : Nat} {free : Addr → Prop} {A0 A1 : Nat → Prop} {H0 : Heap} {a : Array Value} {ls : Array Slot} {st0 rest : List Value}
variable {Qc : Array Value → State → Outcome → State → Prop} {XC : String → State → State → Prop}
/-- what a body that may throw owes at its end -/
def vx_MQ (below : List Frame) (Qc : Array Value → State → Outcome → State → Prop) (XC : String → State → State → Prop) (a : Array Value) (s : State) (mc ms : Nat) (free : Addr → Prop) : State → Prop := fun t =>
  ∃ o, t.status = .running ∧ Ended t below o ∧ vx_Q Qc XC mc ms free a s o t
theorem vx_ret {g : JFrame} {mc ms : Nat} (k : W p l e R s m args below meth c H locs cells slots (MQ below Qc args s mc ms free) g) : W p l e R s m args below meth c H locs cells slots (vx_MQ below Qc XC args s mc ms free) g := by
  intro T hT X
  obtain ⟨t, a1, o, b1, b2, b3, b4⟩ := k T hT X
  exact ⟨t, a1, o, b1, b2, Or.inl ⟨b3, b4⟩⟩
/-- not caught here: it goes on to the caller -/
theorem vx_widen {g : JFrame} {q : Addr} {k n : Nat} (h1 : cells ≤ k) (h2 : slots ≤ n) (kk : vx_W p l e R s m args below meth c H locs k n Q g q) : vx_W p l e R s m args below meth c H locs cells slots Q g q := fun T hT X => kk T hT (stand_widen X h1 h2)
theorem vx_out {pc : Nat} {E : String} {ce : Cell} {q : Addr} {mc ms : Nat} (hout : ∀ x ∈ c.exceptionTable.toList, covers x pc = false) (hlocks : meth.locks = false) (hcell : H[q]? = some ce) (hv : ce.vm = .none) (hcl : s.vm.findClass E = some ce.cls)
    (hx : ∀ t : State, t.heap = H → s.vm.Alike t.vm → XC E s t) (hf : ∀ z ∈ locs, free z.base) (hc : cells ≤ mc) (hs : slots ≤ ms) :
    vx_W p l e R s m args below meth c H locs cells slots (vx_MQ below Qc XC args s mc ms free) (F0 m pc ls rest) q := by
  intro T hT X
  obtain ⟨st1, hrun, hend, hW, hsm⟩ := X.leaveThrown q (g := F0 m pc ls rest) rfl rfl rfl hout hlocks
  have hcell9 : (T.setFrames (.throwing q :: below)).heap[q]? = some ce := by
    show T.heap[q]? = some ce
    rw [hT]; exact hcell
  exact ⟨_, st1, .threw q, hrun, hend, Or.inr ⟨q, rfl, E, ce, locs, hx _ hT hW.alike, hcell9, hv, hcl, hW, hsm.mono hc hs, hf⟩⟩
theorem vx_frame {U : State} {k n : Nat} (h : s.sameButNew ({ U with vm := s.vm } : State) locs k n) : s.heap.size ≤ U.heap.size ∧ ∀ q : Nat, q < s.heap.size → (∀ z ∈ locs, z.base ≠ q) → U.heap[q]? = s.heap[q]? := by
  obtain ⟨-, h2, -, -, -, h6⟩ := h
  refine ⟨h2, fun q hq hz => ?_⟩
  obtain ⟨c9, e1, e2, e3, e4⟩ := h6 q _ (Array.getElem?_eq_getElem hq)
  have hs : c9.slots = (s.heap[q]).slots := Array.ext_getElem? fun i => e4 i fun hm => hz _ hm rfl
  have h9 : c9 = s.heap[q] := by
    rw [hs] at e2
    exact e2
  have e5 : U.heap[q]? = some c9 := e1
  rw [e5, h9, Array.getElem?_eq_getElem hq]
/-- the words of a throw but the four that speak of the heap -/
def vx_no (w : Cond) : Bool := decide (w ≠ .isRef (.static Bundle.tN "UNASSIGNED_STACK" Bundle.steD)) && decide (w ≠ .isRef (.static Bundle.tN "SUPPRESSED_SENTINEL" Bundle.listD)) && decide (w ≠ .laysStatic Bundle.tN "UNASSIGNED_STACK" Bundle.steD) && decide (w ≠ .laysStatic Bundle.tN "SUPPRESSED_SENTINEL" Bundle.listD)
def vx_at0 (own : String) (ic : Nat) (X : String) (names : List String) : List Cond := (Bundle.ownAtoms0 own ic X names).filter vx_no
def vx_atS (own : String) (ic : Nat) (X : String) (names : List String) : List Cond := (Bundle.ownAtoms own ic X names).filter vx_no
/-- a word that the tables alone decide, or a good one -/
def vx_ot (w : Cond) : Bool := w.onTables || goodWord w
theorem vx_ot_at {args a' : Array Value} {s U : State} {w : Cond} (hW : s.WarmedH U.vm) (hvm : s.vm = U.vm) (hg : vx_ot w = true) (h : w.before args s = true) : w.before a' U = true := by
  simp only [vx_ot, Bool.or_eq_true] at hg
  rcases hg with hg | hg
  · exact va_tabs hg hvm h
  · exact word_at hW (good_of_word hg) h
/-- a list's words: the good ones out of the method's own list, the others by premises of their own -/
theorem vx_hat {args : Array Value} {s : State} {L B : List Cond} (h1 : ∀ w ∈ L.filter goodWord, w.before args s = true) (h2 : ∀ w ∈ L.filter (fun w => !goodWord w), w ∈ B) (h3 : ∀ w ∈ B, w.before args s = true) : ∀ w ∈ L, w.before args s = true := by
  intro w hw
  by_cases g : goodWord w = true
  · exact h1 w (List.mem_filter.mpr ⟨hw, g⟩)
  · refine h3 w (h2 w (List.mem_filter.mpr ⟨hw, ?_⟩))
    show (!goodWord w) = true
    cases hgw : goodWord w
    · rfl
    · exact absurd hgw g
theorem vx_c {args : Array Value} {s : State} {w : Cond} {B : List Cond} (h : w.before args s = true) (t : ∀ w ∈ B, w.before args s = true) : ∀ w' ∈ w :: B, w'.before args s = true := fun w' h' => (List.mem_cons.mp h').elim (fun e => by rw [e]; exact h) (t w')
theorem vx_n {args : Array Value} {s : State} : ∀ w ∈ ([] : List Cond), w.before args s = true := fun _ h => nomatch h
theorem vx_own {args : Array Value} {s : State} {L : List Cond} (h1 : ∀ w ∈ L.filter vx_no, w.before args s = true)
    (hU : (Cond.isRef (.static Bundle.tN "UNASSIGNED_STACK" Bundle.steD)).before args s = true) (hN : (Cond.isRef (.static Bundle.tN "SUPPRESSED_SENTINEL" Bundle.listD)).before args s = true)
    (lU : (Cond.laysStatic Bundle.tN "UNASSIGNED_STACK" Bundle.steD).before args s = true) (lN : (Cond.laysStatic Bundle.tN "SUPPRESSED_SENTINEL" Bundle.listD).before args s = true) : ∀ w ∈ L, w.before args s = true := by
  intro w hw
  by_cases e1 : w = .isRef (.static Bundle.tN "UNASSIGNED_STACK" Bundle.steD)
  · rw [e1]; exact hU
  · by_cases e2 : w = .isRef (.static Bundle.tN "SUPPRESSED_SENTINEL" Bundle.listD)
    · rw [e2]; exact hN
    · by_cases e3 : w = .laysStatic Bundle.tN "UNASSIGNED_STACK" Bundle.steD
      · rw [e3]; exact lU
      · by_cases e4 : w = .laysStatic Bundle.tN "SUPPRESSED_SENTINEL" Bundle.listD
        · rw [e4]; exact lN
        · exact h1 w (List.mem_filter.mpr ⟨hw, by unfold vx_no; rw [decide_eq_true e1, decide_eq_true e2, decide_eq_true e3, decide_eq_true e4]; rfl⟩)
/-- where a static field lies, its class's statics cell in H -/
def vx_L (C n d : String) (A : Nat → Prop) (U : State) (H : Heap) : Prop := ∃ (c : ClassId) (k : Class) (i : Nat) (f : Field) (a : Nat) (cell : Cell), U.vm.findClass C = some c ∧ U.fieldFound? C n d = some (c, k, i, f) ∧ f.isStatic = true ∧ k.statics = some a ∧ H[a]? = some cell ∧ cell.vm.isStatics = true ∧ cell.cls = c ∧ f.slot < cell.slots.size ∧ k.staticTypes[f.slot]? = some f.type ∧ ¬ A a
theorem vx_L.moved {C n d : String} {A : Nat → Prop} {u U : State} {H : Heap} (hvm : u.vm.Alike U.vm) (h : vx_L C n d A u H) : vx_L C n d A U H := by
  obtain ⟨c, k, i, f, a, cell, h1, h2, h3, h4, h5, h6, h7, h8, h9, h10⟩ := h
  obtain ⟨k', hi', he⟩ := State.fieldFound?_setVm hvm h2
  exact ⟨c, k', i, f, a, cell, by rw [hvm.findClass]; exact h1, hi', h3, by rw [he]; exact h4, h5, h6, h7, h8, by rw [he]; exact h9, h10⟩
theorem vx_L.kept {C n d : String} {A : Nat → Prop} {U : State} {H H1 : Heap} (h : vx_L C n d A U H) (hq : ∀ a : Nat, a < H.size → ¬ A a → H1[a]? = H[a]?) : vx_L C n d A U H1 := by
  obtain ⟨c, k, i, f, a, cell, h1, h2, h3, h4, h5, h6, h7, h8, h9, h10⟩ := h
  exact ⟨c, k, i, f, a, cell, h1, h2, h3, h4, by rw [hq a (Array.getElem?_eq_some_iff.mp h5).1 h10]; exact h5, h6, h7, h8, h9, h10⟩
theorem vx_L.narrow {C n d : String} {A B : Nat → Prop} {U : State} {H : Heap} (h : vx_L C n d A U H) (hAB : ∀ q, B q → A q) : vx_L C n d B U H := by
  obtain ⟨c, k, i, f, a, cell, h1, h2, h3, h4, h5, h6, h7, h8, h9, h10⟩ := h
  exact ⟨c, k, i, f, a, cell, h1, h2, h3, h4, h5, h6, h7, h8, h9, fun z => h10 (hAB _ z)⟩
theorem vx_L.word {C n d : String} {A : Nat → Prop} {s : State} {args : Array Value} (h : vx_L C n d A s s.heap) : (Cond.laysStatic C n d).before args s = true := by
  obtain ⟨c, k, i, f, a, cell, h1, h2, h3, h4, h5, h6, h7, h8, h9, -⟩ := h
  show (Cond.laysStatic C n d).holds args s none s [] = true
  exact Cond.laysStatic_of h1 h2 h3 h4 h5 h6 h7 h8 h9
/-- .. and what it holds: null or some reference -/
def vx_Zq (C n d : String) (A : Nat → Prop) (U : State) (H : Heap) : Prop := va_Zq C n d A U H ∧ vx_L C n d A U H
theorem vx_Zq.moved {C n d : String} {A : Nat → Prop} {u U : State} {H : Heap} (hvm : u.vm.Alike U.vm) (h : vx_Zq C n d A u H) : vx_Zq C n d A U H := ⟨va_Zq.moved hvm h.1, vx_L.moved hvm h.2⟩
theorem vx_Zq.kept {C n d : String} {A : Nat → Prop} {U : State} {H H1 : Heap} (h : vx_Zq C n d A U H) (hq : ∀ a : Nat, a < H.size → ¬ A a → H1[a]? = H[a]?) : vx_Zq C n d A U H1 := ⟨va_Zq.kept h.1 hq, vx_L.kept h.2 hq⟩
theorem vx_Zq.narrow {C n d : String} {A B : Nat → Prop} {U : State} {H : Heap} (h : vx_Zq C n d A U H) (hAB : ∀ q, B q → A q) : vx_Zq C n d B U H := ⟨va_Zq.narrow h.1 hAB, vx_L.narrow h.2 hAB⟩
theorem vx_Zqof {args : Array Value} {s : State} {C n d : String} {A : Nat → Prop} (hl : (Cond.laysStatic C n d).before args s = true) (hini : (Cond.initialized C).before args s = true) (h : (Cond.isRef (.static C n d)).before args s = true) (hA : ∀ a : Nat, a < s.heap.size → ¬ A a) : vx_Zq C n d A s s.heap := by
  refine ⟨va_Zqof hl hini h hA, ?_⟩
  obtain ⟨c, k, i, f, a, cell, h1, h2, h3, h4, h5, h6, h7, h8, h9⟩ := Cond.laysStatic_spec hl
  exact ⟨c, k, i, f, a, cell, h1, h2, h3, h4, h5, h6, h7, h8, h9, hA a (Array.getElem?_eq_some_iff.mp h5).1⟩
theorem vx_isRef {C n d : String} {v : Value} {A : Nat → Prop} {s : State} {args : Array Value} (h : va_Z C n d v A s s.heap) (hv : v.isRef = true) : (Cond.isRef (.static C n d)).before args s = true := by
  obtain ⟨cf, kf, fi, f, a, cell, h1, h2, h3, h4, h5, h6, h7, -⟩ := h
  have he : (Term.static C n d).eval args s none [] s = some v := by
    simp [Term.eval, State.fieldNamed?, h1, h2, h4, h5, h6, h7]
  simp only [Cond.before, Cond.holds, Cond.value, he]
  cases v <;> simp_all [Value.isRef]
theorem vx_isRefq {C n d : String} {A : Nat → Prop} {s : State} {args : Array Value} (h : va_Zq C n d A s s.heap) : (Cond.isRef (.static C n d)).before args s = true := by
  rcases h with h | ⟨t, h⟩
  · exact vx_isRef h rfl
  · exact vx_isRef h rfl
/-- the same frame, seen from here: as if the method were called anew in this heap -/
theorem vx_rebase {T : State} (X : Stand p l e R s m args below meth c T locs cells slots) {R' : Room} (hf : R'.frames ≤ R.frames) (hl : R'.locals ≤ R.locals) (hc : cells + R'.cells ≤ R.cells) (hs : slots + R'.slots ≤ R.slots) :
    Stand p l e R' ((T.setVm s.vm).setFrames (.invoking m args :: below)) m args below meth c T [] 0 0 := by
  have htop : (T.setVm s.vm).topJava?.isSome := X.here.top
  have hF : ((T.setVm s.vm).setFrames (.invoking m args :: below)).frames = .invoking m args :: below := State.frames_setFrames _ (State.cur_lt_of_top htop)
  obtain ⟨g₀, hg0⟩ := Option.isSome_iff_exists.mp htop
  obtain ⟨r, hr⟩ := State.topJava?_eq_some.mp hg0
  have hl9 : e.platform.stackLimits (T.setVm s.vm).me = e.platform.stackLimits s.me := X.limits
  have hb9 : (T.setVm s.vm).me.stackBytes = s.me.stackBytes := X.bytes
  refine ⟨X.admits, X.cas, X.clock, hF, ?_, X.hears, X.method, X.code, X.here, X.tail, X.warmed, ?_, ?_, ?_⟩
  · have h := X.room
    have hU : ((T.setVm s.vm).setFrames (.invoking m args :: below)).localsInUse = s.localsInUse := by
      rw [State.localsInUse_invoking hF (meth := meth) (c := c) X.method X.code, State.localsInUse_invoking X.frames X.method X.code]
    simp only [State.hasRoom, Bool.and_eq_true, decide_eq_true_eq] at h ⊢
    obtain ⟨⟨⟨⟨h1, h2, h3, h4, h5, h6⟩, h7⟩, h8⟩, h9⟩ := h
    rw [X.frames, List.length_cons] at h2 h3
    have q1 := X.heapSize
    have q2 := X.used
    simp only [hF, hU, List.length_cons, State.stackLimits_setFrames, State.stackBytes_setFrames, hl9, hb9]
    refine ⟨⟨⟨⟨by omega, by omega, by omega, by omega, by omega, h6⟩, ?_⟩, ?_⟩, X.book⟩
    · show T.heap.size + R'.cells ≤ e.platform.maxCells
      omega
    · show T.slotsUsed + R'.slots ≤ e.platform.maxSlots
      omega
  · rw [State.stackLimits_setFrames]; rfl
  · rw [State.stackBytes_setFrames]; rfl
  · refine ⟨?_, Nat.le_refl _, Nat.le_refl _, ?_, ?_, fun a c9 h9 => ⟨c9, h9, rfl, rfl, fun _ _ => rfl⟩⟩
    · obtain ⟨t, ht, -⟩ := State.frames_cons hr
      show T.setVm s.vm = { ((T.setVm s.vm).setFrames (.invoking m args :: below)).setFrames (T.setVm s.vm).frames with heap := T.heap, slotsUsed := T.slotsUsed }
      rw [State.setFrames_setFrames, State.setFrames_self ht]
      rfl
    · show T.slotsUsed = T.slotsUsed + ((T.heap.toList.drop T.heap.size).map (·.slots.size)).sum
      rw [List.drop_eq_nil_of_le (Nat.le_of_eq Array.length_toList)]
      rfl
    · show ((T.heap.toList.drop T.heap.size).map (·.slots.size)).sum ≤ 0
      rw [List.drop_eq_nil_of_le (Nat.le_of_eq Array.length_toList)]
      exact Nat.le_refl _
/-- 'throw new E()': new; dup; invokespecial; athrow -/
theorem vx_throw0 {cc : ByteArray} {pc : Nat} (hexec : p.tables.exec = Jvm.exec) (hb : c.code = cc) (hl : l.stackTraces = false) {own cls : String} {names : List String} {ik ic mc ms : Nat} {A : Nat → Prop}
    (hown : s.vm.findClass own = some m.cls) (hcls : Bundle.fit cls = true) (hnames : ∀ n ∈ names, Bundle.fit n = true)
    (hk : (Cond.classLink own ik cls).before args s = true) (hini : (Cond.initialized cls).before args s = true) (hat : ∀ w ∈ vx_at0 own ic cls names, w.before args s = true)
    (hgood : ∀ w ∈ Cond.classLink own ik cls :: Cond.initialized cls :: vx_at0 own ic cls names, vx_ot w = true)
    (hU : vx_Zq Bundle.tN "UNASSIGNED_STACK" Bundle.steD A s s.heap) (hN : vx_Zq Bundle.tN "SUPPRESSED_SENTINEL" Bundle.listD A s s.heap) (hS : va_S A s.heap H locs) (hsize : ls.size = c.maxLocals)
    (d0 : decode cc pc = .ok (.new ik, 3)) (d3 : decode cc (pc + 3) = .ok (.dup, 1)) (d4 : decode cc (pc + 4) = .ok (.invokespecial ic, 3)) (d7 : decode cc (pc + 7) = .ok (.athrow, 1))
    (hout : ∀ x ∈ c.exceptionTable.toList, covers x (pc + 7) = false)
    (hRframes : names.length + 3 < R.frames) (hRlocals : (rest.map fun v => v.category).sum + (13 * (names.length + 1) + 42) ≤ R.locals) (hRcells : cells + 1 ≤ R.cells) (hRslots : slots + 6 ≤ R.slots) (hlocks : meth.locks = false)
    (hx : ∀ t : State, s.vm.Alike t.vm → H.size ≤ t.heap.size → (∀ q : Nat, q < H.size → t.heap[q]? = H[q]?) → XC cls s t)
    (hf : ∀ z ∈ locs, free z.base) (hc : cells + 1 ≤ mc) (hs : slots + 6 ≤ ms) :
    W p l e R s m args below meth c H locs cells slots (vx_MQ below Qc XC args s mc ms free) (F0 m pc ls rest) := by
  intro T hT X
  have htr : e.platform.stackTraces = false := (show e.platform.stackTraces = l.stackTraces by rw [X.admits.platform]).trans hl
  have Y := vx_rebase X (R' := { frames := R.frames, locals := R.locals, cells := 1, slots := 6 }) (Nat.le_refl _) (Nat.le_refl _) hRcells hRslots
  obtain ⟨s', hA⟩ : ∃ z, z = (T.setVm s.vm).setFrames (.invoking m args :: below) := ⟨_, rfl⟩
  rw [← hA] at Y
  have hvm : s'.vm = s.vm := by rw [hA]; rfl
  have hhp : s'.heap = H := by rw [hA]; exact hT
  have hW0 : s.WarmedH s'.vm := by rw [hvm]; exact State.WarmedH.refl s
  have hat' : ∀ w ∈ vx_at0 own ic cls names, w.before args s' = true := fun w hw => vx_ot_at hW0 hvm.symm (hgood w (List.mem_cons_of_mem _ (List.mem_cons_of_mem _ hw))) (hat w hw)
  have hk' : (Cond.classLink own ik cls).before args s' = true := vx_ot_at hW0 hvm.symm (hgood _ List.mem_cons_self) hk
  have hini' : (Cond.initialized cls).before args s' = true := vx_ot_at hW0 hvm.symm (hgood _ (List.mem_cons_of_mem _ List.mem_cons_self)) hini
  have hU' : vx_Zq Bundle.tN "UNASSIGNED_STACK" Bundle.steD A s' s'.heap := by rw [hhp]; exact vx_Zq.moved hW0.alike (hU.kept hS.2.1)
  have hN' : vx_Zq Bundle.tN "SUPPRESSED_SENTINEL" Bundle.listD A s' s'.heap := by rw [hhp]; exact vx_Zq.moved hW0.alike (hN.kept hS.2.1)
  have h : ∀ w ∈ Bundle.ownAtoms0 own ic cls names, w.before args s' = true := vx_own hat' (vx_isRefq hU'.1) (vx_isRefq hN'.1) hU'.2.word hN'.2.word
  have hown' : s'.vm.findClass own = some m.cls := by rw [hvm]; exact hown
  have hins : (Cond.instantiable cls 6).before args s' = true := h _ (by simp [Bundle.ownAtoms0])
  obtain ⟨vm₁, cX, kX, hfX, hkX, -, -, X₁, st1⟩ := Y.newCold hexec (own := own) (C := cls) (index := ik) (n := 6) hown' hk' hins hini'
    (g := F0 m pc ls rest) rfl (by rw [hb]; exact d0) (Nat.le_refl _) (Nat.le_refl _)
  generalize hT1 : (T.setVm vm₁).pushCell { cls := cX, slots := kX.instanceTypes.map defaultValue, vm := .none } = T1 at X₁ st1
  have hcat : (Value.ref T.heap.size).category = 1 := rfl
  have hcellA : T1.heap[T.heap.size]? = some (freshCell cX kX) := by rw [← hT1]; exact State.heap_pushCell_size _ _
  have d3' : decode c.code (pc + 3) = .ok (.dup, 1) := by rw [hb]; exact d3
  obtain ⟨U, hsteps, hrun, hend, hW, hsame, ce, hce, hO⟩ := X₁.ctorThrow0 hexec htr (own := own) (cls := cls) (names := names) (ic := ic) hown' hcls hnames h (fun x hx => nomatch hx) hfX hkX hcellA (by rw [hhp, hT]; exact Nat.le_refl _)
    (g := { method := m, pc := pc + 4, locals := ls, stack := .ref T.heap.size :: .ref T.heap.size :: rest, locked := none }) rfl hsize rfl rfl (rest := rest) rfl
    (by rw [hb]; exact d4) (by rw [hb]; exact d7) hout hRframes (by simp only [List.map_cons, List.sum_cons, hcat]; omega) hlocks
  obtain ⟨f1, f2⟩ := vx_frame hsame
  rw [hhp] at f1 f2
  have hWs : s.WarmedH U.vm := State.WarmedH.trans hW0 hW
  have hcl : s.vm.findClass cls = some ce.cls := by
    have h9 := hO.cls
    rw [hvm] at h9
    exact h9
  have hall : s.sameButNew ({ U with vm := s.vm } : State) locs mc ms := by
    subst hA
    obtain ⟨e1, e2⟩ := hsame
    rw [State.setFrames_setFrames] at e1
    have h2 : (T.setVm s.vm).sameButNew ({ U with vm := s.vm } : State) [] (0 + 1) (0 + 6) := ⟨e1, e2⟩
    have h3 := X.same.trans h2
    rw [List.append_nil] at h3
    exact h3.mono hc hs
  refine ⟨U, ?_, .threw T.heap.size, hrun, hend, Or.inr ⟨T.heap.size, rfl, cls, ce, locs, hx U hWs.alike f1 (fun q hq => f2 q hq (fun z hz => nomatch hz)), hce, hO.vm, hcl, hWs, hall, hf⟩⟩
  refine st1 _ ?_
  show Steps p.tables e below (T1.setTop { method := m, pc := pc + 3, locals := ls, stack := .ref T.heap.size :: rest, locked := none }) _
  jvm_step X₁.here [X₁.here.top, hexec, d3', Value.category]
  exact hsteps
/-- 'throw new E("text")': new; dup; ldc; invokespecial; athrow -/
theorem vx_throwS {cc : ByteArray} {pc : Nat} (hexec : p.tables.exec = Jvm.exec) (hb : c.code = cc) (hl : l.stackTraces = false) {own cls text : String} {names : List String} {ik is ic mc ms sa : Nat} {A : Nat → Prop}
    (hown : s.vm.findClass own = some m.cls) (hcls : Bundle.fit cls = true) (hnames : ∀ n ∈ names, Bundle.fit n = true)
    (hk : (Cond.classLink own ik cls).before args s = true) (hini : (Cond.initialized cls).before args s = true) (hstr : vk_R own is text sa s) (hat : ∀ w ∈ vx_atS own ic cls names, w.before args s = true)
    (hgood : ∀ w ∈ Cond.classLink own ik cls :: Cond.initialized cls :: vx_atS own ic cls names, vx_ot w = true)
    (hU : vx_Zq Bundle.tN "UNASSIGNED_STACK" Bundle.steD A s s.heap) (hN : vx_Zq Bundle.tN "SUPPRESSED_SENTINEL" Bundle.listD A s s.heap) (hS : va_S A s.heap H locs) (hsize : ls.size = c.maxLocals)
    (d0 : decode cc pc = .ok (.new ik, 3)) (d3 : decode cc (pc + 3) = .ok (.dup, 1)) (d4 : decode cc (pc + 4) = .ok (.ldc is, 2)) (d6 : decode cc (pc + 6) = .ok (.invokespecial ic, 3)) (d9 : decode cc (pc + 9) = .ok (.athrow, 1))
    (hout : ∀ x ∈ c.exceptionTable.toList, covers x (pc + 9) = false)
    (hRframes : names.length + 3 < R.frames) (hRlocals : (rest.map fun v => v.category).sum + (13 * (names.length + 1) + 43) ≤ R.locals) (hRcells : cells + 1 ≤ R.cells) (hRslots : slots + 6 ≤ R.slots) (hlocks : meth.locks = false)
    (hx : ∀ t : State, s.vm.Alike t.vm → H.size ≤ t.heap.size → (∀ q : Nat, q < H.size → t.heap[q]? = H[q]?) → XC cls s t)
    (hf : ∀ z ∈ locs, free z.base) (hc : cells + 1 ≤ mc) (hs : slots + 6 ≤ ms) :
    W p l e R s m args below meth c H locs cells slots (vx_MQ below Qc XC args s mc ms free) (F0 m pc ls rest) := by
  intro T hT X
  have htr : e.platform.stackTraces = false := (show e.platform.stackTraces = l.stackTraces by rw [X.admits.platform]).trans hl
  have Y := vx_rebase X (R' := { frames := R.frames, locals := R.locals, cells := 1, slots := 6 }) (Nat.le_refl _) (Nat.le_refl _) hRcells hRslots
  obtain ⟨s', hA⟩ : ∃ z, z = (T.setVm s.vm).setFrames (.invoking m args :: below) := ⟨_, rfl⟩
  rw [← hA] at Y
  have hvm : s'.vm = s.vm := by rw [hA]; rfl
  have hhp : s'.heap = H := by rw [hA]; exact hT
  have hW0 : s.WarmedH s'.vm := by rw [hvm]; exact State.WarmedH.refl s
  have hat' : ∀ w ∈ vx_atS own ic cls names, w.before args s' = true := fun w hw => vx_ot_at hW0 hvm.symm (hgood w (List.mem_cons_of_mem _ (List.mem_cons_of_mem _ hw))) (hat w hw)
  have hk' : (Cond.classLink own ik cls).before args s' = true := vx_ot_at hW0 hvm.symm (hgood _ List.mem_cons_self) hk
  have hini' : (Cond.initialized cls).before args s' = true := vx_ot_at hW0 hvm.symm (hgood _ (List.mem_cons_of_mem _ List.mem_cons_self)) hini
  have hU' : vx_Zq Bundle.tN "UNASSIGNED_STACK" Bundle.steD A s' s'.heap := by rw [hhp]; exact vx_Zq.moved hW0.alike (hU.kept hS.2.1)
  have hN' : vx_Zq Bundle.tN "SUPPRESSED_SENTINEL" Bundle.listD A s' s'.heap := by rw [hhp]; exact vx_Zq.moved hW0.alike (hN.kept hS.2.1)
  have h : ∀ w ∈ Bundle.ownAtoms own ic cls names, w.before args s' = true := vx_own hat' (vx_isRefq hU'.1) (vx_isRefq hN'.1) hU'.2.word hN'.2.word
  have hown' : s'.vm.findClass own = some m.cls := by rw [hvm]; exact hown
  have hins : (Cond.instantiable cls 6).before args s' = true := h _ (by simp [Bundle.ownAtoms])
  obtain ⟨vm₁, cX, kX, hfX, hkX, -, -, X₁, st1⟩ := Y.newCold hexec (own := own) (C := cls) (index := ik) (n := 6) hown' hk' hins hini'
    (g := F0 m pc ls rest) rfl (by rw [hb]; exact d0) (Nat.le_refl _) (Nat.le_refl _)
  generalize hT1 : (T.setVm vm₁).pushCell { cls := cX, slots := kX.instanceTypes.map defaultValue, vm := .none } = T1 at X₁ st1
  have hcat : (Value.ref T.heap.size).category = 1 := rfl
  have hcellA : T1.heap[T.heap.size]? = some (freshCell cX kX) := by rw [← hT1]; exact State.heap_pushCell_size _ _
  have d3' : decode c.code (pc + 3) = .ok (.dup, 1) := by rw [hb]; exact d3
  have d4' : decode c.code (pc + 4) = .ok (.ldc is, 2) := by rw [hb]; exact d4
  have hstr' : vk_R own is text sa s' := vk_R.warm hW0 hstr
  obtain ⟨U, hsteps, hrun, hend, hW, hsame, ce, hce, hO⟩ := X₁.ctorThrowS hexec htr (own := own) (cls := cls) (names := names) (ic := ic) hown' hcls hnames h (fun x hx => nomatch hx) hfX hkX hcellA (by rw [hhp, hT]; exact Nat.le_refl _) (msg := .ref sa) rfl
    (g := { method := m, pc := pc + 6, locals := ls, stack := .ref sa :: .ref T.heap.size :: .ref T.heap.size :: rest, locked := none }) rfl hsize rfl rfl (rest := rest) rfl
    (by rw [hb]; exact d6) (by rw [hb]; exact d9) hout hRframes (by simp only [List.map_cons, List.sum_cons, hcat]; omega) hlocks
  obtain ⟨f1, f2⟩ := vx_frame hsame
  rw [hhp] at f1 f2
  have hWs : s.WarmedH U.vm := State.WarmedH.trans hW0 hW
  have hcl : s.vm.findClass cls = some ce.cls := by
    have h9 := hO.cls
    rw [hvm] at h9
    exact h9
  have hall : s.sameButNew ({ U with vm := s.vm } : State) locs mc ms := by
    subst hA
    obtain ⟨e1, e2⟩ := hsame
    rw [State.setFrames_setFrames] at e1
    have h2 : (T.setVm s.vm).sameButNew ({ U with vm := s.vm } : State) [] (0 + 1) (0 + 6) := ⟨e1, e2⟩
    have h3 := X.same.trans h2
    rw [List.append_nil] at h3
    exact h3.mono hc hs
  refine ⟨U, ?_, .threw T.heap.size, hrun, hend, Or.inr ⟨T.heap.size, rfl, cls, ce, locs, hx U hWs.alike f1 (fun q hq => f2 q hq (fun z hz => nomatch hz)), hce, hO.vm, hcl, hWs, hall, hf⟩⟩
  refine st1 _ ?_
  show Steps p.tables e below (T1.setTop { method := m, pc := pc + 3, locals := ls, stack := .ref T.heap.size :: rest, locked := none }) _
  jvm_step X₁.here [X₁.here.top, hexec, d3', Value.category]
  exact X₁.ldcString hexec (own := own) (text := text) (index := is) (a := sa) hown' hstr'.1 hstr'.2
    (g := { method := m, pc := pc + 4, locals := ls, stack := .ref T.heap.size :: .ref T.heap.size :: rest, locked := none }) rfl d4' _ hsteps
/-- 'throw new E("text")', the text by a wide index -/
theorem vx_throwSW {cc : ByteArray} {pc : Nat} (hexec : p.tables.exec = Jvm.exec) (hb : c.code = cc) (hl : l.stackTraces = false) {own cls text : String} {names : List String} {ik is ic mc ms sa : Nat} {A : Nat → Prop}
    (hown : s.vm.findClass own = some m.cls) (hcls : Bundle.fit cls = true) (hnames : ∀ n ∈ names, Bundle.fit n = true)
    (hk : (Cond.classLink own ik cls).before args s = true) (hini : (Cond.initialized cls).before args s = true) (hstr : vk_R own is text sa s) (hat : ∀ w ∈ vx_atS own ic cls names, w.before args s = true)
    (hgood : ∀ w ∈ Cond.classLink own ik cls :: Cond.initialized cls :: vx_atS own ic cls names, vx_ot w = true)
    (hU : vx_Zq Bundle.tN "UNASSIGNED_STACK" Bundle.steD A s s.heap) (hN : vx_Zq Bundle.tN "SUPPRESSED_SENTINEL" Bundle.listD A s s.heap) (hS : va_S A s.heap H locs) (hsize : ls.size = c.maxLocals)
    (d0 : decode cc pc = .ok (.new ik, 3)) (d3 : decode cc (pc + 3) = .ok (.dup, 1)) (d4 : decode cc (pc + 4) = .ok (.ldc_w is, 3)) (d7 : decode cc (pc + 7) = .ok (.invokespecial ic, 3)) (d10 : decode cc (pc + 10) = .ok (.athrow, 1))
    (hout : ∀ x ∈ c.exceptionTable.toList, covers x (pc + 10) = false)
    (hRframes : names.length + 3 < R.frames) (hRlocals : (rest.map fun v => v.category).sum + (13 * (names.length + 1) + 43) ≤ R.locals) (hRcells : cells + 1 ≤ R.cells) (hRslots : slots + 6 ≤ R.slots) (hlocks : meth.locks = false)
    (hx : ∀ t : State, s.vm.Alike t.vm → H.size ≤ t.heap.size → (∀ q : Nat, q < H.size → t.heap[q]? = H[q]?) → XC cls s t)
    (hf : ∀ z ∈ locs, free z.base) (hc : cells + 1 ≤ mc) (hs : slots + 6 ≤ ms) :
    W p l e R s m args below meth c H locs cells slots (vx_MQ below Qc XC args s mc ms free) (F0 m pc ls rest) := by
  intro T hT X
  have htr : e.platform.stackTraces = false := (show e.platform.stackTraces = l.stackTraces by rw [X.admits.platform]).trans hl
  have Y := vx_rebase X (R' := { frames := R.frames, locals := R.locals, cells := 1, slots := 6 }) (Nat.le_refl _) (Nat.le_refl _) hRcells hRslots
  obtain ⟨s', hA⟩ : ∃ z, z = (T.setVm s.vm).setFrames (.invoking m args :: below) := ⟨_, rfl⟩
  rw [← hA] at Y
  have hvm : s'.vm = s.vm := by rw [hA]; rfl
  have hhp : s'.heap = H := by rw [hA]; exact hT
  have hW0 : s.WarmedH s'.vm := by rw [hvm]; exact State.WarmedH.refl s
  have hat' : ∀ w ∈ vx_atS own ic cls names, w.before args s' = true := fun w hw => vx_ot_at hW0 hvm.symm (hgood w (List.mem_cons_of_mem _ (List.mem_cons_of_mem _ hw))) (hat w hw)
  have hk' : (Cond.classLink own ik cls).before args s' = true := vx_ot_at hW0 hvm.symm (hgood _ List.mem_cons_self) hk
  have hini' : (Cond.initialized cls).before args s' = true := vx_ot_at hW0 hvm.symm (hgood _ (List.mem_cons_of_mem _ List.mem_cons_self)) hini
  have hU' : vx_Zq Bundle.tN "UNASSIGNED_STACK" Bundle.steD A s' s'.heap := by rw [hhp]; exact vx_Zq.moved hW0.alike (hU.kept hS.2.1)
  have hN' : vx_Zq Bundle.tN "SUPPRESSED_SENTINEL" Bundle.listD A s' s'.heap := by rw [hhp]; exact vx_Zq.moved hW0.alike (hN.kept hS.2.1)
  have h : ∀ w ∈ Bundle.ownAtoms own ic cls names, w.before args s' = true := vx_own hat' (vx_isRefq hU'.1) (vx_isRefq hN'.1) hU'.2.word hN'.2.word
  have hown' : s'.vm.findClass own = some m.cls := by rw [hvm]; exact hown
  have hins : (Cond.instantiable cls 6).before args s' = true := h _ (by simp [Bundle.ownAtoms])
  obtain ⟨vm₁, cX, kX, hfX, hkX, -, -, X₁, st1⟩ := Y.newCold hexec (own := own) (C := cls) (index := ik) (n := 6) hown' hk' hins hini'
    (g := F0 m pc ls rest) rfl (by rw [hb]; exact d0) (Nat.le_refl _) (Nat.le_refl _)
  generalize hT1 : (T.setVm vm₁).pushCell { cls := cX, slots := kX.instanceTypes.map defaultValue, vm := .none } = T1 at X₁ st1
  have hcat : (Value.ref T.heap.size).category = 1 := rfl
  have hcellA : T1.heap[T.heap.size]? = some (freshCell cX kX) := by rw [← hT1]; exact State.heap_pushCell_size _ _
  have d3' : decode c.code (pc + 3) = .ok (.dup, 1) := by rw [hb]; exact d3
  have d4' : decode c.code (pc + 4) = .ok (.ldc_w is, 3) := by rw [hb]; exact d4
  have hstr' : vk_R own is text sa s' := vk_R.warm hW0 hstr
  obtain ⟨U, hsteps, hrun, hend, hW, hsame, ce, hce, hO⟩ := X₁.ctorThrowS hexec htr (own := own) (cls := cls) (names := names) (ic := ic) hown' hcls hnames h (fun x hx => nomatch hx) hfX hkX hcellA (by rw [hhp, hT]; exact Nat.le_refl _) (msg := .ref sa) rfl
    (g := { method := m, pc := pc + 7, locals := ls, stack := .ref sa :: .ref T.heap.size :: .ref T.heap.size :: rest, locked := none }) rfl hsize rfl rfl (rest := rest) rfl
    (by rw [hb]; exact d7) (by rw [hb]; exact d10) hout hRframes (by simp only [List.map_cons, List.sum_cons, hcat]; omega) hlocks
  obtain ⟨f1, f2⟩ := vx_frame hsame
  rw [hhp] at f1 f2
  have hWs : s.WarmedH U.vm := State.WarmedH.trans hW0 hW
  have hcl : s.vm.findClass cls = some ce.cls := by
    have h9 := hO.cls
    rw [hvm] at h9
    exact h9
  have hall : s.sameButNew ({ U with vm := s.vm } : State) locs mc ms := by
    subst hA
    obtain ⟨e1, e2⟩ := hsame
    rw [State.setFrames_setFrames] at e1
    have h2 : (T.setVm s.vm).sameButNew ({ U with vm := s.vm } : State) [] (0 + 1) (0 + 6) := ⟨e1, e2⟩
    have h3 := X.same.trans h2
    rw [List.append_nil] at h3
    exact h3.mono hc hs
  refine ⟨U, ?_, .threw T.heap.size, hrun, hend, Or.inr ⟨T.heap.size, rfl, cls, ce, locs, hx U hWs.alike f1 (fun q hq => f2 q hq (fun z hz => nomatch hz)), hce, hO.vm, hcl, hWs, hall, hf⟩⟩
  refine st1 _ ?_
  show Steps p.tables e below (T1.setTop { method := m, pc := pc + 3, locals := ls, stack := .ref T.heap.size :: rest, locked := none }) _
  jvm_step X₁.here [X₁.here.top, hexec, d3', Value.category]
  exact X₁.ldcStringW hexec (own := own) (text := text) (index := is) (a := sa) hown' hstr'.1 hstr'.2
    (g := { method := m, pc := pc + 4, locals := ls, stack := .ref T.heap.size :: .ref T.heap.size :: rest, locked := none }) rfl d4' _ hsteps
end Ends
section Bodies
variable {l : Launch}
theorem vx_ofW {y : MethodName} {ws ws' : List Cond} {rm : Room} {Pc : Array Value → State → Prop} {Qc : Array Value → State → Outcome → State → Prop} {XC : String → State → State → Prop} {mc ms : Nat} {free : Addr → Prop} {cc : ByteArray} {maxL : Nat} {ret : Option FieldType}
    (hy : plainName y.cls = true) (hw : ws = Cond.code y cc maxL ret :: ws')
    (body : ∀ p e s m args below meth c s₁, BodyLoose p l y (headSpec ws rm) cc maxL ret e s m args below meth c s₁ → c.maxLocals = maxL → (∀ x ∈ c.exceptionTable.toList, False) → Pc args s →
      W p l e (headSpec ws rm).room s m args below meth c s.heap [] 0 0 (vx_MQ below Qc XC args s mc ms free) (entryFrame m args maxL)) : vx_Met l y ws rm Pc Qc XC mc ms free := by
  refine MetFree.of_bodyS (code := cc) (maxLocals := maxL) (ret := ret) hy ?_ ?_
  · intro args s m h hn
    obtain ⟨meth, c, h1, h2, h3, h4, h5, h6, -, -⟩ := Cond.code_spec hn (atoms_spec (ws := ws) h _ (by rw [hw]; exact List.mem_cons_self))
    exact ⟨meth, c, h1, h2, h3, h4, h5, h6⟩
  · intro p e s m args below meth c s₁ B hml hP _
    have hh0 : s₁.heap = s.heap := by rw [B.state]; rfl
    have ht : ∀ x ∈ c.exceptionTable.toList, False := by
      obtain ⟨meth9, c9, h1, h2, -, -, -, -, h7, -⟩ := Cond.code_spec B.named (atoms_spec (ws := ws) B.pre _ (by rw [hw]; exact List.mem_cons_self))
      cases Option.some.inj (h1.symm.trans B.method)
      cases Option.some.inj (h2.symm.trans (Stand.of_body B).code)
      intro x hx
      rw [Array.isEmpty_iff.mp h7] at hx
      cases hx
    obtain ⟨t, a1, o, b1, b2, b3⟩ := body p e s m args below meth c s₁ B hml ht hP s₁ hh0 (Stand.of_body B)
    exact ⟨t, o, a1, b1, b2, b3⟩
/-- the table of a body with handlers -/
theorem vx_table {p : Program} {x y : MethodName} {S : Spec} {cc bytes : ByteArray} {maxL maxL' : Nat} {ret ret' : Option FieldType} {e : Env} {s s₁ : State} {m : MethodId} {args : Array Value} {below : List Frame} {meth : Method} {c : Code} {hh : List (Nat × Nat × Nat × Nat)}
    (B : BodyLoose p l y S cc maxL ret e s m args below meth c s₁) (h : (Cond.codeWith y bytes maxL' ret' hh).before args s = true) : c.exceptionTable.toList = tableOf hh := by
  obtain ⟨m9, meth9, c9, hn9, h1, h2, -, -, h6, -⟩ := Cond.codeWith_spec h
  cases Option.some.inj (hn9.symm.trans B.named)
  cases Option.some.inj (h1.symm.trans B.method)
  cases Option.some.inj (h2.symm.trans (Stand.of_body B).code)
  rw [← h6, table_eq]
end Bodies
end VXA
/-! ===== END ===== -/
/-! ===== BEGIN a static call of a method with an exception table ===== -/
section VXS
variable {p : Program} {l : Launch} {e : Env} {R : Room} {s : State} {m : MethodId} {args : Array Value} {below : List Frame} {meth : Method} {c : Code} {T : State} {H : Heap} {locs : List Loc} {cells slots : Nat}
abbrev vx_CSW (R : Room) (s : State) (args : Array Value) (own : String) (index : Nat) (y : MethodName) (bytes : ByteArray) (maxL : Nat) (ret : Option FieldType) (hh : List (Nat × Nat × Nat × Nat)) (ws : List Cond) (rm : Room) (mc ms n : Nat) : Prop :=
  (rm.cells = mc ∧ rm.slots = ms ∧ rm.frames + 1 ≤ R.frames ∧ 8 + (maxL + 11) + rm.locals ≤ R.locals ∧ (∀ w ∈ ws, ∀ (a' : Array Value) (U : State), s.WarmedH U.vm → w.before a' U = true) ∧ Cond.codeWith y bytes maxL ret hh ∈ ws) ∧
  (Cond.codeWith y bytes maxL ret hh).before args s = true ∧ (Cond.initialized y.cls).before args s = true ∧ (y.cls ≠ "java/lang/invoke/MethodHandle" ∧ y.cls ≠ "java/lang/invoke/VarHandle") ∧
  (∀ sig, parseMethodDescriptor y.desc = some sig → n = sig.parameters.length) ∧ (Cond.methodLink own index y).before args s = true ∧ (Cond.static y).before args s = true
theorem vx_cwSW {own : String} {index maxL mc ms : Nat} {y : MethodName} {bytes : ByteArray} {ret : Option FieldType} {hh : List (Nat × Nat × Nat × Nat)} {Ts ws ws' : List Cond} {rm : Room} (n : Nat) (ht : ∀ w ∈ Ts, w.before args s = true) (hT : GoodIn Ts (va_wsS own index y ws)) (hw : ws = Cond.codeWith y bytes maxL ret hh :: ws') (hrc : rm.cells = mc) (hrs : rm.slots = ms)
    (hd : y.cls ≠ "java/lang/invoke/MethodHandle" ∧ y.cls ≠ "java/lang/invoke/VarHandle" ∧ (parseMethodDescriptor y.desc).map (fun d => d.parameters.length) = some n) (hR : rm.frames + 1 ≤ R.frames ∧ 8 + (maxL + 11) + rm.locals ≤ R.locals) :
    vx_CSW R s args own index y bytes maxL ret hh ws rm mc ms n := by
  have ok : ∀ w ∈ va_wsS own index y ws, w.before args s = true := fun w h => ht w (hT w h).1
  have hG : GoodIn Ts ws := fun w h => hT w (by unfold va_wsS; exact List.mem_append_right _ h)
  have hc : Cond.codeWith y bytes maxL ret hh ∈ ws := by rw [hw]; exact List.mem_cons_self
  refine ⟨⟨hrc, hrs, hR.1, hR.2, pay_in ht hG, hc⟩, ht _ (hG _ hc).1, ok _ (by simp [va_wsS]), ⟨hd.1, hd.2.1⟩, fun sig h => ?_, ok _ (by simp [va_wsS]), ok _ (by simp [va_wsS])⟩
  have h2 := hd.2.2
  rw [h] at h2
  exact (Option.some.inj h2).symm
theorem vx_callSW (X : Stand p l e R s m args below meth c T locs cells slots) (hexec : p.tables.exec = Jvm.exec) {own : String} {index : Nat} {y : MethodName} {bytes : ByteArray} {maxL : Nat} {ret : Option FieldType} {hh : List (Nat × Nat × Nat × Nat)}
    (hown : s.vm.findClass own = some m.cls) (hlink : (Cond.methodLink own index y).before args s = true) (hstat : (Cond.static y).before args s = true) (hinit : (Cond.initialized y.cls).before args s = true)
    (hcode : (Cond.codeWith y bytes maxL ret hh).before args s = true) (hy : y.cls ≠ "java/lang/invoke/MethodHandle" ∧ y.cls ≠ "java/lang/invoke/VarHandle")
    {W9 : Nat} {Pre : Pt → Array Value → Prop} {Post : Pt → Array Value → Option Value → Pt → Prop} (hK : Back l R p e below s args y 3 W9 Pre Post)
    {g : JFrame} (hg : g.method = m) (hsize : g.locals.size = c.maxLocals) {argsL rest : List Value} (hlen : ∀ sig, parseMethodDescriptor y.desc = some sig → argsL.length = sig.parameters.length)
    (hstack : g.stack = argsL.reverse ++ rest) (hW : 2 * g.monitorRoom + (rest.map fun v => v.category).sum ≤ W9) (hdg : decode c.code g.pc = .ok (.invokestatic index, 3))
    (hpre : ∀ vm₁, s.WarmedH vm₁ → Pre ⟨T.setVm vm₁, locs, cells, slots⟩ argsL.toArray) :
    ∃ (v : Option Value) (vm₁ : Vm) (B : Pt), s.WarmedH vm₁ ∧ Stand p l e R s m args below meth c B.U B.locs B.cells B.slots ∧ Post ⟨T.setVm vm₁, locs, cells, slots⟩ argsL.toArray v B ∧
      ∀ target, Steps p.tables e below (B.U.setTop { g with pc := g.pc + 3, stack := v.toList ++ rest }) target → Steps p.tables e below (T.setTop g) target := by
  obtain ⟨mk, methM, cM, hnamed, hmethM, -, -, -, -, -, -, hsigM⟩ := Cond.codeWith_spec hcode
  have hstatic : methM.isStatic = true := Cond.static_spec hnamed hmethM hstat
  obtain ⟨kP, hkP, -⟩ := className_of_methodNamed hnamed
  have hinitP : kP.init = .initialized := Cond.initialized_spec (findClass_of_methodNamed hnamed) hkP hinit
  obtain ⟨vm₁, X₁, hstep₁⟩ := X.invokestatic hexec hown hlink hnamed hmethM hstatic hkP hinitP hy (g := g) hg (argsL := argsL) (rest := rest) (hlen _ hsigM) hstack hdg
  obtain ⟨v, B, X', hpost, hsteps⟩ := hK m meth c ⟨T.setVm vm₁, locs, cells, slots⟩ { g with stack := rest } (.invokestatic index) mk argsL.toArray X₁ hg hsize hdg hW (X₁.named hnamed) (hpre vm₁ X₁.warmed)
  exact ⟨v, vm₁, B, X₁.warmed, X', hpost, fun target h => hstep₁ _ fun acts => by rw [doInvoke_state]; exact hsteps.trans h⟩
theorem vx_runSW {y : MethodName} {bytes cc : ByteArray} {maxL nL mc ms n index : Nat} {ret : Option FieldType} {hh : List (Nat × Nat × Nat × Nat)} {ws : List Cond} {rm : Room} {Pc : Array Value → State → Prop} {Qc : Array Value → State → Outcome → State → Prop} {free : Addr → Prop} {Ts : List Cond} {own : String} {As rest : List Value} {g : JFrame}
    (S : CallFix p m c cc nL s args Ts own) (hM : Met l y ws rm Pc Qc mc ms free) (cw : vx_CSW R s args own index y bytes maxL ret hh ws rm mc ms n) (hp : PreS s H Pc As)
    (hg : g.method = m) (hn : As.length = n) (hsize : g.locals.size = nL) (hstack : g.stack = As.reverse ++ rest) (hW : 2 * g.monitorRoom + (rest.map fun v => v.category).sum ≤ 8) (hdg : decode cc g.pc = .ok (.invokestatic index, 3)) (hf : cells + mc ≤ R.cells ∧ slots + ms ≤ R.slots) :
    va_Run p l e R s m args below meth c H locs cells slots mc ms g rest (Qc As.toArray) (free) := by
  obtain ⟨⟨hrc, hrs, hfr, hlo, hws, hcw⟩, hcode, hini, hy, hlen, hl, hstt⟩ := cw
  have hK : Back l R p e below s args y 3 8 (PreOf R mc ms Pc) (PostOf Qc mc ms free) := va_backW (hh := hh) (bytes := bytes) (maxL := maxL) (ret := ret) hM hp.1 hrc hrs hfr hlo hws hcw (fun a' U hW => word_at hW (Or.inl (by first | rfl | simp [Cond.onTables, Cond.keeps, Cond.steady])) hini)
  obtain ⟨hx, hb, hml, ho, -⟩ := S
  intro T hT X
  obtain ⟨v, vm₁, ⟨U', l2, c2, s2⟩, hW₁, X', ⟨g', mk, t, L, e1, e2, hq, h1, hL, h2, h3⟩, st⟩ := vx_callSW X hx (hh := hh) (bytes := bytes) (maxL := maxL) (ret := ret) ho hl hstt hini hcode hy hK hg (hsize.trans hml.symm) (argsL := As) (rest := rest) (fun sig h => hn.trans (hlen sig h)) hstack hW (by rw [hb]; exact hdg)
    (fun vm₁ hW₁ => ⟨hf.1, hf.2, hp.2 (T.setVm vm₁) hT hW₁⟩)
  dsimp only [Pt.U, Pt.locs, Pt.cells, Pt.slots] at X' e1 e2 h1 h2 h3 st
  subst h1; subst h2; subst h3
  exact ⟨v, (T.setVm vm₁).calling g' mk As.toArray, t, U', L, hT, X', hL, e1, e2, hq, st⟩
/-- not caught here, past rows that name other classes: it goes on to the caller -/
theorem vx_outP {p : Program} {l : Launch} {e : Env} {R : Room} {s : State} {m : MethodId} {args : Array Value} {below : List Frame} {meth : Method} {c : Code} {H : Heap} {locs : List Loc} {cells slots : Nat} {free : Addr → Prop} {ls : Array Slot} {rest : List Value} {Qc : Array Value → State → Outcome → State → Prop} {XC : String → State → State → Prop}
    {pc : Nat} {own E : String} {ce : Cell} {q : Addr} {mc ms : Nat} (hown : s.vm.findClass own = some m.cls) (hlocks : meth.locks = false)
    (hpass : ∀ z ∈ c.exceptionTable.toList, covers z pc = false ∨ (z.catchType ≠ 0 ∧ ∃ nm : String, (Cond.classLink own z.catchType nm).before args s = true ∧ va_Nc E nm s)) (hcell : H[q]? = some ce) (hv : ce.vm = .none) (hcl : s.vm.findClass E = some ce.cls)
    (hx : ∀ t : State, t.heap = H → s.vm.Alike t.vm → XC E s t) (hf : ∀ z ∈ locs, free z.base) (hc : cells ≤ mc) (hs : slots ≤ ms) :
    vx_W p l e R s m args below meth c H locs cells slots (vx_MQ below Qc XC args s mc ms free) (F0 m pc ls rest) q := by
  intro T hT X
  have hpl : e.platform.magicAccessors = ({} : Platform).magicAccessors := by rw [X.admits.platform]
  obtain ⟨vm', hW', X', st⟩ := X.outThrough hlocks q (g := F0 m pc ls rest) rfl rfl rfl (cell := ce) (by rw [hT]; exact hcell) (by rw [hv]; rfl)
    (by obtain ⟨k9, h9, -⟩ := Vm.findClass_spec hcl; exact ⟨k9, h9⟩) (fun z hz => by
      rcases hpass z hz with h | ⟨hz0, nm, hl1, hn1⟩
      · exact Or.inl h
      · obtain ⟨c6, hc6, hcl6⟩ := Cond.classLink_spec hown hl1 e.platform hpl
        obtain ⟨a8, b8, h1, h2, h3⟩ := hn1
        cases Option.some.inj (h1.symm.trans hcl)
        cases Option.some.inj (h2.symm.trans hc6)
        exact Or.inr ⟨hz0, _, hcl6, h3⟩)
  obtain ⟨g₀, hfr⟩ := X'.frames_eq
  have hcell9 : ((T.setVm vm').setFrames (.throwing q :: below)).heap[q]? = some ce := by
    show T.heap[q]? = some ce
    rw [hT]; exact hcell
  have hend : Ended ((T.setVm vm').setFrames (.throwing q :: below)) below (.threw q) := State.frames_setFrames _ (State.cur_lt_of_frames hfr)
  refine ⟨(T.setVm vm').setFrames (.throwing q :: below), ?_, .threw q, X'.here.running, hend, Or.inr ⟨q, rfl, E, ce, locs, hx _ hT (X'.ends _).1.alike, hcell9, hv, hcl, (X'.ends _).1, (X'.ends _).2.mono hc hs, hf⟩⟩
  rw [X.pushThrowing_eq]
  exact st
/-- a thing of a world lies in the heap -/
theorem vx_lt {D : va_G} {cl : List vw_C} {ws : va_W} {H1 : Heap} (h : va_P D cl ws H1) {k : Nat} {q : Nat × va_E} (hk : ws[k]? = some q) : q.1 < H1.size := (h k q hk).lt
end VXS
/-! ===== END ===== -/
/-! ===== BEGIN methods with a table of their own: called by a name, returning or throwing ===== -/
section VXH
/-! vx_backW, vx_callVX, vx_callSX, vx_callVW, vx_runVW, vx_runVX, vx_runSX, vx_ofWH follow the same proofs as their sisters above (Free/Laws.lean, Shelf42/LK1.lean); vx_outP calls Shelf42/NT130.lean (outThrough). -/
section
variable {l : Launch} {R : Room} {p : Program} {e : Env} {below : List Frame} {s : State} {sargs : Array Value} {y : MethodName} {len W9 : Nat}
theorem vx_backW {ws : List Cond} {rm : Room} {Pc : Array Value → State → Prop} {Qc : Array Value → State → Outcome → State → Prop} {XC : String → State → State → Prop} {mc ms : Nat} {free : Addr → Prop} {bytes : ByteArray} {maxL : Nat} {ret : Option FieldType} {hh : List (Nat × Nat × Nat × Nat)}
    (hM : vx_Met l y ws rm Pc Qc XC mc ms free) (hblind : FrameBlind Pc) (hrc : rm.cells = mc) (hrs : rm.slots = ms)
    (hframes : rm.frames + 1 ≤ R.frames) (hlocals : W9 + (maxL + 11) + rm.locals ≤ R.locals)
    (hws : ∀ w ∈ ws, ∀ a' U, s.WarmedH U.vm → w.before a' U = true) (hcode : Cond.codeWith y bytes maxL ret hh ∈ ws) (hinit : ∀ a' U, s.WarmedH U.vm → (Cond.initialized y.cls).before a' U = true) :
    vx_Back l R p e below s sargs y len W9 (PreOf R mc ms Pc) (PostOf Qc mc ms free) (vx_Post XC mc ms free) := by
  intro m meth c A g ig mk a X hg hsize hdg hW hn hp
  have h1 : (headSpec ws rm).pre.before a A.U = true := atoms_intro fun w hw => hws w hw _ _ X.warmed
  have h2 : (Cond.codeWith y bytes maxL ret hh).before a A.U = true := hws _ hcode _ _ X.warmed
  have h3 : (Cond.initialized y.cls).before a A.U = true := hinit _ _ X.warmed
  have h4 : A.cells + (headSpec ws rm).room.cells ≤ R.cells := by rw [show (headSpec ws rm).room.cells = mc from hrc]; exact hp.1
  have h5 : A.slots + (headSpec ws rm).room.slots ≤ R.slots := by rw [show (headSpec ws rm).room.slots = ms from hrs]; exact hp.2.1
  have hPc : Pc a (A.U.calling g mk a) := hblind _ _ _ _ hp.2.2
  obtain ⟨U, Ls, c0, s0⟩ := A
  dsimp only [Pt.U, Pt.locs, Pt.cells, Pt.slots] at h1 h2 h3 h4 h5 X hn hPc ⊢
  obtain ⟨m9, methY, cY, hn9, hmY, hcY, -, hlY, -⟩ := Cond.codeWith_spec h2
  cases Option.some.inj (hn9.symm.trans hn)
  obtain ⟨kY, hkY, -⟩ := className_of_methodNamed hn
  have hinitY : kY.init = .initialized := Cond.initialized_spec (findClass_of_methodNamed hn) hkY h3
  have h : At U g.method c below := by rw [hg]; exact X.here
  have hlocals9 : W9 + (maxL + 11) + (headSpec ws rm).room.locals ≤ R.locals := hlocals
  have happ : (headSpec ws rm).appliesLoose y e.platform (U.calling g mk a) = true :=
    Spec.appliesLoose_calling (g := g) h hdg hn hkY hinitY
      (X.room_calling (g := g) (R' := (headSpec ws rm).room) hsize hmY hcY hframes (by rw [hlY]; omega) h4 h5) h1
  obtain ⟨mid, hmid⟩ := h.above
  have hfr : (U.setTop g).frames = (.java g :: mid) ++ below := by rw [State.frames_setTop' g h.top, hmid]; rfl
  obtain ⟨o, s₂, hsteps, -, hend, hq⟩ := Steps.callFree hM p X.admits X.cas X.clock (acts := []) hfr happ hPc trivial
  have hq' : vx_Q Qc XC mc ms free a (U.calling g mk a) o s₂ := hq
  rw [State.frames_setTop' g h.top] at hend
  obtain ⟨g₀, hg0⟩ := Option.isSome_iff_exists.mp h.top
  obtain ⟨r, hr⟩ := State.topJava?_eq_some.mp hg0
  have hr' : (({ U with heap := s₂.heap, slotsUsed := s₂.slotsUsed } : State).setVm s₂.vm).frames = .java g₀ :: r := hr
  rcases hq' with ⟨hqc, L, hfe, hL⟩ | ⟨q, rfl, E, ce, L, hx, hce, hcv, hcl, hW₂, hsm, hL⟩
  · obtain ⟨⟨v, rfl⟩, hW₂, e2, q2, q3, q4, q5, q6⟩ := id hfe
    have e3 : s₂ = ({ (U.calling g mk a).setFrames s₂.frames with heap := s₂.heap, slotsUsed := s₂.slotsUsed } : State).setVm s₂.vm := by
      have : s₂ = ({ s₂ with vm := (U.calling g mk a).vm } : State).setVm s₂.vm := rfl
      rw [e2] at this
      exact this
    obtain ⟨c₂, i₂, len₂, hc₂, hd₂, hf₂⟩ := hend
    have hW' : U.WarmedH s₂.vm := hW₂
    have hcc : c₂ = c := by
      have h1 : s₂.code? g.method = U.code? g.method := by
        rw [State.code?_eq, State.code?_eq, hW'.alike.method?]
      exact Option.some.inj (hc₂.symm.trans (h1.trans h.code))
    subst hcc
    have hlen : len₂ = len := by rw [hdg] at hd₂; cases hd₂; rfl
    subst hlen
    have hs₂ : s₂ = (({ U with heap := s₂.heap, slotsUsed := s₂.slotsUsed } : State).setVm s₂.vm).setTop { g with pc := g.pc + len₂, stack := v.toList ++ g.stack } := by
      refine e3.trans ?_
      rw [hf₂, State.calling_eq h.top, State.setFrames_setFrames, State.setTop_of_frames _ hr', hr]
      rfl
    have hsame : U.sameButNew ({ U with heap := s₂.heap, slotsUsed := s₂.slotsUsed } : State) L mc ms := by
      refine ⟨?_, q2, q3, q4, q5, q6⟩
      obtain ⟨t, ht, -⟩ := State.frames_cons hr
      show ({ U with heap := s₂.heap, slotsUsed := s₂.slotsUsed } : State) = { U.setFrames U.frames with heap := s₂.heap, slotsUsed := s₂.slotsUsed }
      rw [State.setFrames_self ht]
    subst hg
    refine Or.inl ⟨v, ⟨(({ U with heap := s₂.heap, slotsUsed := s₂.slotsUsed } : State).setVm s₂.vm), Ls ++ L, c0 + mc, s0 + ms⟩,
      ⟨X.admits, X.cas, X.clock, X.frames, X.room, X.hears, X.method, X.code, (X.here.setHeapUsed s₂.heap s₂.slotsUsed).setVm hW'.alike, X.tail, State.WarmedH.trans X.warmed hW', X.limits, X.bytes, X.same.trans (hsame.setVm s.vm)⟩,
      ⟨g, mk, s₂, L, rfl, rfl, hqc, rfl, hL, rfl, rfl⟩, ?_⟩
    show Steps p.tables e below _ ((({ U with heap := s₂.heap, slotsUsed := s₂.slotsUsed } : State).setVm s₂.vm).setTop { g with pc := g.pc + len₂, stack := v.toList ++ g.stack })
    rw [← hs₂]
    exact hsteps
  · obtain ⟨e2, q2, q3, q4, q5, q6⟩ := id hsm
    have e3 : s₂ = ({ (U.calling g mk a).setFrames s₂.frames with heap := s₂.heap, slotsUsed := s₂.slotsUsed } : State).setVm s₂.vm := by
      have : s₂ = ({ s₂ with vm := (U.calling g mk a).vm } : State).setVm s₂.vm := rfl
      rw [e2] at this
      exact this
    have hf₂ : s₂.frames = .throwing q :: .java g :: U.frames.tail := hend
    have hW' : U.WarmedH s₂.vm := hW₂
    have hs₂ : s₂ = ((({ U with heap := s₂.heap, slotsUsed := s₂.slotsUsed } : State).setVm s₂.vm).setTop g).pushFrame (.throwing q) := by
      refine e3.trans ?_
      rw [hf₂, State.calling_eq h.top, State.setFrames_setFrames, State.pushFrame, State.frames_setTop _ hr', State.setTop_of_frames _ hr', State.setFrames_setFrames, hr]
      rfl
    have hsame : U.sameButNew ({ U with heap := s₂.heap, slotsUsed := s₂.slotsUsed } : State) L mc ms := by
      refine ⟨?_, q2, q3, q4, q5, q6⟩
      obtain ⟨t, ht, -⟩ := State.frames_cons hr
      show ({ U with heap := s₂.heap, slotsUsed := s₂.slotsUsed } : State) = { U.setFrames U.frames with heap := s₂.heap, slotsUsed := s₂.slotsUsed }
      rw [State.setFrames_self ht]
    subst hg
    refine Or.inr ⟨q, ⟨(({ U with heap := s₂.heap, slotsUsed := s₂.slotsUsed } : State).setVm s₂.vm), Ls ++ L, c0 + mc, s0 + ms⟩,
      ⟨X.admits, X.cas, X.clock, X.frames, X.room, X.hears, X.method, X.code, (X.here.setHeapUsed s₂.heap s₂.slotsUsed).setVm hW'.alike, X.tail, State.WarmedH.trans X.warmed hW', X.limits, X.bytes, X.same.trans (hsame.setVm s.vm)⟩,
      ⟨g, mk, s₂, L, E, ce, rfl, rfl, hx, hce, hcv, hcl, rfl, hL, rfl, rfl⟩, ?_⟩
    show Steps p.tables e below _ (((({ U with heap := s₂.heap, slotsUsed := s₂.slotsUsed } : State).setVm s₂.vm).setTop g).pushFrame (.throwing q))
    rw [← hs₂]
    exact hsteps
end
variable {p : Program} {l : Launch} {e : Env} {R : Room} {s : State} {m : MethodId} {args : Array Value} {below : List Frame} {meth : Method} {c : Code} {T : State} {H : Heap} {locs : List Loc} {cells slots : Nat}
theorem vx_callVX (X : Stand p l e R s m args below meth c T locs cells slots) (hexec : p.tables.exec = Jvm.exec) {own C : String} {index : Nat} {y : MethodName} {bytes : ByteArray} {maxL : Nat} {ret : Option FieldType} {hh : List (Nat × Nat × Nat × Nat)}
    (hown : s.vm.findClass own = some m.cls) (hlink : (Cond.methodLink own index y).before args s = true) (hinst : (Cond.instanceMethod y).before args s = true) (hsel : (Cond.selects C y y).before args s = true)
    (hcode : (Cond.codeWith y bytes maxL ret hh).before args s = true) (hy : y.cls ≠ "java/lang/invoke/MethodHandle" ∧ y.cls ≠ "java/lang/invoke/VarHandle")
    {W9 : Nat} {Pre : Pt → Array Value → Prop} {Post : Pt → Array Value → Option Value → Pt → Prop} {PostX : Pt → Array Value → Addr → Pt → Prop} (hK : vx_Back l R p e below s args y 3 W9 Pre Post PostX)
    {b : Addr} {cellB : Cell} (hcell : T.heap[b]? = some cellB) (hobj : cellB.vm.isStatics = false) (hcls : s.vm.findClass C = some cellB.cls)
    {g : JFrame} (hg : g.method = m) (hsize : g.locals.size = c.maxLocals) {argsL rest : List Value} (hlen : ∀ sig, parseMethodDescriptor y.desc = some sig → argsL.length = sig.parameters.length)
    (hstack : g.stack = argsL.reverse ++ .ref b :: rest) (hW : 2 * g.monitorRoom + (rest.map fun v => v.category).sum ≤ W9) (hdg : decode c.code g.pc = .ok (.invokevirtual index, 3))
    (hpre : ∀ vm₁, s.WarmedH vm₁ → Pre ⟨T.setVm vm₁, locs, cells, slots⟩ (Value.ref b :: argsL).toArray) :
    (∃ (v : Option Value) (vm₁ : Vm) (B : Pt), s.WarmedH vm₁ ∧ Stand p l e R s m args below meth c B.U B.locs B.cells B.slots ∧ Post ⟨T.setVm vm₁, locs, cells, slots⟩ (Value.ref b :: argsL).toArray v B ∧
      ∀ target, Steps p.tables e below (B.U.setTop { g with pc := g.pc + 3, stack := v.toList ++ rest }) target → Steps p.tables e below (T.setTop g) target) ∨
    (∃ (q : Addr) (vm₁ : Vm) (B : Pt), s.WarmedH vm₁ ∧ Stand p l e R s m args below meth c B.U B.locs B.cells B.slots ∧ PostX ⟨T.setVm vm₁, locs, cells, slots⟩ (Value.ref b :: argsL).toArray q B ∧
      Steps p.tables e below (T.setTop g) ((B.U.setTop { g with stack := rest }).pushFrame (.throwing q))) := by
  obtain ⟨mk, methM, hnamed, hmethM, hstM, habM⟩ := Cond.instanceMethod_spec hinst
  obtain ⟨m8, methM', cM, hn8, hmethM', -, -, -, -, -, -, hsigM⟩ := Cond.codeWith_spec hcode
  cases Option.some.inj (hn8.symm.trans hnamed)
  cases hmethM.symm.trans hmethM'
  obtain ⟨c2, r2, m2, q1, q2, q3, q4, kP, hkP, hkPi⟩ := Cond.selects_spec hsel
  cases hcls.symm.trans q1
  cases (State.methodFound?_of_named hnamed hy).symm.trans q2
  cases hnamed.symm.trans q3
  have hselP : selectMethod e.platform s.vm cellB.cls mk = .method mk := by rw [Launch.admits_selectMethod X.admits]; exact q4
  obtain ⟨vm₁, X₁, hstep₁⟩ := X.invokevirtual hexec hown hlink hnamed hmethM hstM hkP hkPi hy (a := b) (cell := cellB) hcell
    (fun z h => by rw [h] at hobj; cases hobj) hselP hmethM habM hkP hkPi (g := g) hg (argsL := argsL) (rest := rest) (hlen _ hsigM) hstack hdg
  rcases hK m meth c ⟨T.setVm vm₁, locs, cells, slots⟩ { g with stack := rest } (.invokevirtual index) mk (Value.ref b :: argsL).toArray X₁ hg hsize hdg hW (X₁.named hnamed) (hpre vm₁ X₁.warmed) with ⟨v, B, X', hpost, hsteps⟩ | ⟨q, B, X', hpost, hsteps⟩
  · exact Or.inl ⟨v, vm₁, B, X₁.warmed, X', hpost, fun target h => hstep₁ _ fun acts => by rw [doInvoke_state]; exact hsteps.trans h⟩
  · exact Or.inr ⟨q, vm₁, B, X₁.warmed, X', hpost, hstep₁ _ fun acts => by rw [doInvoke_state]; exact hsteps⟩
theorem vx_callSX (X : Stand p l e R s m args below meth c T locs cells slots) (hexec : p.tables.exec = Jvm.exec) {own : String} {index : Nat} {y : MethodName} {bytes : ByteArray} {maxL : Nat} {ret : Option FieldType} {hh : List (Nat × Nat × Nat × Nat)}
    (hown : s.vm.findClass own = some m.cls) (hlink : (Cond.methodLink own index y).before args s = true) (hstat : (Cond.static y).before args s = true) (hinit : (Cond.initialized y.cls).before args s = true)
    (hcode : (Cond.codeWith y bytes maxL ret hh).before args s = true) (hy : y.cls ≠ "java/lang/invoke/MethodHandle" ∧ y.cls ≠ "java/lang/invoke/VarHandle")
    {W9 : Nat} {Pre : Pt → Array Value → Prop} {Post : Pt → Array Value → Option Value → Pt → Prop} {PostX : Pt → Array Value → Addr → Pt → Prop} (hK : vx_Back l R p e below s args y 3 W9 Pre Post PostX)
    {g : JFrame} (hg : g.method = m) (hsize : g.locals.size = c.maxLocals) {argsL rest : List Value} (hlen : ∀ sig, parseMethodDescriptor y.desc = some sig → argsL.length = sig.parameters.length)
    (hstack : g.stack = argsL.reverse ++ rest) (hW : 2 * g.monitorRoom + (rest.map fun v => v.category).sum ≤ W9) (hdg : decode c.code g.pc = .ok (.invokestatic index, 3))
    (hpre : ∀ vm₁, s.WarmedH vm₁ → Pre ⟨T.setVm vm₁, locs, cells, slots⟩ argsL.toArray) :
    (∃ (v : Option Value) (vm₁ : Vm) (B : Pt), s.WarmedH vm₁ ∧ Stand p l e R s m args below meth c B.U B.locs B.cells B.slots ∧ Post ⟨T.setVm vm₁, locs, cells, slots⟩ argsL.toArray v B ∧
      ∀ target, Steps p.tables e below (B.U.setTop { g with pc := g.pc + 3, stack := v.toList ++ rest }) target → Steps p.tables e below (T.setTop g) target) ∨
    (∃ (q : Addr) (vm₁ : Vm) (B : Pt), s.WarmedH vm₁ ∧ Stand p l e R s m args below meth c B.U B.locs B.cells B.slots ∧ PostX ⟨T.setVm vm₁, locs, cells, slots⟩ argsL.toArray q B ∧
      Steps p.tables e below (T.setTop g) ((B.U.setTop { g with stack := rest }).pushFrame (.throwing q))) := by
  obtain ⟨mk, methM, cM, hnamed, hmethM, -, -, -, -, -, -, hsigM⟩ := Cond.codeWith_spec hcode
  have hstatic : methM.isStatic = true := Cond.static_spec hnamed hmethM hstat
  obtain ⟨kP, hkP, -⟩ := className_of_methodNamed hnamed
  have hinitP : kP.init = .initialized := Cond.initialized_spec (findClass_of_methodNamed hnamed) hkP hinit
  obtain ⟨vm₁, X₁, hstep₁⟩ := X.invokestatic hexec hown hlink hnamed hmethM hstatic hkP hinitP hy (g := g) hg (argsL := argsL) (rest := rest) (hlen _ hsigM) hstack hdg
  rcases hK m meth c ⟨T.setVm vm₁, locs, cells, slots⟩ { g with stack := rest } (.invokestatic index) mk argsL.toArray X₁ hg hsize hdg hW (X₁.named hnamed) (hpre vm₁ X₁.warmed) with ⟨v, B, X', hpost, hsteps⟩ | ⟨q, B, X', hpost, hsteps⟩
  · exact Or.inl ⟨v, vm₁, B, X₁.warmed, X', hpost, fun target h => hstep₁ _ fun acts => by rw [doInvoke_state]; exact hsteps.trans h⟩
  · exact Or.inr ⟨q, vm₁, B, X₁.warmed, X', hpost, hstep₁ _ fun acts => by rw [doInvoke_state]; exact hsteps⟩
theorem vx_callVW (X : Stand p l e R s m args below meth c T locs cells slots) (hexec : p.tables.exec = Jvm.exec) {own C : String} {index : Nat} {y : MethodName} {bytes : ByteArray} {maxL : Nat} {ret : Option FieldType} {hh : List (Nat × Nat × Nat × Nat)}
    (hown : s.vm.findClass own = some m.cls) (hlink : (Cond.methodLink own index y).before args s = true) (hinst : (Cond.instanceMethod y).before args s = true) (hsel : (Cond.selects C y y).before args s = true)
    (hcode : (Cond.codeWith y bytes maxL ret hh).before args s = true) (hy : y.cls ≠ "java/lang/invoke/MethodHandle" ∧ y.cls ≠ "java/lang/invoke/VarHandle")
    {W9 : Nat} {Pre : Pt → Array Value → Prop} {Post : Pt → Array Value → Option Value → Pt → Prop} (hK : Back l R p e below s args y 3 W9 Pre Post)
    {b : Addr} {cellB : Cell} (hcell : T.heap[b]? = some cellB) (hobj : cellB.vm.isStatics = false) (hcls : s.vm.findClass C = some cellB.cls)
    {g : JFrame} (hg : g.method = m) (hsize : g.locals.size = c.maxLocals) {argsL rest : List Value} (hlen : ∀ sig, parseMethodDescriptor y.desc = some sig → argsL.length = sig.parameters.length)
    (hstack : g.stack = argsL.reverse ++ .ref b :: rest) (hW : 2 * g.monitorRoom + (rest.map fun v => v.category).sum ≤ W9) (hdg : decode c.code g.pc = .ok (.invokevirtual index, 3))
    (hpre : ∀ vm₁, s.WarmedH vm₁ → Pre ⟨T.setVm vm₁, locs, cells, slots⟩ (Value.ref b :: argsL).toArray) :
    ∃ (v : Option Value) (vm₁ : Vm) (B : Pt), s.WarmedH vm₁ ∧ Stand p l e R s m args below meth c B.U B.locs B.cells B.slots ∧ Post ⟨T.setVm vm₁, locs, cells, slots⟩ (Value.ref b :: argsL).toArray v B ∧
      ∀ target, Steps p.tables e below (B.U.setTop { g with pc := g.pc + 3, stack := v.toList ++ rest }) target → Steps p.tables e below (T.setTop g) target := by
  obtain ⟨mk, methM, hnamed, hmethM, hstM, habM⟩ := Cond.instanceMethod_spec hinst
  obtain ⟨m8, methM', cM, hn8, hmethM', -, -, -, -, -, -, hsigM⟩ := Cond.codeWith_spec hcode
  cases Option.some.inj (hn8.symm.trans hnamed)
  cases hmethM.symm.trans hmethM'
  obtain ⟨c2, r2, m2, q1, q2, q3, q4, kP, hkP, hkPi⟩ := Cond.selects_spec hsel
  cases hcls.symm.trans q1
  cases (State.methodFound?_of_named hnamed hy).symm.trans q2
  cases hnamed.symm.trans q3
  have hselP : selectMethod e.platform s.vm cellB.cls mk = .method mk := by rw [Launch.admits_selectMethod X.admits]; exact q4
  obtain ⟨vm₁, X₁, hstep₁⟩ := X.invokevirtual hexec hown hlink hnamed hmethM hstM hkP hkPi hy (a := b) (cell := cellB) hcell
    (fun z h => by rw [h] at hobj; cases hobj) hselP hmethM habM hkP hkPi (g := g) hg (argsL := argsL) (rest := rest) (hlen _ hsigM) hstack hdg
  obtain ⟨v, B, X', hpost, hsteps⟩ := hK m meth c ⟨T.setVm vm₁, locs, cells, slots⟩ { g with stack := rest } (.invokevirtual index) mk (Value.ref b :: argsL).toArray X₁ hg hsize hdg hW (X₁.named hnamed) (hpre vm₁ X₁.warmed)
  exact ⟨v, vm₁, B, X₁.warmed, X', hpost, fun target h => hstep₁ _ fun acts => by rw [doInvoke_state]; exact hsteps.trans h⟩
abbrev vx_CVW (R : Room) (s : State) (args : Array Value) (own C : String) (index : Nat) (y : MethodName) (bytes : ByteArray) (maxL : Nat) (ret : Option FieldType) (hh : List (Nat × Nat × Nat × Nat)) (ws : List Cond) (rm : Room) (mc ms n : Nat) : Prop :=
  (rm.cells = mc ∧ rm.slots = ms ∧ rm.frames + 1 ≤ R.frames ∧ 8 + (maxL + 11) + rm.locals ≤ R.locals ∧ (∀ w ∈ ws, ∀ (a' : Array Value) (U : State), s.WarmedH U.vm → w.before a' U = true) ∧ Cond.codeWith y bytes maxL ret hh ∈ ws) ∧
  (Cond.codeWith y bytes maxL ret hh).before args s = true ∧ (Cond.initialized y.cls).before args s = true ∧ (y.cls ≠ "java/lang/invoke/MethodHandle" ∧ y.cls ≠ "java/lang/invoke/VarHandle") ∧
  (∀ sig, parseMethodDescriptor y.desc = some sig → n = sig.parameters.length) ∧ (Cond.methodLink own index y).before args s = true ∧ (Cond.instanceMethod y).before args s = true ∧ (Cond.selects C y y).before args s = true
theorem vx_cwVW {own C : String} {index maxL mc ms : Nat} {y : MethodName} {bytes : ByteArray} {ret : Option FieldType} {hh : List (Nat × Nat × Nat × Nat)} {Ts ws ws' : List Cond} {rm : Room} (n : Nat) (ht : ∀ w ∈ Ts, w.before args s = true) (hT : GoodIn Ts (wsV own index C y ws)) (hw : ws = Cond.codeWith y bytes maxL ret hh :: ws') (hrc : rm.cells = mc) (hrs : rm.slots = ms)
    (hd : y.cls = C ∧ y.cls ≠ "java/lang/invoke/MethodHandle" ∧ y.cls ≠ "java/lang/invoke/VarHandle" ∧ (parseMethodDescriptor y.desc).map (fun d => d.parameters.length) = some n) (hR : rm.frames + 1 ≤ R.frames ∧ 8 + (maxL + 11) + rm.locals ≤ R.locals) :
    vx_CVW R s args own C index y bytes maxL ret hh ws rm mc ms n := by
  obtain ⟨hC, hd⟩ := hd
  subst hC
  have ok : ∀ w ∈ wsV own index y.cls y ws, w.before args s = true := fun w h => ht w (hT w h).1
  have hG : GoodIn Ts ws := fun w h => hT w (by unfold wsV; exact List.mem_append_right _ h)
  have hc : Cond.codeWith y bytes maxL ret hh ∈ ws := by rw [hw]; exact List.mem_cons_self
  refine ⟨⟨hrc, hrs, hR.1, hR.2, pay_in ht hG, hc⟩, ht _ (hG _ hc).1, ok _ (by simp [wsV]), ⟨hd.1, hd.2.1⟩, fun sig h => ?_, ok _ (by simp [wsV]), ok _ (by simp [wsV]), ok _ (by simp [wsV])⟩
  have h2 := hd.2.2
  rw [h] at h2
  exact (Option.some.inj h2).symm
theorem vx_runVW {y : MethodName} {bytes cc : ByteArray} {maxL nL mc ms n index : Nat} {ret : Option FieldType} {hh : List (Nat × Nat × Nat × Nat)} {ws : List Cond} {rm : Room} {Pc : Array Value → State → Prop} {Qc : Array Value → State → Outcome → State → Prop} {free : Addr → Prop} {Ts : List Cond} {own C : String} {b : Addr} {As rest : List Value} {g : JFrame}
    (S : CallFix p m c cc nL s args Ts own) (hM : Met l y ws rm Pc Qc mc ms free) (cw : vx_CVW R s args own C index y bytes maxL ret hh ws rm mc ms n) (hp : PreV s H C b Pc As)
    (hg : g.method = m) (hn : As.length = n) (hsize : g.locals.size = nL) (hstack : g.stack = As.reverse ++ .ref b :: rest) (hW : 2 * g.monitorRoom + (rest.map fun v => v.category).sum ≤ 8) (hdg : decode cc g.pc = .ok (.invokevirtual index, 3)) (hf : cells + mc ≤ R.cells ∧ slots + ms ≤ R.slots) :
    va_Run p l e R s m args below meth c H locs cells slots mc ms g rest (Qc (Value.ref b :: As).toArray) free := by
  obtain ⟨⟨hrc, hrs, hfr, hlo, hws, hcw⟩, hcode, hini, hy, hlen, hl, hin, hse⟩ := cw
  have hK : Back l R p e below s args y 3 8 (PreOf R mc ms Pc) (PostOf Qc mc ms free) := va_backW (hh := hh) (bytes := bytes) (maxL := maxL) (ret := ret) hM hp.1 hrc hrs hfr hlo hws hcw (fun a' U hW => word_at hW (Or.inl (by first | rfl | simp [Cond.onTables, Cond.keeps, Cond.steady])) hini)
  obtain ⟨hx, hb, hml, ho, -⟩ := S
  obtain ⟨-, ⟨cellB, hcB, hoB, hclB⟩, hPc⟩ := hp
  intro T hT X
  obtain ⟨v, vm₁, ⟨U', l2, c2, s2⟩, hW₁, X', ⟨g', mk, t, L, e1, e2, hq, h1, hL, h2, h3⟩, st⟩ := vx_callVW X hx (C := C) (hh := hh) (bytes := bytes) (maxL := maxL) (ret := ret) ho hl hin hse hcode hy hK (by rw [hT]; exact hcB) hoB hclB hg (hsize.trans hml.symm) (argsL := As) (rest := rest) (fun sig h => hn.trans (hlen sig h)) hstack hW (by rw [hb]; exact hdg)
    (fun vm₁ hW₁ => ⟨hf.1, hf.2, hPc (T.setVm vm₁) hT hW₁⟩)
  dsimp only [Pt.U, Pt.locs, Pt.cells, Pt.slots] at X' e1 e2 h1 h2 h3 st
  subst h1; subst h2; subst h3
  exact ⟨v, (T.setVm vm₁).calling g' mk (Value.ref b :: As).toArray, t, U', L, hT, X', hL, e1, e2, hq, st⟩
section
variable {y : MethodName} {bytes cc : ByteArray} {maxL nL mc ms n index : Nat} {ret : Option FieldType} {ws : List Cond} {rm : Room} {Pc : Array Value → State → Prop} {Qc : Array Value → State → Outcome → State → Prop} {XC : String → State → State → Prop} {free : Addr → Prop} {Ts : List Cond} {own C : String} {b : Addr} {As rest : List Value} {g : JFrame}
theorem vx_runVX {hh : List (Nat × Nat × Nat × Nat)} (S : CallFix p m c cc nL s args Ts own) (hM : vx_Met l y ws rm Pc Qc XC mc ms free) (cw : vx_CVW R s args own C index y bytes maxL ret hh ws rm mc ms n) (hp : PreV s H C b Pc As)
    (hg : g.method = m) (hn : As.length = n) (hsize : g.locals.size = nL) (hstack : g.stack = As.reverse ++ .ref b :: rest) (hW : 2 * g.monitorRoom + (rest.map fun v => v.category).sum ≤ 8) (hdg : decode cc g.pc = .ok (.invokevirtual index, 3)) (hf : cells + mc ≤ R.cells ∧ slots + ms ≤ R.slots) :
    vx_Run p l e R s m args below meth c H locs cells slots mc ms g rest (Qc (Value.ref b :: As).toArray) XC free := by
  obtain ⟨⟨hrc, hrs, hfr, hlo, hws, hcw⟩, hcode, hini, hy, hlen, hl, hin, hse⟩ := cw
  have hK : vx_Back l R p e below s args y 3 8 (PreOf R mc ms Pc) (PostOf Qc mc ms free) (vx_Post XC mc ms free) := vx_backW (hh := hh) (bytes := bytes) (maxL := maxL) (ret := ret) hM hp.1 hrc hrs hfr hlo hws hcw (fun a' U hW => word_at hW (Or.inl (by first | rfl | simp [Cond.onTables, Cond.keeps, Cond.steady])) hini)
  obtain ⟨hx, hb, hml, ho, -⟩ := S
  obtain ⟨-, ⟨cellB, hcB, hoB, hclB⟩, hPc⟩ := hp
  intro T hT X
  rcases vx_callVX X hx (C := C) (hh := hh) (bytes := bytes) (maxL := maxL) (ret := ret) ho hl hin hse hcode hy hK (by rw [hT]; exact hcB) hoB hclB hg (hsize.trans hml.symm) (argsL := As) (rest := rest) (fun sig h => hn.trans (hlen sig h)) hstack hW (by rw [hb]; exact hdg)
    (fun vm₁ hW₁ => ⟨hf.1, hf.2, hPc (T.setVm vm₁) hT hW₁⟩) with ⟨v, vm₁, ⟨U', l2, c2, s2⟩, hW₁, X', ⟨g', mk, t, L, e1, e2, hq, h1, hL, h2, h3⟩, st⟩ | ⟨q, vm₁, ⟨U', l2, c2, s2⟩, hW₁, X', ⟨g', mk, t, L, E, ce, e1, e2, hq, hce, hcv, hcl, h1, hL, h2, h3⟩, st⟩
  · dsimp only [Pt.U, Pt.locs, Pt.cells, Pt.slots] at X' e1 e2 h1 h2 h3 st
    subst h1; subst h2; subst h3
    exact Or.inl ⟨v, (T.setVm vm₁).calling g' mk (Value.ref b :: As).toArray, t, U', L, hT, X', hL, e1, e2, hq, st⟩
  · dsimp only [Pt.U, Pt.locs, Pt.cells, Pt.slots] at X' e1 e2 h1 h2 h3 st hcl
    subst h1; subst h2; subst h3
    exact Or.inr ⟨q, (T.setVm vm₁).calling g' mk (Value.ref b :: As).toArray, t, U', L, E, ce, hT, X', hL, e1, e2, hq, hce, hcv, vx_cls hW₁ hcl, st⟩
theorem vx_runSX {hh : List (Nat × Nat × Nat × Nat)} (S : CallFix p m c cc nL s args Ts own) (hM : vx_Met l y ws rm Pc Qc XC mc ms free) (cw : vx_CSW R s args own index y bytes maxL ret hh ws rm mc ms n) (hp : PreS s H Pc As)
    (hg : g.method = m) (hn : As.length = n) (hsize : g.locals.size = nL) (hstack : g.stack = As.reverse ++ rest) (hW : 2 * g.monitorRoom + (rest.map fun v => v.category).sum ≤ 8) (hdg : decode cc g.pc = .ok (.invokestatic index, 3)) (hf : cells + mc ≤ R.cells ∧ slots + ms ≤ R.slots) :
    vx_Run p l e R s m args below meth c H locs cells slots mc ms g rest (Qc As.toArray) XC free := by
  obtain ⟨⟨hrc, hrs, hfr, hlo, hws, hcw⟩, hcode, hini, hy, hlen, hl, hstt⟩ := cw
  have hK : vx_Back l R p e below s args y 3 8 (PreOf R mc ms Pc) (PostOf Qc mc ms free) (vx_Post XC mc ms free) := vx_backW (hh := hh) (bytes := bytes) (maxL := maxL) (ret := ret) hM hp.1 hrc hrs hfr hlo hws hcw (fun a' U hW => word_at hW (Or.inl (by first | rfl | simp [Cond.onTables, Cond.keeps, Cond.steady])) hini)
  obtain ⟨hx, hb, hml, ho, -⟩ := S
  intro T hT X
  rcases vx_callSX X hx (hh := hh) (bytes := bytes) (maxL := maxL) (ret := ret) ho hl hstt hini hcode hy hK hg (hsize.trans hml.symm) (argsL := As) (rest := rest) (fun sig h => hn.trans (hlen sig h)) hstack hW (by rw [hb]; exact hdg)
    (fun vm₁ hW₁ => ⟨hf.1, hf.2, hp.2 (T.setVm vm₁) hT hW₁⟩) with ⟨v, vm₁, ⟨U', l2, c2, s2⟩, hW₁, X', ⟨g', mk, t, L, e1, e2, hq, h1, hL, h2, h3⟩, st⟩ | ⟨q, vm₁, ⟨U', l2, c2, s2⟩, hW₁, X', ⟨g', mk, t, L, E, ce, e1, e2, hq, hce, hcv, hcl, h1, hL, h2, h3⟩, st⟩
  · dsimp only [Pt.U, Pt.locs, Pt.cells, Pt.slots] at X' e1 e2 h1 h2 h3 st
    subst h1; subst h2; subst h3
    exact Or.inl ⟨v, (T.setVm vm₁).calling g' mk As.toArray, t, U', L, hT, X', hL, e1, e2, hq, st⟩
  · dsimp only [Pt.U, Pt.locs, Pt.cells, Pt.slots] at X' e1 e2 h1 h2 h3 st hcl
    subst h1; subst h2; subst h3
    exact Or.inr ⟨q, (T.setVm vm₁).calling g' mk As.toArray, t, U', L, E, ce, hT, X', hL, e1, e2, hq, hce, hcv, vx_cls hW₁ hcl, st⟩
end
end VXH
theorem vx_ofWH {l : Launch} {y : MethodName} {ws ws' : List Cond} {rm : Room} {Pc : Array Value → State → Prop} {Qc : Array Value → State → Outcome → State → Prop} {XC : String → State → State → Prop} {mc ms : Nat} {free : Addr → Prop} {cc : ByteArray} {maxL : Nat} {ret : Option FieldType} {hh : List (Nat × Nat × Nat × Nat)}
    (hy : plainName y.cls = true) (hw : ws = Cond.codeWith y cc maxL ret hh :: ws')
    (body : ∀ p e s m args below meth c s₁, BodyLoose p l y (headSpec ws rm) cc maxL ret e s m args below meth c s₁ → c.maxLocals = maxL → Pc args s →
      W p l e (headSpec ws rm).room s m args below meth c s.heap [] 0 0 (vx_MQ below Qc XC args s mc ms free) (entryFrame m args maxL)) : vx_Met l y ws rm Pc Qc XC mc ms free := by
  refine MetFree.of_bodyS (code := cc) (maxLocals := maxL) (ret := ret) hy ?_ ?_
  · intro args s m h hn
    obtain ⟨m9, meth, c, hn9, h1, h2, h3, h4, -, h5, h6, -⟩ := Cond.codeWith_spec (atoms_spec (ws := ws) h _ (by rw [hw]; exact List.mem_cons_self))
    cases hn.symm.trans hn9
    exact ⟨meth, c, h1, h2, h3, h4, h5, h6⟩
  · intro p e s m args below meth c s₁ B hml hP _
    have hh0 : s₁.heap = s.heap := by rw [B.state]; rfl
    obtain ⟨t, a1, o, b1, b2, b3⟩ := body p e s m args below meth c s₁ B hml hP s₁ hh0 (Stand.of_body B)
    exact ⟨t, o, a1, b1, b2, b3⟩
/-! ===== END ===== -/
end
section
/-! tables of the class, the reference and the law, written by program out of the claim's own Statement and names -/
section XT
def xT0 : u_T := fun k => match k with
  | 0 => ("SkateSheet$Couples", "count", "I", false)
  | 1 => ("SkateSheet$Couples", "clubs", "LSkateSheet$Row;", true)
  | 2 => ("SkateSheet$Couples", "levels", "LSkateSheet$Row;", true)
  | 3 => ("SkateSheet$Couples", "met", "LSkateSheet$Grid;", true)
  | _ => ("SkateSheet$Couples", "points", "LSkateSheet$Grid;", true)
def xTy0 : Nat → FieldType := fun k => match k with
  | 0 => .int
  | 1 => .object "SkateSheet$Row"
  | 2 => .object "SkateSheet$Row"
  | 3 => .object "SkateSheet$Grid"
  | _ => .object "SkateSheet$Grid"
def xT1 : u_T := fun k => match k with
  | 0 => ("SkateSheet$Event", "isOpen", "Z", false)
  | 1 => ("SkateSheet$Event", "entered", "I", false)
  | 2 => ("SkateSheet$Event", "inside", "I", false)
  | 3 => ("SkateSheet$Event", "panel", "I", false)
  | 4 => ("SkateSheet$Event", "dances", "I", false)
  | 5 => ("SkateSheet$Event", "rounds", "I", false)
  | _ => ("SkateSheet$Event", "outIn", "LSkateSheet$Row;", true)
def xTy1 : Nat → FieldType := fun k => match k with
  | 0 => .boolean
  | 1 => .int
  | 2 => .int
  | 3 => .int
  | 4 => .int
  | 5 => .int
  | _ => .object "SkateSheet$Row"
def xT2 : u_T := fun k => match k with
  | 0 => ("SkateSheet$Grid", "columns", "I", true)
  | _ => ("SkateSheet$Grid", "cells", "[I", true)
def xTy2 : Nat → FieldType := fun k => match k with
  | 0 => .int
  | _ => .array .int
def xT3 : u_T := fun k => match k with
  | 0 => ("SkateSheet$Judges", "count", "I", false)
  | 1 => ("SkateSheet$Judges", "clubs", "LSkateSheet$Row;", true)
  | _ => ("SkateSheet$Judges", "drifts", "LSkateSheet$Row;", true)
def xTy3 : Nat → FieldType := fun k => match k with
  | 0 => .int
  | 1 => .object "SkateSheet$Row"
  | _ => .object "SkateSheet$Row"
def xT4 : u_T := fun k => match k with
  | 0 => ("SkateSheet$Round", "isRunning", "Z", false)
  | 1 => ("SkateSheet$Round", "quota", "I", false)
  | 2 => ("SkateSheet$Round", "danced", "I", false)
  | 3 => ("SkateSheet$Round", "size", "I", false)
  | 4 => ("SkateSheet$Round", "crosses", "LSkateSheet$Grid;", true)
  | 5 => ("SkateSheet$Round", "heatOf", "LSkateSheet$Row;", true)
  | _ => ("SkateSheet$Round", "heats", "LSkateSheet$Row;", true)
def xTy4 : Nat → FieldType := fun k => match k with
  | 0 => .boolean
  | 1 => .int
  | 2 => .int
  | 3 => .int
  | 4 => .object "SkateSheet$Grid"
  | 5 => .object "SkateSheet$Row"
  | _ => .object "SkateSheet$Row"
def xT5 : u_T := fun k => match k with
  | _ => ("SkateSheet$Row", "cells", "[I", true)
def xTy5 : Nat → FieldType := fun k => match k with
  | _ => .array .int
def xT6 : u_T := fun k => match k with
  | 0 => ("SkateSheet$Score", "size", "I", false)
  | 1 => ("SkateSheet$Score", "dances", "I", false)
  | 2 => ("SkateSheet$Score", "places", "LSkateSheet$Grid;", true)
  | 3 => ("SkateSheet$Score", "reasons", "LSkateSheet$Grid;", true)
  | 4 => ("SkateSheet$Score", "totals", "LSkateSheet$Row;", true)
  | 5 => ("SkateSheet$Score", "endPlaces", "LSkateSheet$Row;", true)
  | 6 => ("SkateSheet$Score", "endReasons", "LSkateSheet$Row;", true)
  | 7 => ("SkateSheet$Score", "marks", "LSkateSheet$Tally;", true)
  | 8 => ("SkateSheet$Score", "sheetsOf", "LSkateSheet$Row;", true)
  | 9 => ("SkateSheet$Score", "turns", "LSkateSheet$Row;", true)
  | _ => ("SkateSheet$Score", "weights", "LSkateSheet$Row;", true)
def xTy6 : Nat → FieldType := fun k => match k with
  | 0 => .int
  | 1 => .int
  | 2 => .object "SkateSheet$Grid"
  | 3 => .object "SkateSheet$Grid"
  | 4 => .object "SkateSheet$Row"
  | 5 => .object "SkateSheet$Row"
  | 6 => .object "SkateSheet$Row"
  | 7 => .object "SkateSheet$Tally"
  | 8 => .object "SkateSheet$Row"
  | 9 => .object "SkateSheet$Row"
  | _ => .object "SkateSheet$Row"
def xT7 : u_T := fun k => match k with
  | 0 => ("SkateSheet$Sheets", "size", "I", false)
  | 1 => ("SkateSheet$Sheets", "dances", "I", false)
  | 2 => ("SkateSheet$Sheets", "marks", "LSkateSheet$Grid;", true)
  | _ => ("SkateSheet$Sheets", "penalised", "LSkateSheet$Row;", true)
def xTy7 : Nat → FieldType := fun k => match k with
  | 0 => .int
  | 1 => .int
  | 2 => .object "SkateSheet$Grid"
  | _ => .object "SkateSheet$Row"
def xT8 : u_T := fun k => match k with
  | 0 => ("SkateSheet$Tally", "worst", "I", false)
  | 1 => ("SkateSheet$Tally", "numbers", "LSkateSheet$Grid;", true)
  | _ => ("SkateSheet$Tally", "weights", "LSkateSheet$Grid;", true)
def xTy8 : Nat → FieldType := fun k => match k with
  | 0 => .int
  | 1 => .object "SkateSheet$Grid"
  | _ => .object "SkateSheet$Grid"
def xT9 : u_T := fun k => match k with
  | 0 => ("SkateSheet", "allCouples", "LSkateSheet$Couples;", true)
  | 1 => ("SkateSheet", "allJudges", "LSkateSheet$Judges;", true)
  | 2 => ("SkateSheet", "event", "LSkateSheet$Event;", true)
  | 3 => ("SkateSheet", "latest", "LSkateSheet$Round;", true)
  | 4 => ("SkateSheet", "sheets", "LSkateSheet$Sheets;", true)
  | 5 => ("SkateSheet", "score", "LSkateSheet$Score;", true)
  | 6 => ("SkateSheet", "trial", "LSkateSheet$Score;", true)
  | 7 => ("SkateSheet", "inFinal", "Z", false)
  | _ => ("SkateSheet", "closedEvents", "I", false)
def xTy9 : Nat → FieldType := fun k => match k with
  | 0 => .object "SkateSheet$Couples"
  | 1 => .object "SkateSheet$Judges"
  | 2 => .object "SkateSheet$Event"
  | 3 => .object "SkateSheet$Round"
  | 4 => .object "SkateSheet$Sheets"
  | 5 => .object "SkateSheet$Score"
  | 6 => .object "SkateSheet$Score"
  | 7 => .boolean
  | _ => .int
def xT10 : u_T := fun k => match k with
  | 0 => ("SkateSheetModel$Result", "n", "I", true)
  | 1 => ("SkateSheetModel$Result", "lost", "I", true)
  | 2 => ("SkateSheetModel$Result", "places", "[[I", true)
  | 3 => ("SkateSheetModel$Result", "reasons", "[[I", true)
  | 4 => ("SkateSheetModel$Result", "totals", "[I", true)
  | 5 => ("SkateSheetModel$Result", "overall", "[I", true)
  | 6 => ("SkateSheetModel$Result", "why", "[I", true)
  | _ => ("SkateSheetModel$Result", "this$0", "LSkateSheetModel;", true)
def xTy10 : Nat → FieldType := fun k => match k with
  | 0 => .int
  | 1 => .int
  | 2 => .array (.array .int)
  | 3 => .array (.array .int)
  | 4 => .array .int
  | 5 => .array .int
  | 6 => .array .int
  | _ => .object "SkateSheetModel"
def xT11 : u_T := fun k => match k with
  | 0 => ("SkateSheetModel", "thrown", "I", false)
  | 1 => ("SkateSheetModel", "clubs", "[I", true)
  | 2 => ("SkateSheetModel", "levels", "[I", true)
  | 3 => ("SkateSheetModel", "judgeClubs", "[I", true)
  | 4 => ("SkateSheetModel", "drift", "[I", true)
  | 5 => ("SkateSheetModel", "meetings", "[[I", true)
  | 6 => ("SkateSheetModel", "closed", "Ljava/util/List;", true)
  | 7 => ("SkateSheetModel", "coupleCount", "I", false)
  | 8 => ("SkateSheetModel", "judgeCount", "I", false)
  | 9 => ("SkateSheetModel", "isOpen", "Z", false)
  | 10 => ("SkateSheetModel", "hasBegun", "Z", false)
  | 11 => ("SkateSheetModel", "entered", "I", false)
  | 12 => ("SkateSheetModel", "dances", "I", false)
  | 13 => ("SkateSheetModel", "panel", "I", false)
  | 14 => ("SkateSheetModel", "in", "I", false)
  | 15 => ("SkateSheetModel", "rounds", "I", false)
  | 16 => ("SkateSheetModel", "quota", "I", false)
  | 17 => ("SkateSheetModel", "size", "I", false)
  | 18 => ("SkateSheetModel", "danced", "I", false)
  | 19 => ("SkateSheetModel", "isRound", "Z", false)
  | 20 => ("SkateSheetModel", "out", "[I", false)
  | 21 => ("SkateSheetModel", "heats", "[I", false)
  | 22 => ("SkateSheetModel", "crosses", "[[I", false)
  | 23 => ("SkateSheetModel", "finalists", "[I", false)
  | 24 => ("SkateSheetModel", "marks", "[[[I", false)
  | _ => ("SkateSheetModel", "penalties", "[[Z", false)
def xTy11 : Nat → FieldType := fun k => match k with
  | 0 => .int
  | 1 => .array .int
  | 2 => .array .int
  | 3 => .array .int
  | 4 => .array .int
  | 5 => .array (.array .int)
  | 6 => .object "java/util/List"
  | 7 => .int
  | 8 => .int
  | 9 => .boolean
  | 10 => .boolean
  | 11 => .int
  | 12 => .int
  | 13 => .int
  | 14 => .int
  | 15 => .int
  | 16 => .int
  | 17 => .int
  | 18 => .int
  | 19 => .boolean
  | 20 => .array .int
  | 21 => .array .int
  | 22 => .array (.array .int)
  | 23 => .array .int
  | 24 => .array (.array (.array .int))
  | _ => .array (.array .boolean)
def xT12 : u_T := fun k => match k with
  | 0 => ("java/util/AbstractList", "modCount", "I", false)
  | 1 => ("java/util/ArrayList", "elementData", "[Ljava/lang/Object;", false)
  | _ => ("java/util/ArrayList", "size", "I", false)
def xTy12 : Nat → FieldType := fun k => match k with
  | 0 => .int
  | 1 => .array (.object "java/lang/Object")
  | _ => .int
def xTe : u_T := fun _ => ("", "", "", false)
def xTye : Nat → FieldType := fun _ => .int
abbrev xcl : List vw_C := [("SkateSheet$Couples", xT0, 5), ("SkateSheet$Event", xT1, 7), ("SkateSheet$Grid", xT2, 2), ("SkateSheet$Judges", xT3, 3), ("SkateSheet$Round", xT4, 7), ("SkateSheet$Row", xT5, 1), ("SkateSheet$Score", xT6, 11), ("SkateSheet$Sheets", xT7, 4), ("SkateSheet$Tally", xT8, 3), ("SkateSheet", xT9, 9), ("SkateSheetModel$Result", xT10, 8), ("SkateSheetModel", xT11, 26), ("java/util/ArrayList", xT12, 3), ("java/lang/IllegalArgumentException", xTe, 0), ("java/lang/IndexOutOfBoundsException", xTe, 0), ("java/lang/IllegalStateException", xTe, 0)]
def xdef : Nat → List Value
  | 0 => [.int 0, .null, .null, .null, .null]
  | 1 => [.int 0, .int 0, .int 0, .int 0, .int 0, .int 0, .null]
  | 2 => [.int 0, .null]
  | 3 => [.int 0, .null, .null]
  | 4 => [.int 0, .int 0, .int 0, .int 0, .null, .null, .null]
  | 5 => [.null]
  | 6 => [.int 0, .int 0, .null, .null, .null, .null, .null, .null, .null, .null, .null]
  | 7 => [.int 0, .int 0, .null, .null]
  | 8 => [.int 0, .null, .null]
  | 9 => [.null, .null, .null, .null, .null, .null, .null, .int 0, .int 0]
  | 10 => [.int 0, .int 0, .null, .null, .null, .null, .null, .null]
  | 11 => [.int 0, .null, .null, .null, .null, .null, .null, .int 0, .int 0, .int 0, .int 0, .int 0, .int 0, .int 0, .int 0, .int 0, .int 0, .int 0, .int 0, .int 0, .null, .null, .null, .null, .null, .null]
  | 12 => [.int 0, .null, .int 0]
  | _ => []
def xtyf : Nat → Nat → FieldType
  | 0 => xTy0
  | 1 => xTy1
  | 2 => xTy2
  | 3 => xTy3
  | 4 => xTy4
  | 5 => xTy5
  | 6 => xTy6
  | 7 => xTy7
  | 8 => xTy8
  | 9 => xTy9
  | 10 => xTy10
  | 11 => xTy11
  | 12 => xTy12
  | _ => xTye
def xown : Nat → String
  | 0 => "SkateSheet$Couples"
  | 1 => "SkateSheet$Event"
  | 2 => "SkateSheet$Grid"
  | 3 => "SkateSheet$Judges"
  | 4 => "SkateSheet$Round"
  | 5 => "SkateSheet$Row"
  | 6 => "SkateSheet$Score"
  | 7 => "SkateSheet$Sheets"
  | 8 => "SkateSheet$Tally"
  | 9 => "SkateSheet"
  | 10 => "SkateSheetModel$Result"
  | 11 => "SkateSheetModel"
  | 12 => "java/util/ArrayList"
  | 13 => "SkateSheetLaw"
  | 14 => "java/lang/Object"
  | 15 => "java/lang/Math"
  | 16 => "java/lang/Integer"
  | 17 => "java/lang/Throwable"
  | 18 => "java/lang/IllegalArgumentException"
  | 19 => "java/lang/RuntimeException"
  | 20 => "java/lang/Exception"
  | 21 => "java/lang/IndexOutOfBoundsException"
  | 22 => "java/lang/IllegalStateException"
  | 23 => "java/util/AbstractList"
  | 24 => "java/util/AbstractCollection"
  | 25 => "jdk/internal/util/ArraysSupport"
  | 26 => "java/util/Arrays"
  | 27 => "java/util/Objects"
  | 28 => "jdk/internal/util/Preconditions"
  | _ => ""
def xmo : Nat → Nat
  | 0 => 9
  | 1 => 0
  | 2 => 5
  | 3 => 2
  | 4 => 3
  | 5 => 1
  | 6 => 4
  | 7 => 5
  | 8 => 7
  | 9 => 6
  | 10 => 8
  | 11 => 9
  | 12 => 0
  | 13 => 2
  | 14 => 9
  | 15 => 6
  | 16 => 5
  | 17 => 16
  | 18 => 6
  | 19 => 8
  | 20 => 2
  | 21 => 9
  | 22 => 6
  | 23 => 7
  | 24 => 7
  | 25 => 5
  | 26 => 6
  | 27 => 8
  | 28 => 2
  | 29 => 6
  | 30 => 8
  | 31 => 2
  | 32 => 7
  | 33 => 6
  | 34 => 8
  | 35 => 5
  | 36 => 6
  | 37 => 8
  | 38 => 9
  | 39 => 6
  | 40 => 8
  | 41 => 6
  | 42 => 6
  | 43 => 6
  | 44 => 6
  | 45 => 6
  | 46 => 6
  | 47 => 6
  | 48 => 9
  | 49 => 9
  | 50 => 7
  | 51 => 7
  | 52 => 9
  | 53 => 9
  | 54 => 9
  | 55 => 4
  | 56 => 4
  | 57 => 9
  | 58 => 9
  | 59 => 9
  | 60 => 9
  | 61 => 1
  | 62 => 9
  | 63 => 9
  | 64 => 9
  | 65 => 6
  | 66 => 9
  | 67 => 7
  | 68 => 13
  | 69 => 9
  | 70 => 9
  | 71 => 0
  | 72 => 13
  | 73 => 9
  | 74 => 3
  | 75 => 13
  | 76 => 9
  | 77 => 0
  | 78 => 0
  | 79 => 3
  | 80 => 1
  | 81 => 13
  | 82 => 9
  | 83 => 4
  | 84 => 4
  | 85 => 13
  | 86 => 9
  | 87 => 4
  | 88 => 4
  | 89 => 0
  | 90 => 0
  | 91 => 13
  | 92 => 9
  | 93 => 13
  | 94 => 9
  | 95 => 4
  | 96 => 4
  | 97 => 1
  | 98 => 4
  | 99 => 13
  | 100 => 9
  | 101 => 7
  | 102 => 13
  | 103 => 9
  | 104 => 7
  | 105 => 7
  | 106 => 13
  | 107 => 9
  | 108 => 9
  | 109 => 7
  | 110 => 13
  | 111 => 9
  | 112 => 7
  | 113 => 13
  | 114 => 9
  | 115 => 9
  | 116 => 6
  | 117 => 9
  | 118 => 0
  | 119 => 0
  | 120 => 1
  | 121 => 13
  | 122 => 13
  | 123 => 13
  | 124 => 13
  | 125 => 13
  | 126 => 13
  | 127 => 13
  | 128 => 13
  | 129 => 9
  | 130 => 9
  | 131 => 7
  | 132 => 13
  | 133 => 9
  | 134 => 1
  | 135 => 13
  | 136 => 9
  | 137 => 11
  | 138 => 12
  | 139 => 23
  | 140 => 24
  | 141 => 11
  | 142 => 11
  | 143 => 11
  | 144 => 11
  | 145 => 11
  | 146 => 11
  | 147 => 11
  | 148 => 11
  | 149 => 11
  | 150 => 11
  | 151 => 11
  | 152 => 11
  | 153 => 11
  | 154 => 11
  | 155 => 11
  | 156 => 11
  | 157 => 11
  | 158 => 11
  | 159 => 11
  | 160 => 11
  | 161 => 11
  | 162 => 11
  | 163 => 11
  | 164 => 11
  | 165 => 11
  | 166 => 10
  | 167 => 10
  | 168 => 10
  | 169 => 10
  | 170 => 10
  | 171 => 10
  | 172 => 10
  | 173 => 10
  | 174 => 11
  | 175 => 12
  | 176 => 11
  | 177 => 11
  | 178 => 11
  | 179 => 11
  | 180 => 11
  | 181 => 11
  | 182 => 11
  | 183 => 11
  | 184 => 11
  | 185 => 11
  | 186 => 11
  | 187 => 11
  | 188 => 11
  | 189 => 11
  | 190 => 11
  | 191 => 11
  | 192 => 11
  | 193 => 11
  | 194 => 11
  | 195 => 10
  | 196 => 11
  | 197 => 11
  | 198 => 13
  | _ => 0
def xmy : Nat → MethodName
  | 0 => ⟨"SkateSheet", "<init>", "()V"⟩
  | 1 => ⟨"SkateSheet$Couples", "<init>", "()V"⟩
  | 2 => ⟨"SkateSheet$Row", "<init>", "(I)V"⟩
  | 3 => ⟨"SkateSheet$Grid", "<init>", "(II)V"⟩
  | 4 => ⟨"SkateSheet$Judges", "<init>", "()V"⟩
  | 5 => ⟨"SkateSheet$Event", "<init>", "()V"⟩
  | 6 => ⟨"SkateSheet$Round", "<init>", "()V"⟩
  | 7 => ⟨"SkateSheet$Row", "fill", "(I)V"⟩
  | 8 => ⟨"SkateSheet$Sheets", "<init>", "()V"⟩
  | 9 => ⟨"SkateSheet$Score", "<init>", "()V"⟩
  | 10 => ⟨"SkateSheet$Tally", "<init>", "(I)V"⟩
  | 11 => ⟨"SkateSheet", "meanStanding", "()D"⟩
  | 12 => ⟨"SkateSheet$Couples", "standingOf", "(I)I"⟩
  | 13 => ⟨"SkateSheet$Grid", "get", "(II)I"⟩
  | 14 => ⟨"SkateSheet", "fragile", "()I"⟩
  | 15 => ⟨"SkateSheet$Score", "winners", "()I"⟩
  | 16 => ⟨"SkateSheet$Row", "get", "(I)I"⟩
  | 17 => ⟨"java/lang/Integer", "bitCount", "(I)I"⟩
  | 18 => ⟨"SkateSheet$Score", "settle", "(LSkateSheet$Sheets;I)V"⟩
  | 19 => ⟨"SkateSheet$Tally", "clear", "(I)V"⟩
  | 20 => ⟨"SkateSheet$Grid", "fill", "(I)V"⟩
  | 21 => ⟨"SkateSheet", "holds", "(II)Z"⟩
  | 22 => ⟨"SkateSheet$Score", "countMarksOf", "(ILSkateSheet$Sheets;)V"⟩
  | 23 => ⟨"SkateSheet$Sheets", "has", "(II)Z"⟩
  | 24 => ⟨"SkateSheet$Sheets", "mark", "(III)I"⟩
  | 25 => ⟨"SkateSheet$Row", "add", "(II)V"⟩
  | 26 => ⟨"SkateSheet$Score", "rowOf", "(II)I"⟩
  | 27 => ⟨"SkateSheet$Tally", "count", "(II)V"⟩
  | 28 => ⟨"SkateSheet$Grid", "add", "(III)V"⟩
  | 29 => ⟨"SkateSheet$Score", "placeInDance", "(ILSkateSheet$Sheets;)V"⟩
  | 30 => ⟨"SkateSheet$Tally", "sumUp", "(I)V"⟩
  | 31 => ⟨"SkateSheet$Grid", "set", "(III)V"⟩
  | 32 => ⟨"SkateSheet$Sheets", "isPenalised", "(II)Z"⟩
  | 33 => ⟨"SkateSheet$Score", "turnOf", "(IIZ)I"⟩
  | 34 => ⟨"SkateSheet$Tally", "number", "(II)I"⟩
  | 35 => ⟨"SkateSheet$Row", "set", "(II)V"⟩
  | 36 => ⟨"SkateSheet$Score", "compareInDance", "(III)I"⟩
  | 37 => ⟨"SkateSheet$Tally", "compare", "(III)I"⟩
  | 38 => ⟨"SkateSheet", "inHalves", "(II)I"⟩
  | 39 => ⟨"SkateSheet$Score", "reasonAmongCandidates", "(II)I"⟩
  | 40 => ⟨"SkateSheet$Tally", "weight", "(II)I"⟩
  | 41 => ⟨"SkateSheet$Score", "addPlaces", "()V"⟩
  | 42 => ⟨"SkateSheet$Score", "placeOverAll", "()V"⟩
  | 43 => ⟨"SkateSheet$Score", "bestByTotal", "(I)I"⟩
  | 44 => ⟨"SkateSheet$Score", "heaviest", "(I)I"⟩
  | 45 => ⟨"SkateSheet$Score", "bestByPlaces", "(II)I"⟩
  | 46 => ⟨"SkateSheet$Score", "bestByMarks", "(II)I"⟩
  | 47 => ⟨"SkateSheet$Score", "takePlaces", "(III)V"⟩
  | 48 => ⟨"SkateSheet", "digest", "()J"⟩
  | 49 => ⟨"SkateSheet", "many", "(I)I"⟩
  | 50 => ⟨"SkateSheet$Sheets", "ofAll", "()I"⟩
  | 51 => ⟨"SkateSheet$Sheets", "ofDance", "(I)I"⟩
  | 52 => ⟨"SkateSheet", "digestCouple", "(JI)J"⟩
  | 53 => ⟨"SkateSheet", "ofCouple", "(II)I"⟩
  | 54 => ⟨"SkateSheet", "needCouple", "(I)V"⟩
  | 55 => ⟨"SkateSheet$Round", "crossesOf", "(I)I"⟩
  | 56 => ⟨"SkateSheet$Round", "crossesIn", "(II)I"⟩
  | 57 => ⟨"SkateSheet", "meetings", "(II)I"⟩
  | 58 => ⟨"SkateSheet", "digestFinalist", "(JI)J"⟩
  | 59 => ⟨"SkateSheet", "result", "(II)I"⟩
  | 60 => ⟨"SkateSheet", "needInFinal", "(I)V"⟩
  | 61 => ⟨"SkateSheet$Event", "positionOf", "(I)I"⟩
  | 62 => ⟨"SkateSheet", "placed", "(III)I"⟩
  | 63 => ⟨"SkateSheet", "needDance", "(I)V"⟩
  | 64 => ⟨"SkateSheet", "votes", "(III)I"⟩
  | 65 => ⟨"SkateSheet$Score", "marksOfOrBetter", "(III)I"⟩
  | 66 => ⟨"SkateSheet", "ofJudge", "(II)I"⟩
  | 67 => ⟨"SkateSheet$Sheets", "ofOneJudge", "(I)I"⟩
  | 68 => ⟨"SkateSheetLaw", "couple", "(LSkateSheet;I[J)I"⟩
  | 69 => ⟨"SkateSheet", "couple", "(I)I"⟩
  | 70 => ⟨"SkateSheet", "needClub", "(I)V"⟩
  | 71 => ⟨"SkateSheet$Couples", "enrol", "(I)I"⟩
  | 72 => ⟨"SkateSheetLaw", "judge", "(LSkateSheet;I[J)I"⟩
  | 73 => ⟨"SkateSheet", "judge", "(I)I"⟩
  | 74 => ⟨"SkateSheet$Judges", "enrol", "(I)I"⟩
  | 75 => ⟨"SkateSheetLaw", "open", "(LSkateSheet;II[J)I"⟩
  | 76 => ⟨"SkateSheet", "open", "(II)I"⟩
  | 77 => ⟨"SkateSheet$Couples", "haveAll", "(I)Z"⟩
  | 78 => ⟨"SkateSheet$Couples", "clubsOf", "(I)I"⟩
  | 79 => ⟨"SkateSheet$Judges", "panelBeside", "(I)I"⟩
  | 80 => ⟨"SkateSheet$Event", "start", "(III)V"⟩
  | 81 => ⟨"SkateSheetLaw", "round", "(LSkateSheet;II[J)I"⟩
  | 82 => ⟨"SkateSheet", "round", "(II)I"⟩
  | 83 => ⟨"SkateSheet$Round", "start", "(II)V"⟩
  | 84 => ⟨"SkateSheet$Round", "forget", "()V"⟩
  | 85 => ⟨"SkateSheetLaw", "dance", "(LSkateSheet;[J)I"⟩
  | 86 => ⟨"SkateSheet", "dance", "()I"⟩
  | 87 => ⟨"SkateSheet$Round", "danceHeats", "(ILSkateSheet$Couples;)I"⟩
  | 88 => ⟨"SkateSheet$Round", "heatFor", "(IILSkateSheet$Couples;)I"⟩
  | 89 => ⟨"SkateSheet$Couples", "metWithAll", "(II)I"⟩
  | 90 => ⟨"SkateSheet$Couples", "meetEachOther", "(I)V"⟩
  | 91 => ⟨"SkateSheetLaw", "cross", "(LSkateSheet;III[J)I"⟩
  | 92 => ⟨"SkateSheet", "cross", "(III)I"⟩
  | 93 => ⟨"SkateSheetLaw", "cut", "(LSkateSheet;[J)I"⟩
  | 94 => ⟨"SkateSheet", "cut", "()I"⟩
  | 95 => ⟨"SkateSheet$Round", "choose", "(I)I"⟩
  | 96 => ⟨"SkateSheet$Round", "withMoreCrosses", "(II)I"⟩
  | 97 => ⟨"SkateSheet$Event", "keepOnly", "(I)V"⟩
  | 98 => ⟨"SkateSheet$Round", "stop", "()V"⟩
  | 99 => ⟨"SkateSheetLaw", "begin", "(LSkateSheet;[J)I"⟩
  | 100 => ⟨"SkateSheet", "begin", "()I"⟩
  | 101 => ⟨"SkateSheet$Sheets", "clear", "(II)V"⟩
  | 102 => ⟨"SkateSheetLaw", "sheet", "(LSkateSheet;III[J)I"⟩
  | 103 => ⟨"SkateSheet", "sheet", "(III)I"⟩
  | 104 => ⟨"SkateSheet$Sheets", "areMarks", "(I)Z"⟩
  | 105 => ⟨"SkateSheet$Sheets", "write", "(III)V"⟩
  | 106 => ⟨"SkateSheetLaw", "lose", "(LSkateSheet;II[J)I"⟩
  | 107 => ⟨"SkateSheet", "lose", "(II)I"⟩
  | 108 => ⟨"SkateSheet", "needSheet", "(II)V"⟩
  | 109 => ⟨"SkateSheet$Sheets", "erase", "(II)V"⟩
  | 110 => ⟨"SkateSheetLaw", "penalise", "(LSkateSheet;IIZ[J)I"⟩
  | 111 => ⟨"SkateSheet", "penalise", "(IIZ)Z"⟩
  | 112 => ⟨"SkateSheet$Sheets", "setPenalised", "(IIZ)V"⟩
  | 113 => ⟨"SkateSheetLaw", "close", "(LSkateSheet;[J)I"⟩
  | 114 => ⟨"SkateSheet", "close", "()I"⟩
  | 115 => ⟨"SkateSheet", "addDrifts", "()V"⟩
  | 116 => ⟨"SkateSheet$Score", "driftOf", "(LSkateSheet$Sheets;II)I"⟩
  | 117 => ⟨"SkateSheet", "givePoints", "()V"⟩
  | 118 => ⟨"SkateSheet$Couples", "agePoints", "()V"⟩
  | 119 => ⟨"SkateSheet$Couples", "raiseLevels", "(I)V"⟩
  | 120 => ⟨"SkateSheet$Event", "stop", "()V"⟩
  | 121 => ⟨"SkateSheetLaw", "ofCouple", "(LSkateSheet;II[J)I"⟩
  | 122 => ⟨"SkateSheetLaw", "meetings", "(LSkateSheet;II[J)I"⟩
  | 123 => ⟨"SkateSheetLaw", "ofJudge", "(LSkateSheet;II[J)I"⟩
  | 124 => ⟨"SkateSheetLaw", "votes", "(LSkateSheet;III[J)I"⟩
  | 125 => ⟨"SkateSheetLaw", "placed", "(LSkateSheet;III[J)I"⟩
  | 126 => ⟨"SkateSheetLaw", "result", "(LSkateSheet;II[J)I"⟩
  | 127 => ⟨"SkateSheetLaw", "many", "(LSkateSheet;I[J)I"⟩
  | 128 => ⟨"SkateSheetLaw", "exchanged", "(LSkateSheet;IIIII[J)I"⟩
  | 129 => ⟨"SkateSheet", "exchanged", "(IIIII)I"⟩
  | 130 => ⟨"SkateSheet", "tryExchange", "(IIII)V"⟩
  | 131 => ⟨"SkateSheet$Sheets", "exchange", "(IIII)V"⟩
  | 132 => ⟨"SkateSheetLaw", "bestExchange", "(LSkateSheet;III[J)I"⟩
  | 133 => ⟨"SkateSheet", "bestExchange", "(III)I"⟩
  | 134 => ⟨"SkateSheet$Event", "memberAt", "(I)I"⟩
  | 135 => ⟨"SkateSheetLaw", "without", "(LSkateSheet;II[J)I"⟩
  | 136 => ⟨"SkateSheet", "without", "(II)I"⟩
  | 137 => ⟨"SkateSheetModel", "<init>", "()V"⟩
  | 138 => ⟨"java/util/ArrayList", "<init>", "()V"⟩
  | 139 => ⟨"java/util/AbstractList", "<init>", "()V"⟩
  | 140 => ⟨"java/util/AbstractCollection", "<init>", "()V"⟩
  | 141 => ⟨"SkateSheetModel", "thrown", "()I"⟩
  | 142 => ⟨"SkateSheetModel", "couple", "(I)I"⟩
  | 143 => ⟨"SkateSheetModel", "in", "(III)Z"⟩
  | 144 => ⟨"SkateSheetModel", "no", "(I)I"⟩
  | 145 => ⟨"SkateSheetModel", "judge", "(I)I"⟩
  | 146 => ⟨"SkateSheetModel", "open", "(II)I"⟩
  | 147 => ⟨"SkateSheetModel", "size", "(I)I"⟩
  | 148 => ⟨"SkateSheetModel", "panelFor", "(I)I"⟩
  | 149 => ⟨"SkateSheetModel", "has", "(II)Z"⟩
  | 150 => ⟨"SkateSheetModel", "noHeats", "()V"⟩
  | 151 => ⟨"SkateSheetModel", "round", "(II)I"⟩
  | 152 => ⟨"SkateSheetModel", "dance", "()I"⟩
  | 153 => ⟨"SkateSheetModel", "cross", "(III)I"⟩
  | 154 => ⟨"SkateSheetModel", "isJudge", "(I)Z"⟩
  | 155 => ⟨"SkateSheetModel", "cut", "()I"⟩
  | 156 => ⟨"SkateSheetModel", "crossesOf", "(I)I"⟩
  | 157 => ⟨"SkateSheetModel", "begin", "()I"⟩
  | 158 => ⟨"SkateSheetModel", "sheet", "(III)I"⟩
  | 159 => ⟨"SkateSheetModel", "isDance", "(I)Z"⟩
  | 160 => ⟨"SkateSheetModel", "sheetsOf", "(I)I"⟩
  | 161 => ⟨"SkateSheetModel", "lose", "(II)I"⟩
  | 162 => ⟨"SkateSheetModel", "isSheet", "(II)Z"⟩
  | 163 => ⟨"SkateSheetModel", "penalise", "(IIZ)Z"⟩
  | 164 => ⟨"SkateSheetModel", "place", "(I)I"⟩
  | 165 => ⟨"SkateSheetModel", "close", "()I"⟩
  | 166 => ⟨"SkateSheetModel$Result", "<init>", "(LSkateSheetModel;I)V"⟩
  | 167 => ⟨"SkateSheetModel$Result", "place", "(I)V"⟩
  | 168 => ⟨"SkateSheetModel$Result", "count", "(IIIZ)I"⟩
  | 169 => ⟨"SkateSheetModel$Result", "ahead", "(IIII)I"⟩
  | 170 => ⟨"SkateSheetModel$Result", "over", "(I)I"⟩
  | 171 => ⟨"SkateSheetModel$Result", "give", "(III)V"⟩
  | 172 => ⟨"SkateSheetModel$Result", "ten", "(II)I"⟩
  | 173 => ⟨"SkateSheetModel$Result", "eleven", "(II)I"⟩
  | 174 => ⟨"SkateSheetModel", "standing", "(I)I"⟩
  | 175 => ⟨"java/util/ArrayList", "size", "()I"⟩
  | 176 => ⟨"SkateSheetModel", "ofCouple", "(II)I"⟩
  | 177 => ⟨"SkateSheetModel", "isCouple", "(I)Z"⟩
  | 178 => ⟨"SkateSheetModel", "coupleNow", "(II)I"⟩
  | 179 => ⟨"SkateSheetModel", "meetings", "(II)I"⟩
  | 180 => ⟨"SkateSheetModel", "ofJudge", "(II)I"⟩
  | 181 => ⟨"SkateSheetModel", "judgeNow", "(II)I"⟩
  | 182 => ⟨"SkateSheetModel", "votes", "(III)I"⟩
  | 183 => ⟨"SkateSheetModel", "placed", "(III)I"⟩
  | 184 => ⟨"SkateSheetModel", "result", "(II)I"⟩
  | 185 => ⟨"SkateSheetModel", "many", "(I)I"⟩
  | 186 => ⟨"SkateSheetModel", "manyNow", "(I)I"⟩
  | 187 => ⟨"SkateSheetModel", "meanStanding", "()D"⟩
  | 188 => ⟨"SkateSheetModel", "exchanged", "(IIIII)I"⟩
  | 189 => ⟨"SkateSheetModel", "exchangedNow", "([IIII)I"⟩
  | 190 => ⟨"SkateSheetModel", "exchange", "([III)V"⟩
  | 191 => ⟨"SkateSheetModel", "bestExchange", "(III)I"⟩
  | 192 => ⟨"SkateSheetModel", "without", "(II)I"⟩
  | 193 => ⟨"SkateSheetModel", "fragile", "()I"⟩
  | 194 => ⟨"SkateSheetModel", "fragileNow", "()I"⟩
  | 195 => ⟨"SkateSheetModel$Result", "winners", "()I"⟩
  | 196 => ⟨"SkateSheetModel", "digest", "()J"⟩
  | 197 => ⟨"SkateSheetModel", "votesNow", "(II)I"⟩
  | 198 => ⟨"SkateSheetLaw", "law", "([I)Z"⟩
  | _ => ⟨"", "", ""⟩
def xmb : Nat → ByteArray
  | 0 => prog_1_method_1_code
  | 1 => prog_2_method_1_code
  | 2 => prog_7_method_1_code
  | 3 => prog_4_method_1_code
  | 4 => prog_5_method_1_code
  | 5 => prog_3_method_1_code
  | 6 => prog_6_method_1_code
  | 7 => prog_7_method_5_code
  | 8 => prog_9_method_1_code
  | 9 => prog_8_method_1_code
  | 10 => prog_10_method_1_code
  | 11 => prog_1_method_21_code
  | 12 => prog_2_method_8_code
  | 13 => prog_4_method_2_code
  | 14 => prog_1_method_25_code
  | 15 => prog_8_method_4_code
  | 16 => prog_7_method_2_code
  | 17 => prog_20_method_49_code
  | 18 => prog_8_method_2_code
  | 19 => prog_10_method_2_code
  | 20 => prog_4_method_5_code
  | 21 => prog_1_method_37_code
  | 22 => prog_8_method_7_code
  | 23 => prog_9_method_6_code
  | 24 => prog_9_method_7_code
  | 25 => prog_7_method_4_code
  | 26 => prog_8_method_6_code
  | 27 => prog_10_method_3_code
  | 28 => prog_4_method_4_code
  | 29 => prog_8_method_8_code
  | 30 => prog_10_method_4_code
  | 31 => prog_4_method_3_code
  | 32 => prog_9_method_9_code
  | 33 => prog_8_method_9_code
  | 34 => prog_10_method_5_code
  | 35 => prog_7_method_3_code
  | 36 => prog_8_method_10_code
  | 37 => prog_10_method_7_code
  | 38 => prog_1_method_38_code
  | 39 => prog_8_method_11_code
  | 40 => prog_10_method_6_code
  | 41 => prog_8_method_12_code
  | 42 => prog_8_method_13_code
  | 43 => prog_8_method_14_code
  | 44 => prog_8_method_17_code
  | 45 => prog_8_method_15_code
  | 46 => prog_8_method_16_code
  | 47 => prog_8_method_18_code
  | 48 => prog_1_method_26_code
  | 49 => prog_1_method_20_code
  | 50 => prog_9_method_13_code
  | 51 => prog_9_method_11_code
  | 52 => prog_1_method_27_code
  | 53 => prog_1_method_14_code
  | 54 => prog_1_method_30_code
  | 55 => prog_6_method_8_code
  | 56 => prog_6_method_7_code
  | 57 => prog_1_method_15_code
  | 58 => prog_1_method_28_code
  | 59 => prog_1_method_19_code
  | 60 => prog_1_method_31_code
  | 61 => prog_3_method_5_code
  | 62 => prog_1_method_18_code
  | 63 => prog_1_method_32_code
  | 64 => prog_1_method_17_code
  | 65 => prog_8_method_3_code
  | 66 => prog_1_method_16_code
  | 67 => prog_9_method_12_code
  | 68 => method_3_code
  | 69 => prog_1_method_2_code
  | 70 => prog_1_method_29_code
  | 71 => prog_2_method_2_code
  | 72 => method_4_code
  | 73 => prog_1_method_3_code
  | 74 => prog_5_method_2_code
  | 75 => method_5_code
  | 76 => prog_1_method_4_code
  | 77 => prog_2_method_3_code
  | 78 => prog_2_method_4_code
  | 79 => prog_5_method_3_code
  | 80 => prog_3_method_2_code
  | 81 => method_6_code
  | 82 => prog_1_method_5_code
  | 83 => prog_6_method_3_code
  | 84 => prog_6_method_2_code
  | 85 => method_7_code
  | 86 => prog_1_method_6_code
  | 87 => prog_6_method_5_code
  | 88 => prog_6_method_6_code
  | 89 => prog_2_method_5_code
  | 90 => prog_2_method_6_code
  | 91 => method_8_code
  | 92 => prog_1_method_7_code
  | 93 => method_9_code
  | 94 => prog_1_method_8_code
  | 95 => prog_6_method_9_code
  | 96 => prog_6_method_10_code
  | 97 => prog_3_method_4_code
  | 98 => prog_6_method_4_code
  | 99 => method_10_code
  | 100 => prog_1_method_9_code
  | 101 => prog_9_method_2_code
  | 102 => method_11_code
  | 103 => prog_1_method_10_code
  | 104 => prog_9_method_3_code
  | 105 => prog_9_method_4_code
  | 106 => method_12_code
  | 107 => prog_1_method_11_code
  | 108 => prog_1_method_33_code
  | 109 => prog_9_method_5_code
  | 110 => method_13_code
  | 111 => prog_1_method_12_code
  | 112 => prog_9_method_10_code
  | 113 => method_14_code
  | 114 => prog_1_method_13_code
  | 115 => prog_1_method_35_code
  | 116 => prog_8_method_5_code
  | 117 => prog_1_method_36_code
  | 118 => prog_2_method_7_code
  | 119 => prog_2_method_9_code
  | 120 => prog_3_method_3_code
  | 121 => method_15_code
  | 122 => method_16_code
  | 123 => method_17_code
  | 124 => method_18_code
  | 125 => method_19_code
  | 126 => method_20_code
  | 127 => method_21_code
  | 128 => method_22_code
  | 129 => prog_1_method_22_code
  | 130 => prog_1_method_34_code
  | 131 => prog_9_method_8_code
  | 132 => method_23_code
  | 133 => prog_1_method_23_code
  | 134 => prog_3_method_6_code
  | 135 => method_24_code
  | 136 => prog_1_method_24_code
  | 137 => prog_12_method_1_code
  | 138 => prog_29_method_2_code
  | 139 => prog_28_method_1_code
  | 140 => prog_27_method_1_code
  | 141 => prog_12_method_2_code
  | 142 => prog_12_method_9_code
  | 143 => prog_12_method_4_code
  | 144 => prog_12_method_3_code
  | 145 => prog_12_method_10_code
  | 146 => prog_12_method_12_code
  | 147 => prog_12_method_6_code
  | 148 => prog_12_method_11_code
  | 149 => prog_12_method_5_code
  | 150 => prog_12_method_13_code
  | 151 => prog_12_method_14_code
  | 152 => prog_12_method_15_code
  | 153 => prog_12_method_16_code
  | 154 => prog_12_method_8_code
  | 155 => prog_12_method_18_code
  | 156 => prog_12_method_17_code
  | 157 => prog_12_method_19_code
  | 158 => prog_12_method_23_code
  | 159 => prog_12_method_20_code
  | 160 => prog_12_method_22_code
  | 161 => prog_12_method_24_code
  | 162 => prog_12_method_21_code
  | 163 => prog_12_method_26_code
  | 164 => prog_12_method_25_code
  | 165 => prog_12_method_27_code
  | 166 => prog_13_method_1_code
  | 167 => prog_13_method_4_code
  | 168 => prog_13_method_2_code
  | 169 => prog_13_method_3_code
  | 170 => prog_13_method_5_code
  | 171 => prog_13_method_6_code
  | 172 => prog_13_method_7_code
  | 173 => prog_13_method_8_code
  | 174 => prog_12_method_28_code
  | 175 => prog_29_method_8_code
  | 176 => prog_12_method_30_code
  | 177 => prog_12_method_7_code
  | 178 => prog_12_method_29_code
  | 179 => prog_12_method_31_code
  | 180 => prog_12_method_33_code
  | 181 => prog_12_method_32_code
  | 182 => prog_12_method_34_code
  | 183 => prog_12_method_35_code
  | 184 => prog_12_method_36_code
  | 185 => prog_12_method_38_code
  | 186 => prog_12_method_37_code
  | 187 => prog_12_method_39_code
  | 188 => prog_12_method_42_code
  | 189 => prog_12_method_41_code
  | 190 => prog_12_method_40_code
  | 191 => prog_12_method_43_code
  | 192 => prog_12_method_44_code
  | 193 => prog_12_method_46_code
  | 194 => prog_12_method_45_code
  | 195 => prog_13_method_9_code
  | 196 => prog_12_method_47_code
  | 197 => prog_12_method_48_code
  | 198 => code
  | _ => ⟨#[]⟩
def xml : Nat → Nat
  | 0 => 1
  | 1 => 1
  | 2 => 2
  | 3 => 4
  | 4 => 1
  | 5 => 1
  | 6 => 1
  | 7 => 3
  | 8 => 1
  | 9 => 1
  | 10 => 2
  | 11 => 3
  | 12 => 7
  | 13 => 4
  | 14 => 5
  | 15 => 4
  | 16 => 2
  | 17 => 1
  | 18 => 4
  | 19 => 2
  | 20 => 3
  | 21 => 2
  | 22 => 5
  | 23 => 3
  | 24 => 4
  | 25 => 3
  | 26 => 2
  | 27 => 3
  | 28 => 5
  | 29 => 8
  | 30 => 6
  | 31 => 5
  | 32 => 3
  | 33 => 6
  | 34 => 3
  | 35 => 3
  | 36 => 6
  | 37 => 6
  | 38 => 2
  | 39 => 8
  | 40 => 3
  | 41 => 4
  | 42 => 7
  | 43 => 3
  | 44 => 6
  | 45 => 7
  | 46 => 8
  | 47 => 6
  | 48 => 5
  | 49 => 2
  | 50 => 3
  | 51 => 4
  | 52 => 7
  | 53 => 3
  | 54 => 2
  | 55 => 4
  | 56 => 5
  | 57 => 3
  | 58 => 7
  | 59 => 4
  | 60 => 2
  | 61 => 2
  | 62 => 5
  | 63 => 2
  | 64 => 4
  | 65 => 4
  | 66 => 3
  | 67 => 4
  | 68 => 4
  | 69 => 2
  | 70 => 1
  | 71 => 2
  | 72 => 4
  | 73 => 2
  | 74 => 2
  | 75 => 5
  | 76 => 4
  | 77 => 2
  | 78 => 4
  | 79 => 5
  | 80 => 4
  | 81 => 5
  | 82 => 3
  | 83 => 3
  | 84 => 1
  | 85 => 3
  | 86 => 1
  | 87 => 6
  | 88 => 9
  | 89 => 5
  | 90 => 4
  | 91 => 6
  | 92 => 4
  | 93 => 3
  | 94 => 2
  | 95 => 4
  | 96 => 6
  | 97 => 3
  | 98 => 1
  | 99 => 3
  | 100 => 2
  | 101 => 3
  | 102 => 6
  | 103 => 4
  | 104 => 6
  | 105 => 6
  | 106 => 5
  | 107 => 3
  | 108 => 3
  | 109 => 3
  | 110 => 6
  | 111 => 6
  | 112 => 5
  | 113 => 3
  | 114 => 1
  | 115 => 3
  | 116 => 6
  | 117 => 3
  | 118 => 3
  | 119 => 3
  | 120 => 1
  | 121 => 5
  | 122 => 5
  | 123 => 5
  | 124 => 6
  | 125 => 6
  | 126 => 5
  | 127 => 4
  | 128 => 8
  | 129 => 6
  | 130 => 5
  | 131 => 6
  | 132 => 6
  | 133 => 10
  | 134 => 3
  | 135 => 5
  | 136 => 3
  | 137 => 1
  | 138 => 1
  | 139 => 1
  | 140 => 1
  | 141 => 1
  | 142 => 2
  | 143 => 3
  | 144 => 2
  | 145 => 2
  | 146 => 3
  | 147 => 3
  | 148 => 7
  | 149 => 2
  | 150 => 2
  | 151 => 3
  | 152 => 9
  | 153 => 6
  | 154 => 2
  | 155 => 5
  | 156 => 5
  | 157 => 3
  | 158 => 9
  | 159 => 2
  | 160 => 4
  | 161 => 3
  | 162 => 3
  | 163 => 6
  | 164 => 3
  | 165 => 6
  | 166 => 5
  | 167 => 15
  | 168 => 8
  | 169 => 8
  | 170 => 7
  | 171 => 5
  | 172 => 10
  | 173 => 12
  | 174 => 7
  | 175 => 1
  | 176 => 3
  | 177 => 2
  | 178 => 4
  | 179 => 3
  | 180 => 3
  | 181 => 5
  | 182 => 7
  | 183 => 6
  | 184 => 5
  | 185 => 2
  | 186 => 4
  | 187 => 3
  | 188 => 6
  | 189 => 6
  | 190 => 5
  | 191 => 9
  | 192 => 3
  | 193 => 1
  | 194 => 4
  | 195 => 4
  | 196 => 7
  | 197 => 5
  | 198 => 9
  | _ => 0
def xmr : Nat → Option FieldType
  | 0 => (Option.none : Option Jvm.ClassFile.FieldType)
  | 1 => (Option.none : Option Jvm.ClassFile.FieldType)
  | 2 => (Option.none : Option Jvm.ClassFile.FieldType)
  | 3 => (Option.none : Option Jvm.ClassFile.FieldType)
  | 4 => (Option.none : Option Jvm.ClassFile.FieldType)
  | 5 => (Option.none : Option Jvm.ClassFile.FieldType)
  | 6 => (Option.none : Option Jvm.ClassFile.FieldType)
  | 7 => (Option.none : Option Jvm.ClassFile.FieldType)
  | 8 => (Option.none : Option Jvm.ClassFile.FieldType)
  | 9 => (Option.none : Option Jvm.ClassFile.FieldType)
  | 10 => (Option.none : Option Jvm.ClassFile.FieldType)
  | 11 => (Option.some Jvm.ClassFile.FieldType.double)
  | 12 => (Option.some Jvm.ClassFile.FieldType.int)
  | 13 => (Option.some Jvm.ClassFile.FieldType.int)
  | 14 => (Option.some Jvm.ClassFile.FieldType.int)
  | 15 => (Option.some Jvm.ClassFile.FieldType.int)
  | 16 => (Option.some Jvm.ClassFile.FieldType.int)
  | 17 => (Option.some Jvm.ClassFile.FieldType.int)
  | 18 => (Option.none : Option Jvm.ClassFile.FieldType)
  | 19 => (Option.none : Option Jvm.ClassFile.FieldType)
  | 20 => (Option.none : Option Jvm.ClassFile.FieldType)
  | 21 => (Option.some Jvm.ClassFile.FieldType.boolean)
  | 22 => (Option.none : Option Jvm.ClassFile.FieldType)
  | 23 => (Option.some Jvm.ClassFile.FieldType.boolean)
  | 24 => (Option.some Jvm.ClassFile.FieldType.int)
  | 25 => (Option.none : Option Jvm.ClassFile.FieldType)
  | 26 => (Option.some Jvm.ClassFile.FieldType.int)
  | 27 => (Option.none : Option Jvm.ClassFile.FieldType)
  | 28 => (Option.none : Option Jvm.ClassFile.FieldType)
  | 29 => (Option.none : Option Jvm.ClassFile.FieldType)
  | 30 => (Option.none : Option Jvm.ClassFile.FieldType)
  | 31 => (Option.none : Option Jvm.ClassFile.FieldType)
  | 32 => (Option.some Jvm.ClassFile.FieldType.boolean)
  | 33 => (Option.some Jvm.ClassFile.FieldType.int)
  | 34 => (Option.some Jvm.ClassFile.FieldType.int)
  | 35 => (Option.none : Option Jvm.ClassFile.FieldType)
  | 36 => (Option.some Jvm.ClassFile.FieldType.int)
  | 37 => (Option.some Jvm.ClassFile.FieldType.int)
  | 38 => (Option.some Jvm.ClassFile.FieldType.int)
  | 39 => (Option.some Jvm.ClassFile.FieldType.int)
  | 40 => (Option.some Jvm.ClassFile.FieldType.int)
  | 41 => (Option.none : Option Jvm.ClassFile.FieldType)
  | 42 => (Option.none : Option Jvm.ClassFile.FieldType)
  | 43 => (Option.some Jvm.ClassFile.FieldType.int)
  | 44 => (Option.some Jvm.ClassFile.FieldType.int)
  | 45 => (Option.some Jvm.ClassFile.FieldType.int)
  | 46 => (Option.some Jvm.ClassFile.FieldType.int)
  | 47 => (Option.none : Option Jvm.ClassFile.FieldType)
  | 48 => (Option.some Jvm.ClassFile.FieldType.long)
  | 49 => (Option.some Jvm.ClassFile.FieldType.int)
  | 50 => (Option.some Jvm.ClassFile.FieldType.int)
  | 51 => (Option.some Jvm.ClassFile.FieldType.int)
  | 52 => (Option.some Jvm.ClassFile.FieldType.long)
  | 53 => (Option.some Jvm.ClassFile.FieldType.int)
  | 54 => (Option.none : Option Jvm.ClassFile.FieldType)
  | 55 => (Option.some Jvm.ClassFile.FieldType.int)
  | 56 => (Option.some Jvm.ClassFile.FieldType.int)
  | 57 => (Option.some Jvm.ClassFile.FieldType.int)
  | 58 => (Option.some Jvm.ClassFile.FieldType.long)
  | 59 => (Option.some Jvm.ClassFile.FieldType.int)
  | 60 => (Option.none : Option Jvm.ClassFile.FieldType)
  | 61 => (Option.some Jvm.ClassFile.FieldType.int)
  | 62 => (Option.some Jvm.ClassFile.FieldType.int)
  | 63 => (Option.none : Option Jvm.ClassFile.FieldType)
  | 64 => (Option.some Jvm.ClassFile.FieldType.int)
  | 65 => (Option.some Jvm.ClassFile.FieldType.int)
  | 66 => (Option.some Jvm.ClassFile.FieldType.int)
  | 67 => (Option.some Jvm.ClassFile.FieldType.int)
  | 68 => (Option.some Jvm.ClassFile.FieldType.int)
  | 69 => (Option.some Jvm.ClassFile.FieldType.int)
  | 70 => (Option.none : Option Jvm.ClassFile.FieldType)
  | 71 => (Option.some Jvm.ClassFile.FieldType.int)
  | 72 => (Option.some Jvm.ClassFile.FieldType.int)
  | 73 => (Option.some Jvm.ClassFile.FieldType.int)
  | 74 => (Option.some Jvm.ClassFile.FieldType.int)
  | 75 => (Option.some Jvm.ClassFile.FieldType.int)
  | 76 => (Option.some Jvm.ClassFile.FieldType.int)
  | 77 => (Option.some Jvm.ClassFile.FieldType.boolean)
  | 78 => (Option.some Jvm.ClassFile.FieldType.int)
  | 79 => (Option.some Jvm.ClassFile.FieldType.int)
  | 80 => (Option.none : Option Jvm.ClassFile.FieldType)
  | 81 => (Option.some Jvm.ClassFile.FieldType.int)
  | 82 => (Option.some Jvm.ClassFile.FieldType.int)
  | 83 => (Option.none : Option Jvm.ClassFile.FieldType)
  | 84 => (Option.none : Option Jvm.ClassFile.FieldType)
  | 85 => (Option.some Jvm.ClassFile.FieldType.int)
  | 86 => (Option.some Jvm.ClassFile.FieldType.int)
  | 87 => (Option.some Jvm.ClassFile.FieldType.int)
  | 88 => (Option.some Jvm.ClassFile.FieldType.int)
  | 89 => (Option.some Jvm.ClassFile.FieldType.int)
  | 90 => (Option.none : Option Jvm.ClassFile.FieldType)
  | 91 => (Option.some Jvm.ClassFile.FieldType.int)
  | 92 => (Option.some Jvm.ClassFile.FieldType.int)
  | 93 => (Option.some Jvm.ClassFile.FieldType.int)
  | 94 => (Option.some Jvm.ClassFile.FieldType.int)
  | 95 => (Option.some Jvm.ClassFile.FieldType.int)
  | 96 => (Option.some Jvm.ClassFile.FieldType.int)
  | 97 => (Option.none : Option Jvm.ClassFile.FieldType)
  | 98 => (Option.none : Option Jvm.ClassFile.FieldType)
  | 99 => (Option.some Jvm.ClassFile.FieldType.int)
  | 100 => (Option.some Jvm.ClassFile.FieldType.int)
  | 101 => (Option.none : Option Jvm.ClassFile.FieldType)
  | 102 => (Option.some Jvm.ClassFile.FieldType.int)
  | 103 => (Option.some Jvm.ClassFile.FieldType.int)
  | 104 => (Option.some Jvm.ClassFile.FieldType.boolean)
  | 105 => (Option.none : Option Jvm.ClassFile.FieldType)
  | 106 => (Option.some Jvm.ClassFile.FieldType.int)
  | 107 => (Option.some Jvm.ClassFile.FieldType.int)
  | 108 => (Option.none : Option Jvm.ClassFile.FieldType)
  | 109 => (Option.none : Option Jvm.ClassFile.FieldType)
  | 110 => (Option.some Jvm.ClassFile.FieldType.int)
  | 111 => (Option.some Jvm.ClassFile.FieldType.boolean)
  | 112 => (Option.none : Option Jvm.ClassFile.FieldType)
  | 113 => (Option.some Jvm.ClassFile.FieldType.int)
  | 114 => (Option.some Jvm.ClassFile.FieldType.int)
  | 115 => (Option.none : Option Jvm.ClassFile.FieldType)
  | 116 => (Option.some Jvm.ClassFile.FieldType.int)
  | 117 => (Option.none : Option Jvm.ClassFile.FieldType)
  | 118 => (Option.none : Option Jvm.ClassFile.FieldType)
  | 119 => (Option.none : Option Jvm.ClassFile.FieldType)
  | 120 => (Option.none : Option Jvm.ClassFile.FieldType)
  | 121 => (Option.some Jvm.ClassFile.FieldType.int)
  | 122 => (Option.some Jvm.ClassFile.FieldType.int)
  | 123 => (Option.some Jvm.ClassFile.FieldType.int)
  | 124 => (Option.some Jvm.ClassFile.FieldType.int)
  | 125 => (Option.some Jvm.ClassFile.FieldType.int)
  | 126 => (Option.some Jvm.ClassFile.FieldType.int)
  | 127 => (Option.some Jvm.ClassFile.FieldType.int)
  | 128 => (Option.some Jvm.ClassFile.FieldType.int)
  | 129 => (Option.some Jvm.ClassFile.FieldType.int)
  | 130 => (Option.none : Option Jvm.ClassFile.FieldType)
  | 131 => (Option.none : Option Jvm.ClassFile.FieldType)
  | 132 => (Option.some Jvm.ClassFile.FieldType.int)
  | 133 => (Option.some Jvm.ClassFile.FieldType.int)
  | 134 => (Option.some Jvm.ClassFile.FieldType.int)
  | 135 => (Option.some Jvm.ClassFile.FieldType.int)
  | 136 => (Option.some Jvm.ClassFile.FieldType.int)
  | 137 => (Option.none : Option Jvm.ClassFile.FieldType)
  | 138 => (Option.none : Option Jvm.ClassFile.FieldType)
  | 139 => (Option.none : Option Jvm.ClassFile.FieldType)
  | 140 => (Option.none : Option Jvm.ClassFile.FieldType)
  | 141 => (Option.some Jvm.ClassFile.FieldType.int)
  | 142 => (Option.some Jvm.ClassFile.FieldType.int)
  | 143 => (Option.some Jvm.ClassFile.FieldType.boolean)
  | 144 => (Option.some Jvm.ClassFile.FieldType.int)
  | 145 => (Option.some Jvm.ClassFile.FieldType.int)
  | 146 => (Option.some Jvm.ClassFile.FieldType.int)
  | 147 => (Option.some Jvm.ClassFile.FieldType.int)
  | 148 => (Option.some Jvm.ClassFile.FieldType.int)
  | 149 => (Option.some Jvm.ClassFile.FieldType.boolean)
  | 150 => (Option.none : Option Jvm.ClassFile.FieldType)
  | 151 => (Option.some Jvm.ClassFile.FieldType.int)
  | 152 => (Option.some Jvm.ClassFile.FieldType.int)
  | 153 => (Option.some Jvm.ClassFile.FieldType.int)
  | 154 => (Option.some Jvm.ClassFile.FieldType.boolean)
  | 155 => (Option.some Jvm.ClassFile.FieldType.int)
  | 156 => (Option.some Jvm.ClassFile.FieldType.int)
  | 157 => (Option.some Jvm.ClassFile.FieldType.int)
  | 158 => (Option.some Jvm.ClassFile.FieldType.int)
  | 159 => (Option.some Jvm.ClassFile.FieldType.boolean)
  | 160 => (Option.some Jvm.ClassFile.FieldType.int)
  | 161 => (Option.some Jvm.ClassFile.FieldType.int)
  | 162 => (Option.some Jvm.ClassFile.FieldType.boolean)
  | 163 => (Option.some Jvm.ClassFile.FieldType.boolean)
  | 164 => (Option.some Jvm.ClassFile.FieldType.int)
  | 165 => (Option.some Jvm.ClassFile.FieldType.int)
  | 166 => (Option.none : Option Jvm.ClassFile.FieldType)
  | 167 => (Option.none : Option Jvm.ClassFile.FieldType)
  | 168 => (Option.some Jvm.ClassFile.FieldType.int)
  | 169 => (Option.some Jvm.ClassFile.FieldType.int)
  | 170 => (Option.some Jvm.ClassFile.FieldType.int)
  | 171 => (Option.none : Option Jvm.ClassFile.FieldType)
  | 172 => (Option.some Jvm.ClassFile.FieldType.int)
  | 173 => (Option.some Jvm.ClassFile.FieldType.int)
  | 174 => (Option.some Jvm.ClassFile.FieldType.int)
  | 175 => (Option.some Jvm.ClassFile.FieldType.int)
  | 176 => (Option.some Jvm.ClassFile.FieldType.int)
  | 177 => (Option.some Jvm.ClassFile.FieldType.boolean)
  | 178 => (Option.some Jvm.ClassFile.FieldType.int)
  | 179 => (Option.some Jvm.ClassFile.FieldType.int)
  | 180 => (Option.some Jvm.ClassFile.FieldType.int)
  | 181 => (Option.some Jvm.ClassFile.FieldType.int)
  | 182 => (Option.some Jvm.ClassFile.FieldType.int)
  | 183 => (Option.some Jvm.ClassFile.FieldType.int)
  | 184 => (Option.some Jvm.ClassFile.FieldType.int)
  | 185 => (Option.some Jvm.ClassFile.FieldType.int)
  | 186 => (Option.some Jvm.ClassFile.FieldType.int)
  | 187 => (Option.some Jvm.ClassFile.FieldType.double)
  | 188 => (Option.some Jvm.ClassFile.FieldType.int)
  | 189 => (Option.some Jvm.ClassFile.FieldType.int)
  | 190 => (Option.none : Option Jvm.ClassFile.FieldType)
  | 191 => (Option.some Jvm.ClassFile.FieldType.int)
  | 192 => (Option.some Jvm.ClassFile.FieldType.int)
  | 193 => (Option.some Jvm.ClassFile.FieldType.int)
  | 194 => (Option.some Jvm.ClassFile.FieldType.int)
  | 195 => (Option.some Jvm.ClassFile.FieldType.int)
  | 196 => (Option.some Jvm.ClassFile.FieldType.long)
  | 197 => (Option.some Jvm.ClassFile.FieldType.int)
  | 198 => (Option.some Jvm.ClassFile.FieldType.boolean)
  | _ => none
def xmn : Nat → Nat
  | 0 => 0
  | 1 => 0
  | 2 => 1
  | 3 => 2
  | 4 => 0
  | 5 => 0
  | 6 => 0
  | 7 => 1
  | 8 => 0
  | 9 => 0
  | 10 => 1
  | 11 => 0
  | 12 => 1
  | 13 => 2
  | 14 => 0
  | 15 => 0
  | 16 => 1
  | 17 => 1
  | 18 => 2
  | 19 => 1
  | 20 => 1
  | 21 => 2
  | 22 => 2
  | 23 => 2
  | 24 => 3
  | 25 => 2
  | 26 => 2
  | 27 => 2
  | 28 => 3
  | 29 => 2
  | 30 => 1
  | 31 => 3
  | 32 => 2
  | 33 => 3
  | 34 => 2
  | 35 => 2
  | 36 => 3
  | 37 => 3
  | 38 => 2
  | 39 => 2
  | 40 => 2
  | 41 => 0
  | 42 => 0
  | 43 => 1
  | 44 => 1
  | 45 => 2
  | 46 => 2
  | 47 => 3
  | 48 => 0
  | 49 => 1
  | 50 => 0
  | 51 => 1
  | 52 => 2
  | 53 => 2
  | 54 => 1
  | 55 => 1
  | 56 => 2
  | 57 => 2
  | 58 => 2
  | 59 => 2
  | 60 => 1
  | 61 => 1
  | 62 => 3
  | 63 => 1
  | 64 => 3
  | 65 => 3
  | 66 => 2
  | 67 => 1
  | 68 => 3
  | 69 => 1
  | 70 => 1
  | 71 => 1
  | 72 => 3
  | 73 => 1
  | 74 => 1
  | 75 => 4
  | 76 => 2
  | 77 => 1
  | 78 => 1
  | 79 => 1
  | 80 => 3
  | 81 => 4
  | 82 => 2
  | 83 => 2
  | 84 => 0
  | 85 => 2
  | 86 => 0
  | 87 => 2
  | 88 => 3
  | 89 => 2
  | 90 => 1
  | 91 => 5
  | 92 => 3
  | 93 => 2
  | 94 => 0
  | 95 => 1
  | 96 => 2
  | 97 => 1
  | 98 => 0
  | 99 => 2
  | 100 => 0
  | 101 => 2
  | 102 => 5
  | 103 => 3
  | 104 => 1
  | 105 => 3
  | 106 => 4
  | 107 => 2
  | 108 => 2
  | 109 => 2
  | 110 => 5
  | 111 => 3
  | 112 => 3
  | 113 => 2
  | 114 => 0
  | 115 => 0
  | 116 => 3
  | 117 => 0
  | 118 => 0
  | 119 => 1
  | 120 => 0
  | 121 => 4
  | 122 => 4
  | 123 => 4
  | 124 => 5
  | 125 => 5
  | 126 => 4
  | 127 => 3
  | 128 => 7
  | 129 => 5
  | 130 => 4
  | 131 => 4
  | 132 => 5
  | 133 => 3
  | 134 => 1
  | 135 => 4
  | 136 => 2
  | 137 => 0
  | 138 => 0
  | 139 => 0
  | 140 => 0
  | 141 => 0
  | 142 => 1
  | 143 => 3
  | 144 => 1
  | 145 => 1
  | 146 => 2
  | 147 => 1
  | 148 => 1
  | 149 => 2
  | 150 => 0
  | 151 => 2
  | 152 => 0
  | 153 => 3
  | 154 => 1
  | 155 => 0
  | 156 => 1
  | 157 => 0
  | 158 => 3
  | 159 => 1
  | 160 => 1
  | 161 => 2
  | 162 => 2
  | 163 => 3
  | 164 => 1
  | 165 => 0
  | 166 => 2
  | 167 => 1
  | 168 => 4
  | 169 => 4
  | 170 => 1
  | 171 => 3
  | 172 => 2
  | 173 => 2
  | 174 => 1
  | 175 => 0
  | 176 => 2
  | 177 => 1
  | 178 => 2
  | 179 => 2
  | 180 => 2
  | 181 => 2
  | 182 => 3
  | 183 => 3
  | 184 => 2
  | 185 => 1
  | 186 => 1
  | 187 => 0
  | 188 => 5
  | 189 => 4
  | 190 => 3
  | 191 => 3
  | 192 => 2
  | 193 => 0
  | 194 => 0
  | 195 => 0
  | 196 => 0
  | 197 => 2
  | 198 => 1
  | _ => 0
def xc0 : List (Option Instr) := [some (.aload_n 0), some (.invokespecial 1), none, none, some (.aload_n 0), some (.new 7), none, none, some (.dup), some (.invokespecial 9), none, none, some (.putfield 10), none, none, some (.aload_n 0), some (.new 16), none, none, some (.dup), some (.invokespecial 18), none, none, some (.putfield 19), none, none, some (.aload_n 0), some (.new 23), none, none, some (.dup), some (.invokespecial 25), none, none, some (.putfield 26), none, none, some (.aload_n 0), some (.new 30), none, none, some (.dup), some (.invokespecial 32), none, none, some (.putfield 33), none, none, some (.aload_n 0), some (.new 37), none, none, some (.dup), some (.invokespecial 39), none, none, some (.putfield 40), none, none, some (.aload_n 0), some (.new 44), none, none, some (.dup), some (.invokespecial 46), none, none, some (.putfield 47), none, none, some (.aload_n 0), some (.new 44), none, none, some (.dup), some (.invokespecial 46), none, none, some (.putfield 51), none, none, some (.return_)]
def xc1 : List (Option Instr) := [some (.aload_n 0), some (.invokespecial 3), none, none, some (.aload_n 0), some (.new 9), none, none, some (.dup), some (.bipush 10), none, some (.invokespecial 11), none, none, some (.putfield 14), none, none, some (.aload_n 0), some (.new 9), none, none, some (.dup), some (.bipush 10), none, some (.invokespecial 11), none, none, some (.putfield 20), none, none, some (.aload_n 0), some (.new 23), none, none, some (.dup), some (.bipush 10), none, some (.bipush 10), none, some (.invokespecial 25), none, none, some (.putfield 28), none, none, some (.aload_n 0), some (.new 23), none, none, some (.dup), some (.bipush 10), none, some (.iconst 5), some (.invokespecial 25), none, none, some (.putfield 32), none, none, some (.return_)]
def xc2 : List (Option Instr) := [some (.aload_n 0), some (.invokespecial 1), none, none, some (.aload_n 0), some (.iload_n 1), some (.ifCond .le 7), none, none, some (.iload_n 1), some (.goto 4), none, none, some (.iconst 0), some (.newarray .int), none, some (.putfield 7), none, none, some (.return_)]
def xc3 : List (Option Instr) := [some (.aload_n 0), some (.invokespecial 3), none, none, some (.iload_n 1), some (.iload_n 2), some (.imul), some (.istore_n 3), some (.aload_n 0), some (.iload_n 2), some (.putfield 9), none, none, some (.aload_n 0), some (.iload_n 3), some (.ifCond .le 7), none, none, some (.iload_n 3), some (.goto 4), none, none, some (.iconst 0), some (.newarray .int), none, some (.putfield 15), none, none, some (.return_)]
def xc4 : List (Option Instr) := [some (.aload_n 0), some (.invokespecial 3), none, none, some (.aload_n 0), some (.new 9), none, none, some (.dup), some (.bipush 7), none, some (.invokespecial 11), none, none, some (.putfield 14), none, none, some (.aload_n 0), some (.new 9), none, none, some (.dup), some (.bipush 7), none, some (.invokespecial 11), none, none, some (.putfield 20), none, none, some (.return_)]
def xc5 : List (Option Instr) := [some (.aload_n 0), some (.invokespecial 3), none, none, some (.aload_n 0), some (.new 9), none, none, some (.dup), some (.bipush 10), none, some (.invokespecial 11), none, none, some (.putfield 14), none, none, some (.return_)]
def xc6 : List (Option Instr) := [some (.aload_n 0), some (.invokespecial 3), none, none, some (.aload_n 0), some (.new 9), none, none, some (.dup), some (.bipush 7), none, some (.iconst 5), some (.invokespecial 11), none, none, some (.putfield 14), none, none, some (.aload_n 0), some (.new 20), none, none, some (.dup), some (.bipush 10), none, some (.invokespecial 22), none, none, some (.putfield 25), none, none, some (.aload_n 0), some (.new 20), none, none, some (.dup), some (.iconst 5), some (.invokespecial 22), none, none, some (.putfield 29), none, none, some (.aload_n 0), some (.getfield 25), none, none, some (.iconst (-1)), some (.invokevirtual 32), none, none, some (.return_)]
def xc7 : List (Option Instr) := [some (.iconst 0), some (.istore_n 2), some (.iload_n 2), some (.aload_n 0), some (.getfield 7), none, none, some (.arraylength), some (.if_icmp .ge 16), none, none, some (.aload_n 0), some (.getfield 7), none, none, some (.iload_n 2), some (.iload_n 1), some (.iastore), some (.iinc 2 1), none, none, some (.goto (-19)), none, none, some (.return_)]
def xc8 : List (Option Instr) := [some (.aload_n 0), some (.invokespecial 3), none, none, some (.aload_n 0), some (.new 9), none, none, some (.dup), some (.bipush 35), none, some (.bipush 8), none, some (.invokespecial 11), none, none, some (.putfield 14), none, none, some (.aload_n 0), some (.new 20), none, none, some (.dup), some (.iconst 5), some (.invokespecial 22), none, none, some (.putfield 25), none, none, some (.return_)]
def xc9 : List (Option Instr) := [some (.aload_n 0), some (.invokespecial 3), none, none, some (.aload_n 0), some (.new 9), none, none, some (.dup), some (.iconst 5), some (.bipush 8), none, some (.invokespecial 11), none, none, some (.putfield 14), none, none, some (.aload_n 0), some (.new 9), none, none, some (.dup), some (.iconst 5), some (.bipush 8), none, some (.invokespecial 11), none, none, some (.putfield 20), none, none, some (.aload_n 0), some (.new 23), none, none, some (.dup), some (.bipush 8), none, some (.invokespecial 25), none, none, some (.putfield 28), none, none, some (.aload_n 0), some (.new 23), none, none, some (.dup), some (.bipush 8), none, some (.invokespecial 25), none, none, some (.putfield 32), none, none, some (.aload_n 0), some (.new 23), none, none, some (.dup), some (.bipush 8), none, some (.invokespecial 25), none, none, some (.putfield 35), none, none, some (.aload_n 0), some (.new 38), none, none, some (.dup), some (.bipush 40), none, some (.invokespecial 40), none, none, some (.putfield 41), none, none, some (.aload_n 0), some (.new 23), none, none, some (.dup), some (.iconst 5), some (.invokespecial 25), none, none, some (.putfield 45), none, none, some (.aload_n 0), some (.new 23), none, none, some (.dup), some (.bipush 8), none, some (.invokespecial 25), none, none, some (.putfield 48), none, none, some (.aload_n 0), some (.new 23), none, none, some (.dup), some (.bipush 8), none, some (.invokespecial 25), none, none, some (.putfield 51), none, none, some (.return_)]
def xc10 : List (Option Instr) := [some (.aload_n 0), some (.invokespecial 3), none, none, some (.aload_n 0), some (.new 9), none, none, some (.dup), some (.iload_n 1), some (.bipush 9), none, some (.invokespecial 11), none, none, some (.putfield 14), none, none, some (.aload_n 0), some (.new 9), none, none, some (.dup), some (.iload_n 1), some (.bipush 9), none, some (.invokespecial 11), none, none, some (.putfield 20), none, none, some (.return_)]
def xc11 : List (Option Instr) := [some (.iconst 0), some (.istore_n 1), some (.iconst 0), some (.istore_n 2), some (.iload_n 2), some (.aload_n 0), some (.getfield 10), none, none, some (.getfield 58), none, none, some (.if_icmp .ge 20), none, none, some (.iload_n 1), some (.aload_n 0), some (.getfield 10), none, none, some (.iload_n 2), some (.invokevirtual 261), none, none, some (.iadd), some (.istore_n 1), some (.iinc 2 1), none, none, some (.goto (-25)), none, none, some (.aload_n 0), some (.getfield 10), none, none, some (.getfield 58), none, none, some (.ifCond .le 17), none, none, some (.iload_n 1), some (.i2d), some (.aload_n 0), some (.getfield 10), none, none, some (.getfield 58), none, none, some (.i2d), some (.ddiv), some (.goto 4), none, none, some (.dconst 0), some (.dreturn)]
def xc12 : List (Option Instr) := [some (.iconst 0), some (.istore_n 2), some (.iconst 0), some (.istore_n 3), some (.iconst 0), some (.istore 4), none, some (.iconst 0), some (.istore 5), none, some (.iload 5), none, some (.iconst 5), some (.if_icmp .ge 69), none, none, some (.aload_n 0), some (.getfield 32), none, none, some (.iload_n 1), some (.iload 5), none, some (.invokevirtual 50), none, none, some (.iconst 5), some (.iload 5), none, some (.isub), some (.imul), some (.istore 6), none, some (.iload 6), none, some (.iload_n 2), some (.if_icmp .le 14), none, none, some (.iload_n 3), some (.istore 4), none, some (.iload_n 2), some (.istore_n 3), some (.iload 6), none, some (.istore_n 2), some (.goto 29), none, none, some (.iload 6), none, some (.iload_n 3), some (.if_icmp .le 12), none, none, some (.iload_n 3), some (.istore 4), none, some (.iload 6), none, some (.istore_n 3), some (.goto 14), none, none, some (.iload 6), none, some (.iload 4), none, some (.if_icmp .le 7), none, none, some (.iload 6), none, some (.istore 4), none, some (.iinc 5 1), none, none, some (.goto (-69)), none, none, some (.iload_n 2), some (.iload_n 3), some (.iadd), some (.iload 4), none, some (.iadd), some (.ireturn)]
def xc13 : List (Option Instr) := [some (.iload_n 2), some (.ifCond .lt 22), none, none, some (.iload_n 2), some (.aload_n 0), some (.getfield 9), none, none, some (.if_icmp .ge 14), none, none, some (.iload_n 1), some (.aload_n 0), some (.getfield 9), none, none, some (.imul), some (.iload_n 2), some (.iadd), some (.goto 4), none, none, some (.iconst (-1)), some (.istore_n 3), some (.iload_n 3), some (.ifCond .lt 21), none, none, some (.iload_n 3), some (.aload_n 0), some (.getfield 15), none, none, some (.arraylength), some (.if_icmp .ge 12), none, none, some (.aload_n 0), some (.getfield 15), none, none, some (.iload_n 3), some (.iaload), some (.goto 4), none, none, some (.iconst 0), some (.ireturn)]
def xc14 : List (Option Instr) := [some (.aload_n 0), some (.getfield 111), none, none, some (.ifCond .ne 5), none, none, some (.iconst (-1)), some (.ireturn), some (.aload_n 0), some (.getfield 47), none, none, some (.invokevirtual 334), none, none, some (.istore_n 1), some (.aload_n 0), some (.getfield 26), none, none, some (.getfield 140), none, none, some (.invokestatic 85), none, none, some (.istore_n 2), some (.iconst 1), some (.istore_n 3), some (.iload_n 3), some (.iload_n 2), some (.if_icmp .ge 76), none, none, some (.iconst 1), some (.istore 4), none, some (.iload 4), none, some (.sipush 128), none, none, some (.if_icmp .ge 59), none, none, some (.iload 4), none, some (.aload_n 0), some (.getfield 26), none, none, some (.getfield 140), none, none, some (.iconst (-1)), some (.ixor), some (.iand), some (.ifCond .ne 38), none, none, some (.iload 4), none, some (.invokestatic 85), none, none, some (.iload_n 3), some (.if_icmp .ne 29), none, none, some (.aload_n 0), some (.getfield 51), none, none, some (.aload_n 0), some (.getfield 40), none, none, some (.iload 4), none, some (.invokevirtual 186), none, none, some (.aload_n 0), some (.getfield 51), none, none, some (.invokevirtual 334), none, none, some (.iload_n 1), some (.if_icmp .eq 5), none, none, some (.iload_n 3), some (.ireturn), some (.iinc 4 1), none, none, some (.goto (-61)), none, none, some (.iinc 3 1), none, none, some (.goto (-75)), none, none, some (.iconst (-1)), some (.ireturn)]
def xc15 : List (Option Instr) := [some (.bipush 16), none, some (.istore_n 1), some (.iconst 0), some (.istore_n 2), some (.iload_n 2), some (.aload_n 0), some (.getfield 60), none, none, some (.if_icmp .ge 22), none, none, some (.iload_n 1), some (.aload_n 0), some (.getfield 32), none, none, some (.iload_n 2), some (.invokevirtual 95), none, none, some (.invokestatic 99), none, none, some (.istore_n 1), some (.iinc 2 1), none, none, some (.goto (-24)), none, none, some (.iconst 0), some (.istore_n 2), some (.iconst 0), some (.istore_n 3), some (.iload_n 3), some (.aload_n 0), some (.getfield 60), none, none, some (.if_icmp .ge 27), none, none, some (.aload_n 0), some (.getfield 32), none, none, some (.iload_n 3), some (.invokevirtual 95), none, none, some (.iload_n 1), some (.if_icmp .ne 9), none, none, some (.iload_n 2), some (.iconst 1), some (.iload_n 3), some (.ishl), some (.ior), some (.istore_n 2), some (.iinc 3 1), none, none, some (.goto (-29)), none, none, some (.iload_n 2), some (.ireturn)]
def xc16 : List (Option Instr) := [some (.iload_n 1), some (.ifCond .lt 21), none, none, some (.iload_n 1), some (.aload_n 0), some (.getfield 7), none, none, some (.arraylength), some (.if_icmp .ge 12), none, none, some (.aload_n 0), some (.getfield 7), none, none, some (.iload_n 1), some (.iaload), some (.goto 4), none, none, some (.iconst 0), some (.ireturn)]
def xc17 : List (Option Instr) := [some (.iload_n 0), some (.iload_n 0), some (.iconst 1), some (.iushr), some (.ldc_w 265), none, none, some (.iand), some (.isub), some (.istore_n 0), some (.iload_n 0), some (.ldc_w 266), none, none, some (.iand), some (.iload_n 0), some (.iconst 2), some (.iushr), some (.ldc_w 266), none, none, some (.iand), some (.iadd), some (.istore_n 0), some (.iload_n 0), some (.iload_n 0), some (.iconst 4), some (.iushr), some (.iadd), some (.ldc_w 267), none, none, some (.iand), some (.istore_n 0), some (.iload_n 0), some (.iload_n 0), some (.bipush 8), none, some (.iushr), some (.iadd), some (.istore_n 0), some (.iload_n 0), some (.iload_n 0), some (.bipush 16), none, some (.iushr), some (.iadd), some (.istore_n 0), some (.iload_n 0), some (.bipush 63), none, some (.iand), some (.ireturn)]
def xc18 : List (Option Instr) := [some (.aload_n 0), some (.aload_n 1), some (.getfield 54), none, none, some (.putfield 60), none, none, some (.aload_n 0), some (.aload_n 1), some (.getfield 61), none, none, some (.putfield 64), none, none, some (.aload_n 0), some (.getfield 41), none, none, some (.aload_n 0), some (.getfield 60), none, none, some (.invokevirtual 65), none, none, some (.aload_n 0), some (.getfield 45), none, none, some (.iconst 0), some (.invokevirtual 68), none, none, some (.iconst 0), some (.istore_n 3), some (.iload_n 3), some (.bipush 7), none, some (.if_icmp .ge 23), none, none, some (.iload_n 2), some (.iload_n 3), some (.invokestatic 71), none, none, some (.ifCond .ne 9), none, none, some (.aload_n 0), some (.iload_n 3), some (.aload_n 1), some (.invokevirtual 75), none, none, some (.iinc 3 1), none, none, some (.goto (-23)), none, none, some (.iconst 0), some (.istore_n 3), some (.iload_n 3), some (.aload_n 0), some (.getfield 64), none, none, some (.if_icmp .ge 15), none, none, some (.aload_n 0), some (.iload_n 3), some (.aload_n 1), some (.invokevirtual 79), none, none, some (.iinc 3 1), none, none, some (.goto (-17)), none, none, some (.aload_n 0), some (.invokevirtual 82), none, none, some (.aload_n 0), some (.invokevirtual 85), none, none, some (.return_)]
def xc19 : List (Option Instr) := [some (.aload_n 0), some (.iload_n 1), some (.putfield 23), none, none, some (.aload_n 0), some (.getfield 14), none, none, some (.iconst 0), some (.invokevirtual 27), none, none, some (.return_)]
def xc20 : List (Option Instr) := [some (.iconst 0), some (.istore_n 2), some (.iload_n 2), some (.aload_n 0), some (.getfield 15), none, none, some (.arraylength), some (.if_icmp .ge 16), none, none, some (.aload_n 0), some (.getfield 15), none, none, some (.iload_n 2), some (.iload_n 1), some (.iastore), some (.iinc 2 1), none, none, some (.goto (-19)), none, none, some (.return_)]
def xc21 : List (Option Instr) := [some (.iload_n 1), some (.ifCond .lt 22), none, none, some (.iload_n 1), some (.bipush 10), none, some (.if_icmp .ge 16), none, none, some (.iload_n 0), some (.iload_n 1), some (.ishr), some (.iconst 1), some (.iand), some (.iconst 1), some (.if_icmp .ne 7), none, none, some (.iconst 1), some (.goto 4), none, none, some (.iconst 0), some (.ireturn)]
def xc22 : List (Option Instr) := [some (.iconst 0), some (.istore_n 3), some (.iload_n 3), some (.aload_n 0), some (.getfield 64), none, none, some (.if_icmp .ge 66), none, none, some (.aload_n 2), some (.iload_n 1), some (.iload_n 3), some (.invokevirtual 113), none, none, some (.ifCond .eq 51), none, none, some (.aload_n 0), some (.getfield 45), none, none, some (.iload_n 3), some (.iconst 1), some (.invokevirtual 116), none, none, some (.iconst 0), some (.istore 4), none, some (.iload 4), none, some (.aload_n 0), some (.getfield 60), none, none, some (.if_icmp .ge 30), none, none, some (.aload_n 0), some (.getfield 41), none, none, some (.iload_n 3), some (.iload 4), none, some (.invokestatic 88), none, none, some (.aload_n 2), some (.iload_n 1), some (.iload_n 3), some (.iload 4), none, some (.invokevirtual 104), none, none, some (.invokevirtual 119), none, none, some (.iinc 4 1), none, none, some (.goto (-33)), none, none, some (.iinc 3 1), none, none, some (.goto (-68)), none, none, some (.return_)]
def xc23 : List (Option Instr) := [some (.iload_n 1), some (.ifCond .lt 32), none, none, some (.iload_n 1), some (.bipush 7), none, some (.if_icmp .ge 26), none, none, some (.iload_n 2), some (.ifCond .lt 22), none, none, some (.iload_n 2), some (.iconst 5), some (.if_icmp .ge 17), none, none, some (.aload_n 0), some (.iload_n 1), some (.iload_n 2), some (.iconst 0), some (.invokevirtual 51), none, none, some (.ifCond .eq 7), none, none, some (.iconst 1), some (.goto 4), none, none, some (.iconst 0), some (.ireturn)]
def xc24 : List (Option Instr) := [some (.aload_n 0), some (.getfield 14), none, none, some (.iload_n 1), some (.iconst 5), some (.imul), some (.iload_n 2), some (.iadd), some (.iload_n 3), some (.invokevirtual 55), none, none, some (.ireturn)]
def xc25 : List (Option Instr) := [some (.iload_n 1), some (.ifCond .lt 22), none, none, some (.iload_n 1), some (.aload_n 0), some (.getfield 7), none, none, some (.arraylength), some (.if_icmp .ge 13), none, none, some (.aload_n 0), some (.getfield 7), none, none, some (.iload_n 1), some (.dup2), some (.iaload), some (.iload_n 2), some (.iadd), some (.iastore), some (.return_)]
def xc26 : List (Option Instr) := [some (.iload_n 0), some (.bipush 8), none, some (.imul), some (.iload_n 1), some (.iadd), some (.ireturn)]
def xc27 : List (Option Instr) := [some (.aload_n 0), some (.getfield 14), none, none, some (.iload_n 1), some (.iload_n 2), some (.iconst 1), some (.invokevirtual 31), none, none, some (.return_)]
def xc28 : List (Option Instr) := [some (.iload_n 2), some (.ifCond .lt 22), none, none, some (.iload_n 2), some (.aload_n 0), some (.getfield 9), none, none, some (.if_icmp .ge 14), none, none, some (.iload_n 1), some (.aload_n 0), some (.getfield 9), none, none, some (.imul), some (.iload_n 2), some (.iadd), some (.goto 4), none, none, some (.iconst (-1)), some (.istore 4), none, some (.iload 4), none, some (.ifCond .lt 24), none, none, some (.iload 4), none, some (.aload_n 0), some (.getfield 15), none, none, some (.arraylength), some (.if_icmp .ge 14), none, none, some (.aload_n 0), some (.getfield 15), none, none, some (.iload 4), none, some (.dup2), some (.iaload), some (.iload_n 3), some (.iadd), some (.iastore), some (.return_)]
def xc29 : List (Option Instr) := [some (.iconst 0), some (.istore_n 3), some (.iload_n 3), some (.aload_n 0), some (.getfield 60), none, none, some (.if_icmp .ge 41), none, none, some (.aload_n 0), some (.getfield 41), none, none, some (.iload_n 1), some (.iload_n 3), some (.invokestatic 88), none, none, some (.invokevirtual 122), none, none, some (.aload_n 0), some (.getfield 48), none, none, some (.iload_n 3), some (.aload_n 0), some (.iload_n 1), some (.iload_n 3), some (.aload_n 2), some (.iload_n 3), some (.iload_n 1), some (.invokevirtual 125), none, none, some (.invokevirtual 128), none, none, some (.invokevirtual 132), none, none, some (.iinc 3 1), none, none, some (.goto (-43)), none, none, some (.iconst 0), some (.istore_n 3), some (.iload_n 3), some (.aload_n 0), some (.getfield 60), none, none, some (.if_icmp .ge 133), none, none, some (.iconst 0), some (.istore 4), none, some (.iconst 0), some (.istore 5), none, some (.iconst 0), some (.istore 6), none, some (.iload 6), none, some (.aload_n 0), some (.getfield 60), none, none, some (.if_icmp .ge 49), none, none, some (.aload_n 0), some (.iload_n 1), some (.iload 6), none, some (.iload_n 3), some (.invokevirtual 135), none, none, some (.istore 7), none, some (.iload 4), none, some (.iload 7), none, some (.ifCond .ge 7), none, none, some (.iconst 1), some (.goto 4), none, none, some (.iconst 0), some (.iadd), some (.istore 4), none, some (.iload 5), none, some (.iload 7), none, some (.ifCond .ne 7), none, none, some (.iconst 1), some (.goto 4), none, none, some (.iconst 0), some (.iadd), some (.istore 5), none, some (.iinc 6 1), none, none, some (.goto (-52)), none, none, some (.aload_n 0), some (.getfield 14), none, none, some (.iload_n 1), some (.iload_n 3), some (.iload 4), none, some (.iconst 1), some (.iadd), some (.iload 5), none, some (.invokestatic 138), none, none, some (.invokevirtual 141), none, none, some (.iload 5), none, some (.iconst 1), some (.if_icmp .le 7), none, none, some (.iconst 4), some (.goto 9), none, none, some (.aload_n 0), some (.iload_n 1), some (.iload_n 3), some (.invokevirtual 144), none, none, some (.istore 6), none, some (.aload_n 0), some (.getfield 20), none, none, some (.iload_n 1), some (.iload_n 3), some (.aload_n 2), some (.iload_n 3), some (.iload_n 1), some (.invokevirtual 125), none, none, some (.ifCond .eq 7), none, none, some (.iconst 5), some (.goto 5), none, none, some (.iload 6), none, some (.invokevirtual 141), none, none, some (.iinc 3 1), none, none, some (.goto (-135)), none, none, some (.return_)]
def xc30 : List (Option Instr) := [some (.iconst 0), some (.istore_n 2), some (.iconst 0), some (.istore_n 3), some (.iconst 1), some (.istore 4), none, some (.iload 4), none, some (.aload_n 0), some (.getfield 23), none, none, some (.if_icmp .gt 60), none, none, some (.aload_n 0), some (.getfield 14), none, none, some (.iload_n 1), some (.iload 4), none, some (.invokevirtual 35), none, none, some (.istore 5), none, some (.iload_n 2), some (.iload 5), none, some (.iadd), some (.istore_n 2), some (.iload_n 3), some (.iload 5), none, some (.sipush 1000), none, none, some (.iload 4), none, some (.isub), some (.imul), some (.iadd), some (.istore_n 3), some (.aload_n 0), some (.getfield 14), none, none, some (.iload_n 1), some (.iload 4), none, some (.iload_n 2), some (.invokevirtual 39), none, none, some (.aload_n 0), some (.getfield 20), none, none, some (.iload_n 1), some (.iload 4), none, some (.iload_n 3), some (.invokevirtual 39), none, none, some (.iinc 4 1), none, none, some (.goto (-63)), none, none, some (.return_)]
def xc31 : List (Option Instr) := [some (.iload_n 2), some (.ifCond .lt 22), none, none, some (.iload_n 2), some (.aload_n 0), some (.getfield 9), none, none, some (.if_icmp .ge 14), none, none, some (.iload_n 1), some (.aload_n 0), some (.getfield 9), none, none, some (.imul), some (.iload_n 2), some (.iadd), some (.goto 4), none, none, some (.iconst (-1)), some (.istore 4), none, some (.iload 4), none, some (.ifCond .lt 21), none, none, some (.iload 4), none, some (.aload_n 0), some (.getfield 15), none, none, some (.arraylength), some (.if_icmp .ge 11), none, none, some (.aload_n 0), some (.getfield 15), none, none, some (.iload 4), none, some (.iload_n 3), some (.iastore), some (.return_)]
def xc32 : List (Option Instr) := [some (.aload_n 0), some (.getfield 25), none, none, some (.iload_n 2), some (.invokevirtual 59), none, none, some (.iload_n 1), some (.invokestatic 40), none, none, some (.ireturn)]
def xc33 : List (Option Instr) := [some (.aload_n 0), some (.getfield 45), none, none, some (.iload_n 1), some (.invokevirtual 95), none, none, some (.iconst 2), some (.idiv), some (.iconst 1), some (.iadd), some (.istore 4), none, some (.iconst 1), some (.istore 5), none, some (.iload 5), none, some (.aload_n 0), some (.getfield 60), none, none, some (.if_icmp .gt 35), none, none, some (.iload_n 3), some (.ifCond .ne 31), none, none, some (.aload_n 0), some (.getfield 41), none, none, some (.iload_n 1), some (.iload_n 2), some (.invokestatic 88), none, none, some (.iload 5), none, some (.invokevirtual 92), none, none, some (.iload 4), none, some (.if_icmp .lt 6), none, none, some (.iload 5), none, some (.ireturn), some (.iinc 5 1), none, none, some (.goto (-38)), none, none, some (.aload_n 0), some (.getfield 60), none, none, some (.iconst 1), some (.iadd), some (.ireturn)]
def xc34 : List (Option Instr) := [some (.aload_n 0), some (.getfield 14), none, none, some (.iload_n 1), some (.iload_n 2), some (.invokevirtual 35), none, none, some (.ireturn)]
def xc35 : List (Option Instr) := [some (.iload_n 1), some (.ifCond .lt 19), none, none, some (.iload_n 1), some (.aload_n 0), some (.getfield 7), none, none, some (.arraylength), some (.if_icmp .ge 10), none, none, some (.aload_n 0), some (.getfield 7), none, none, some (.iload_n 1), some (.iload_n 2), some (.iastore), some (.return_)]
def xc36 : List (Option Instr) := [some (.aload_n 0), some (.getfield 48), none, none, some (.iload_n 2), some (.invokevirtual 95), none, none, some (.istore 4), none, some (.iload 4), none, some (.aload_n 0), some (.getfield 48), none, none, some (.iload_n 3), some (.invokevirtual 95), none, none, some (.isub), some (.istore 5), none, some (.iload 5), none, some (.ifCond .eq 8), none, none, some (.iload 5), none, some (.goto 22), none, none, some (.aload_n 0), some (.getfield 41), none, none, some (.iload_n 1), some (.iload_n 2), some (.invokestatic 88), none, none, some (.iload_n 1), some (.iload_n 3), some (.invokestatic 88), none, none, some (.iload 4), none, some (.invokevirtual 147), none, none, some (.ireturn)]
def xc37 : List (Option Instr) := [some (.iload_n 3), some (.istore 4), none, some (.iload 4), none, some (.aload_n 0), some (.getfield 23), none, none, some (.if_icmp .gt 40), none, none, some (.aload_n 0), some (.getfield 20), none, none, some (.iload_n 2), some (.iload 4), none, some (.invokevirtual 35), none, none, some (.aload_n 0), some (.getfield 20), none, none, some (.iload_n 1), some (.iload 4), none, some (.invokevirtual 35), none, none, some (.isub), some (.istore 5), none, some (.iload 5), none, some (.ifCond .eq 6), none, none, some (.iload 5), none, some (.ireturn), some (.iinc 4 1), none, none, some (.goto (-43)), none, none, some (.iconst 0), some (.ireturn)]
def xc38 : List (Option Instr) := [some (.iconst 2), some (.iload_n 0), some (.imul), some (.iload_n 1), some (.iadd), some (.iconst 1), some (.isub), some (.ireturn)]
def xc39 : List (Option Instr) := [some (.aload_n 0), some (.getfield 48), none, none, some (.iload_n 2), some (.invokevirtual 95), none, none, some (.istore_n 3), some (.iload_n 1), some (.iload_n 2), some (.invokestatic 88), none, none, some (.istore 4), none, some (.iconst 0), some (.istore 5), none, some (.iconst 0), some (.istore 6), none, some (.iload 6), none, some (.aload_n 0), some (.getfield 60), none, none, some (.if_icmp .ge 110), none, none, some (.iload_n 1), some (.iload 6), none, some (.invokestatic 88), none, none, some (.istore 7), none, some (.iload 6), none, some (.iload_n 2), some (.if_icmp .eq 90), none, none, some (.aload_n 0), some (.getfield 48), none, none, some (.iload 6), none, some (.invokevirtual 95), none, none, some (.iload_n 3), some (.if_icmp .eq 6), none, none, some (.goto 74), none, none, some (.aload_n 0), some (.getfield 41), none, none, some (.iload 7), none, some (.iload_n 3), some (.invokevirtual 150), none, none, some (.aload_n 0), some (.getfield 41), none, none, some (.iload 4), none, some (.iload_n 3), some (.invokevirtual 150), none, none, some (.if_icmp .ne 9), none, none, some (.iconst 3), some (.istore 5), none, some (.goto 45), none, none, some (.aload_n 0), some (.getfield 41), none, none, some (.iload 7), none, some (.iload_n 3), some (.invokevirtual 92), none, none, some (.aload_n 0), some (.getfield 41), none, none, some (.iload 4), none, some (.iload_n 3), some (.invokevirtual 92), none, none, some (.if_icmp .ne 14), none, none, some (.iload 5), none, some (.iconst 2), some (.invokestatic 153), none, none, some (.istore 5), none, some (.goto 11), none, none, some (.iload 5), none, some (.iconst 1), some (.invokestatic 153), none, none, some (.istore 5), none, some (.iinc 6 1), none, none, some (.goto (-113)), none, none, some (.iload 5), none, some (.ireturn)]
def xc40 : List (Option Instr) := [some (.aload_n 0), some (.getfield 20), none, none, some (.iload_n 1), some (.iload_n 2), some (.invokevirtual 35), none, none, some (.ireturn)]
def xc41 : List (Option Instr) := [some (.iconst 0), some (.istore_n 1), some (.iload_n 1), some (.aload_n 0), some (.getfield 60), none, none, some (.if_icmp .ge 48), none, none, some (.iconst 0), some (.istore_n 2), some (.iconst 0), some (.istore_n 3), some (.iload_n 3), some (.aload_n 0), some (.getfield 64), none, none, some (.if_icmp .ge 21), none, none, some (.iload_n 2), some (.aload_n 0), some (.getfield 14), none, none, some (.iload_n 3), some (.iload_n 1), some (.invokevirtual 108), none, none, some (.iadd), some (.istore_n 2), some (.iinc 3 1), none, none, some (.goto (-23)), none, none, some (.aload_n 0), some (.getfield 28), none, none, some (.iload_n 1), some (.iload_n 2), some (.invokevirtual 132), none, none, some (.iinc 1 1), none, none, some (.goto (-50)), none, none, some (.return_)]
def xc42 : List (Option Instr) := [some (.iconst 1), some (.aload_n 0), some (.getfield 60), none, none, some (.ishl), some (.iconst 1), some (.isub), some (.istore_n 1), some (.iconst 0), some (.istore_n 2), some (.iconst 1), some (.istore_n 3), some (.iconst 0), some (.istore 4), none, some (.iload 4), none, some (.aload_n 0), some (.getfield 60), none, none, some (.if_icmp .ge 119), none, none, some (.iload_n 1), some (.ifCond .eq 115), none, none, some (.aload_n 0), some (.iload_n 1), some (.invokevirtual 156), none, none, some (.istore 5), none, some (.iload 5), none, some (.invokestatic 159), none, none, some (.iconst 1), some (.if_icmp .le 8), none, none, some (.iload_n 2), some (.iload 5), none, some (.ior), some (.istore_n 2), some (.iload 5), none, some (.iload_n 2), some (.iand), some (.ifCond .ne 8), none, none, some (.bipush 9), none, some (.goto 5), none, none, some (.bipush 10), none, some (.istore 6), none, some (.aload_n 0), some (.iload 5), none, some (.iload_n 3), some (.invokevirtual 164), none, none, some (.istore 5), none, some (.iload 5), none, some (.invokestatic 159), none, none, some (.iconst 1), some (.if_icmp .le 30), none, none, some (.aload_n 0), some (.iload 5), none, some (.iload_n 3), some (.invokevirtual 167), none, none, some (.istore 5), none, some (.iload 5), none, some (.invokestatic 159), none, none, some (.iconst 1), some (.if_icmp .le 8), none, none, some (.bipush 12), none, some (.goto 5), none, none, some (.bipush 11), none, some (.istore 6), none, some (.aload_n 0), some (.iload 5), none, some (.iload_n 3), some (.iload 6), none, some (.invokevirtual 170), none, none, some (.iload_n 3), some (.iload 5), none, some (.invokestatic 159), none, none, some (.iadd), some (.istore_n 3), some (.iload_n 1), some (.iload 5), none, some (.iconst (-1)), some (.ixor), some (.iand), some (.istore_n 1), some (.iinc 4 1), none, none, some (.goto (-122)), none, none, some (.return_)]
def xc43 : List (Option Instr) := [some (.iconst 0), some (.istore_n 2), some (.iload_n 2), some (.aload_n 0), some (.getfield 60), none, none, some (.if_icmp .ge 26), none, none, some (.aload_n 0), some (.getfield 51), none, none, some (.iload_n 2), some (.aload_n 0), some (.getfield 28), none, none, some (.iload_n 2), some (.invokevirtual 95), none, none, some (.ineg), some (.invokevirtual 132), none, none, some (.iinc 2 1), none, none, some (.goto (-28)), none, none, some (.aload_n 0), some (.iload_n 1), some (.invokevirtual 173), none, none, some (.ireturn)]
def xc44 : List (Option Instr) := [some (.iconst 0), some (.istore_n 2), some (.iconst 0), some (.istore_n 3), some (.iconst 0), some (.istore 4), none, some (.iload 4), none, some (.aload_n 0), some (.getfield 60), none, none, some (.if_icmp .ge 66), none, none, some (.aload_n 0), some (.getfield 51), none, none, some (.iload 4), none, some (.invokevirtual 95), none, none, some (.istore 5), none, some (.iload_n 1), some (.iload 4), none, some (.invokestatic 71), none, none, some (.ifCond .eq 40), none, none, some (.iload_n 2), some (.ifCond .eq 9), none, none, some (.iload 5), none, some (.iload_n 3), some (.if_icmp .lt 30), none, none, some (.iload_n 2), some (.ifCond .eq 18), none, none, some (.iload 5), none, some (.iload_n 3), some (.if_icmp .ne 12), none, none, some (.iload_n 2), some (.iconst 1), some (.iload 4), none, some (.ishl), some (.ior), some (.goto 7), none, none, some (.iconst 1), some (.iload 4), none, some (.ishl), some (.istore_n 2), some (.iload 5), none, some (.istore_n 3), some (.iinc 4 1), none, none, some (.goto (-69)), none, none, some (.iload_n 2), some (.ireturn)]
def xc45 : List (Option Instr) := [some (.iconst 0), some (.istore_n 3), some (.iload_n 3), some (.aload_n 0), some (.getfield 60), none, none, some (.if_icmp .ge 75), none, none, some (.iconst 0), some (.istore 4), none, some (.iconst 0), some (.istore 5), none, some (.iload 5), none, some (.aload_n 0), some (.getfield 64), none, none, some (.if_icmp .ge 44), none, none, some (.aload_n 0), some (.getfield 14), none, none, some (.iload 5), none, some (.iload_n 3), some (.invokevirtual 108), none, none, some (.istore 6), none, some (.iload 4), none, some (.iload 6), none, some (.iconst 2), some (.iload_n 2), some (.imul), some (.if_icmp .gt 12), none, none, some (.sipush 1000), none, none, some (.iload 6), none, some (.isub), some (.goto 4), none, none, some (.iconst 0), some (.iadd), some (.istore 4), none, some (.iinc 5 1), none, none, some (.goto (-47)), none, none, some (.aload_n 0), some (.getfield 51), none, none, some (.iload_n 3), some (.iload 4), none, some (.invokevirtual 132), none, none, some (.iinc 3 1), none, none, some (.goto (-77)), none, none, some (.aload_n 0), some (.iload_n 1), some (.invokevirtual 173), none, none, some (.ireturn)]
def xc46 : List (Option Instr) := [some (.iload_n 1), some (.istore_n 3), some (.iload_n 2), some (.istore 4), none, some (.iload 4), none, some (.aload_n 0), some (.getfield 60), none, none, some (.if_icmp .gt 86), none, none, some (.iconst 0), some (.istore 5), none, some (.iload 5), none, some (.aload_n 0), some (.getfield 60), none, none, some (.if_icmp .ge 62), none, none, some (.iconst 0), some (.istore 6), none, some (.iconst 0), some (.istore 7), none, some (.iload 7), none, some (.aload_n 0), some (.getfield 64), none, none, some (.if_icmp .ge 30), none, none, some (.iload 6), none, some (.aload_n 0), some (.getfield 41), none, none, some (.iload 7), none, some (.iload 5), none, some (.invokestatic 88), none, none, some (.iload 4), none, some (.invokevirtual 150), none, none, some (.iadd), some (.istore 6), none, some (.iinc 7 1), none, none, some (.goto (-33)), none, none, some (.aload_n 0), some (.getfield 51), none, none, some (.iload 5), none, some (.iload 6), none, some (.invokevirtual 132), none, none, some (.iinc 5 1), none, none, some (.goto (-65)), none, none, some (.aload_n 0), some (.iload_n 3), some (.invokevirtual 173), none, none, some (.istore_n 3), some (.iinc 4 1), none, none, some (.goto (-89)), none, none, some (.iload_n 3), some (.ireturn)]
def xc47 : List (Option Instr) := [some (.iload_n 2), some (.iload_n 1), some (.invokestatic 159), none, none, some (.invokestatic 138), none, none, some (.istore 4), none, some (.iconst 0), some (.istore 5), none, some (.iload 5), none, some (.aload_n 0), some (.getfield 60), none, none, some (.if_icmp .ge 39), none, none, some (.iload_n 1), some (.iload 5), none, some (.invokestatic 71), none, none, some (.ifCond .eq 24), none, none, some (.aload_n 0), some (.getfield 32), none, none, some (.iload 5), none, some (.iload 4), none, some (.invokevirtual 132), none, none, some (.aload_n 0), some (.getfield 35), none, none, some (.iload 5), none, some (.iload_n 3), some (.invokevirtual 132), none, none, some (.iinc 5 1), none, none, some (.goto (-42)), none, none, some (.return_)]
def xc48 : List (Option Instr) := [some (.ldc2_w 337), none, none, some (.lstore_n 1), some (.iconst 0), some (.istore_n 3), some (.iload_n 3), some (.bipush 10), none, some (.if_icmp .gt 22), none, none, some (.lload_n 1), some (.ldc2_w 339), none, none, some (.lmul), some (.aload_n 0), some (.iload_n 3), some (.invokevirtual 341), none, none, some (.i2l), some (.ladd), some (.lstore_n 1), some (.iinc 3 1), none, none, some (.goto (-22)), none, none, some (.iconst 0), some (.istore_n 3), some (.iload_n 3), some (.aload_n 0), some (.getfield 10), none, none, some (.getfield 58), none, none, some (.if_icmp .ge 16), none, none, some (.aload_n 0), some (.lload_n 1), some (.iload_n 3), some (.invokevirtual 344), none, none, some (.lstore_n 1), some (.iinc 3 1), none, none, some (.goto (-21)), none, none, some (.iconst 0), some (.istore_n 3), some (.iload_n 3), some (.aload_n 0), some (.getfield 19), none, none, some (.getfield 73), none, none, some (.if_icmp .ge 39), none, none, some (.iconst 0), some (.istore 4), none, some (.iload 4), none, some (.iconst 3), some (.if_icmp .gt 24), none, none, some (.lload_n 1), some (.ldc2_w 339), none, none, some (.lmul), some (.aload_n 0), some (.iload_n 3), some (.iload 4), none, some (.invokevirtual 348), none, none, some (.i2l), some (.ladd), some (.lstore_n 1), some (.iinc 4 1), none, none, some (.goto (-24)), none, none, some (.iinc 3 1), none, none, some (.goto (-44)), none, none, some (.lload_n 1), some (.ldc2_w 339), none, none, some (.lmul), some (.aload_n 0), some (.invokevirtual 351), none, none, some (.i2l), some (.ladd), some (.lreturn)]
def xc49 : List (Option Instr) := [some (.iload_n 1), some (.tableswitch 160 0 10 #[59, 67, 75, 80, 96, 109, 117, 125, 133, 141, 152]), none, none, none, none, none, none, none, none, none, none, none, none, none, none, none, none, none, none, none, none, none, none, none, none, none, none, none, none, none, none, none, none, none, none, none, none, none, none, none, none, none, none, none, none, none, none, none, none, none, none, none, none, none, none, none, none, none, none, some (.aload_n 0), some (.getfield 10), none, none, some (.getfield 58), none, none, some (.ireturn), some (.aload_n 0), some (.getfield 19), none, none, some (.getfield 73), none, none, some (.ireturn), some (.aload_n 0), some (.getfield 243), none, none, some (.ireturn), some (.aload_n 0), some (.getfield 26), none, none, some (.getfield 74), none, none, some (.ifCond .eq 7), none, none, some (.iconst 1), some (.goto 4), none, none, some (.iconst 0), some (.ireturn), some (.aload_n 0), some (.getfield 111), none, none, some (.ifCond .eq 7), none, none, some (.iconst 1), some (.goto 4), none, none, some (.iconst 0), some (.ireturn), some (.aload_n 0), some (.getfield 26), none, none, some (.getfield 122), none, none, some (.ireturn), some (.aload_n 0), some (.getfield 26), none, none, some (.getfield 131), none, none, some (.ireturn), some (.aload_n 0), some (.getfield 33), none, none, some (.getfield 128), none, none, some (.ireturn), some (.aload_n 0), some (.getfield 26), none, none, some (.getfield 117), none, none, some (.ireturn), some (.aload_n 0), some (.getfield 26), none, none, some (.getfield 140), none, none, some (.invokestatic 85), none, none, some (.ireturn), some (.aload_n 0), some (.getfield 40), none, none, some (.invokevirtual 319), none, none, some (.ireturn), some (.new 90), none, none, some (.dup), some (.ldc_w 323), none, none, some (.invokespecial 94), none, none, some (.athrow)]
def xc50 : List (Option Instr) := [some (.iconst 0), some (.istore_n 1), some (.iconst 0), some (.istore_n 2), some (.iload_n 2), some (.aload_n 0), some (.getfield 33), none, none, some (.if_icmp .ge 17), none, none, some (.iload_n 1), some (.aload_n 0), some (.iload_n 2), some (.invokevirtual 67), none, none, some (.iadd), some (.istore_n 1), some (.iinc 2 1), none, none, some (.goto (-19)), none, none, some (.iload_n 1), some (.ireturn)]
def xc51 : List (Option Instr) := [some (.iconst 0), some (.istore_n 2), some (.iconst 0), some (.istore_n 3), some (.iload_n 3), some (.bipush 7), none, some (.if_icmp .ge 21), none, none, some (.aload_n 0), some (.iload_n 3), some (.iload_n 1), some (.invokevirtual 64), none, none, some (.ifCond .eq 6), none, none, some (.iinc 2 1), none, none, some (.iinc 3 1), none, none, some (.goto (-21)), none, none, some (.iload_n 2), some (.ireturn)]
def xc52 : List (Option Instr) := [some (.lload_n 1), some (.lstore 4), none, some (.iconst 0), some (.istore 6), none, some (.iload 6), none, some (.bipush 7), none, some (.if_icmp .gt 26), none, none, some (.lload 4), none, some (.ldc2_w 339), none, none, some (.lmul), some (.aload_n 0), some (.iload_n 3), some (.iload 6), none, some (.invokevirtual 354), none, none, some (.i2l), some (.ladd), some (.lstore 4), none, some (.iinc 6 1), none, none, some (.goto (-27)), none, none, some (.lload 4), none, some (.ldc2_w 339), none, none, some (.lmul), some (.aload_n 0), some (.iload_n 3), some (.iconst 0), some (.invokevirtual 357), none, none, some (.i2l), some (.ladd), some (.lstore 4), none, some (.aload_n 0), some (.getfield 111), none, none, some (.ifCond .eq 27), none, none, some (.aload_n 0), some (.getfield 26), none, none, some (.getfield 117), none, none, some (.iload_n 3), some (.invokestatic 143), none, none, some (.ifCond .eq 13), none, none, some (.aload_n 0), some (.lload 4), none, some (.iload_n 3), some (.invokevirtual 360), none, none, some (.goto 5), none, none, some (.lload 4), none, some (.lreturn)]
def xc53 : List (Option Instr) := [some (.aload_n 0), some (.iload_n 1), some (.invokevirtual 246), none, none, some (.iload_n 2), some (.tableswitch 152 0 7 #[46, 58, 70, 79, 99, 119, 131, 140]), none, none, none, none, none, none, none, none, none, none, none, none, none, none, none, none, none, none, none, none, none, none, none, none, none, none, none, none, none, none, none, none, none, none, none, none, none, none, none, none, none, none, none, none, none, some (.aload_n 0), some (.getfield 10), none, none, some (.getfield 249), none, none, some (.iload_n 1), some (.invokevirtual 253), none, none, some (.ireturn), some (.aload_n 0), some (.getfield 10), none, none, some (.getfield 258), none, none, some (.iload_n 1), some (.invokevirtual 253), none, none, some (.ireturn), some (.aload_n 0), some (.getfield 10), none, none, some (.iload_n 1), some (.invokevirtual 261), none, none, some (.ireturn), some (.aload_n 0), some (.getfield 26), none, none, some (.getfield 233), none, none, some (.iload_n 1), some (.invokestatic 143), none, none, some (.ifCond .eq 7), none, none, some (.iconst 1), some (.goto 4), none, none, some (.iconst 0), some (.ireturn), some (.aload_n 0), some (.getfield 26), none, none, some (.getfield 117), none, none, some (.iload_n 1), some (.invokestatic 143), none, none, some (.ifCond .eq 7), none, none, some (.iconst 1), some (.goto 4), none, none, some (.iconst 0), some (.ireturn), some (.aload_n 0), some (.getfield 26), none, none, some (.getfield 264), none, none, some (.iload_n 1), some (.invokevirtual 253), none, none, some (.ireturn), some (.aload_n 0), some (.getfield 33), none, none, some (.iload_n 1), some (.invokevirtual 267), none, none, some (.ireturn), some (.aload_n 0), some (.getfield 33), none, none, some (.getfield 270), none, none, some (.iload_n 1), some (.invokevirtual 253), none, none, some (.ireturn), some (.new 90), none, none, some (.dup), some (.ldc_w 273), none, none, some (.invokespecial 94), none, none, some (.athrow)]
def xc54 : List (Option Instr) := [some (.iload_n 1), some (.ifCond .lt 14), none, none, some (.iload_n 1), some (.aload_n 0), some (.getfield 10), none, none, some (.getfield 58), none, none, some (.if_icmp .lt 14), none, none, some (.new 147), none, none, some (.dup), some (.ldc_w 374), none, none, some (.invokespecial 151), none, none, some (.athrow), some (.return_)]
def xc55 : List (Option Instr) := [some (.iconst 0), some (.istore_n 2), some (.iconst 0), some (.istore_n 3), some (.iload_n 3), some (.iconst 5), some (.if_icmp .ge 20), none, none, some (.iload_n 2), some (.aload_n 0), some (.iload_n 3), some (.iconst 1), some (.iload_n 1), some (.ishl), some (.invokevirtual 87), none, none, some (.iadd), some (.istore_n 2), some (.iinc 3 1), none, none, some (.goto (-19)), none, none, some (.iload_n 2), some (.ireturn)]
def xc56 : List (Option Instr) := [some (.iconst 0), some (.istore_n 3), some (.iconst 0), some (.istore 4), none, some (.iload 4), none, some (.bipush 7), none, some (.if_icmp .ge 27), none, none, some (.iload_n 3), some (.aload_n 0), some (.getfield 14), none, none, some (.iload 4), none, some (.iload_n 1), some (.invokevirtual 85), none, none, some (.iload_n 2), some (.iand), some (.invokestatic 53), none, none, some (.iadd), some (.istore_n 3), some (.iinc 4 1), none, none, some (.goto (-28)), none, none, some (.iload_n 3), some (.ireturn)]
def xc57 : List (Option Instr) := [some (.aload_n 0), some (.iload_n 1), some (.invokevirtual 246), none, none, some (.aload_n 0), some (.iload_n 2), some (.invokevirtual 246), none, none, some (.aload_n 0), some (.getfield 10), none, none, some (.getfield 275), none, none, some (.iload_n 1), some (.iload_n 2), some (.invokevirtual 278), none, none, some (.ireturn)]
def xc58 : List (Option Instr) := [some (.lload_n 1), some (.lstore 4), none, some (.iconst 0), some (.istore 6), none, some (.iload 6), none, some (.iconst 2), some (.if_icmp .gt 26), none, none, some (.lload 4), none, some (.ldc2_w 339), none, none, some (.lmul), some (.aload_n 0), some (.iload_n 3), some (.iload 6), none, some (.invokevirtual 363), none, none, some (.i2l), some (.ladd), some (.lstore 4), none, some (.iinc 6 1), none, none, some (.goto (-26)), none, none, some (.iconst 0), some (.istore 6), none, some (.iload 6), none, some (.aload_n 0), some (.getfield 26), none, none, some (.getfield 131), none, none, some (.if_icmp .ge 63), none, none, some (.lload 4), none, some (.ldc2_w 339), none, none, some (.lmul), some (.aload_n 0), some (.iload_n 3), some (.iload 6), none, some (.iconst 0), some (.invokevirtual 366), none, none, some (.i2l), some (.ladd), some (.lstore 4), none, some (.lload 4), none, some (.ldc2_w 339), none, none, some (.lmul), some (.aload_n 0), some (.iload_n 3), some (.iload 6), none, some (.iconst 1), some (.invokevirtual 366), none, none, some (.i2l), some (.ladd), some (.lstore 4), none, some (.lload 4), none, some (.ldc2_w 339), none, none, some (.lmul), some (.aload_n 0), some (.iload_n 3), some (.iload 6), none, some (.iconst 1), some (.invokevirtual 369), none, none, some (.i2l), some (.ladd), some (.lstore 4), none, some (.iinc 6 1), none, none, some (.goto (-69)), none, none, some (.lload 4), none, some (.lreturn)]
def xc59 : List (Option Instr) := [some (.aload_n 0), some (.iload_n 1), some (.invokevirtual 212), none, none, some (.aload_n 0), some (.getfield 26), none, none, some (.iload_n 1), some (.invokevirtual 215), none, none, some (.istore_n 3), some (.iload_n 2), some (.tableswitch 61 0 2 #[25, 37, 49]), none, none, none, none, none, none, none, none, none, none, none, none, none, none, none, none, none, none, none, none, none, none, none, none, some (.aload_n 0), some (.getfield 47), none, none, some (.getfield 308), none, none, some (.iload_n 3), some (.invokevirtual 253), none, none, some (.ireturn), some (.aload_n 0), some (.getfield 47), none, none, some (.getfield 311), none, none, some (.iload_n 3), some (.invokevirtual 253), none, none, some (.ireturn), some (.aload_n 0), some (.getfield 47), none, none, some (.getfield 314), none, none, some (.iload_n 3), some (.invokevirtual 253), none, none, some (.ireturn), some (.new 90), none, none, some (.dup), some (.ldc_w 317), none, none, some (.invokespecial 94), none, none, some (.athrow)]
def xc60 : List (Option Instr) := [some (.aload_n 0), some (.getfield 111), none, none, some (.ifCond .eq 17), none, none, some (.aload_n 0), some (.getfield 26), none, none, some (.getfield 117), none, none, some (.iload_n 1), some (.invokestatic 143), none, none, some (.ifCond .ne 14), none, none, some (.new 147), none, none, some (.dup), some (.ldc_w 376), none, none, some (.invokespecial 151), none, none, some (.athrow), some (.return_)]
def xc61 : List (Option Instr) := [some (.aload_n 0), some (.getfield 28), none, none, some (.iconst 1), some (.iload_n 1), some (.ishl), some (.iconst 1), some (.isub), some (.iand), some (.invokestatic 55), none, none, some (.ireturn)]
def xc62 : List (Option Instr) := [some (.aload_n 0), some (.iload_n 1), some (.invokevirtual 212), none, none, some (.aload_n 0), some (.iload_n 2), some (.invokevirtual 192), none, none, some (.aload_n 0), some (.getfield 26), none, none, some (.iload_n 1), some (.invokevirtual 215), none, none, some (.istore 4), none, some (.iload_n 3), some (.lookupswitch 55 #[(0, 27), (1, 41)]), none, none, none, none, none, none, none, none, none, none, none, none, none, none, none, none, none, none, none, none, none, none, none, none, none, none, some (.aload_n 0), some (.getfield 47), none, none, some (.getfield 300), none, none, some (.iload_n 2), some (.iload 4), none, some (.invokevirtual 278), none, none, some (.ireturn), some (.aload_n 0), some (.getfield 47), none, none, some (.getfield 303), none, none, some (.iload_n 2), some (.iload 4), none, some (.invokevirtual 278), none, none, some (.ireturn), some (.new 90), none, none, some (.dup), some (.ldc_w 306), none, none, some (.invokespecial 94), none, none, some (.athrow)]
def xc63 : List (Option Instr) := [some (.iload_n 1), some (.ifCond .lt 14), none, none, some (.iload_n 1), some (.aload_n 0), some (.getfield 26), none, none, some (.getfield 131), none, none, some (.if_icmp .lt 14), none, none, some (.new 147), none, none, some (.dup), some (.ldc_w 378), none, none, some (.invokespecial 151), none, none, some (.athrow), some (.return_)]
def xc64 : List (Option Instr) := [some (.aload_n 0), some (.iload_n 1), some (.invokevirtual 212), none, none, some (.aload_n 0), some (.iload_n 2), some (.invokevirtual 192), none, none, some (.iload_n 3), some (.iconst 1), some (.if_icmp .lt 14), none, none, some (.iload_n 3), some (.aload_n 0), some (.getfield 40), none, none, some (.getfield 291), none, none, some (.if_icmp .le 14), none, none, some (.new 90), none, none, some (.dup), some (.ldc_w 294), none, none, some (.invokespecial 94), none, none, some (.athrow), some (.aload_n 0), some (.getfield 47), none, none, some (.iload_n 2), some (.aload_n 0), some (.getfield 26), none, none, some (.iload_n 1), some (.invokevirtual 215), none, none, some (.iload_n 3), some (.invokevirtual 296), none, none, some (.ireturn)]
def xc65 : List (Option Instr) := [some (.aload_n 0), some (.getfield 41), none, none, some (.iload_n 1), some (.iload_n 2), some (.invokestatic 88), none, none, some (.iload_n 3), some (.invokevirtual 92), none, none, some (.ireturn)]
def xc66 : List (Option Instr) := [some (.iload_n 1), some (.ifCond .lt 14), none, none, some (.iload_n 1), some (.aload_n 0), some (.getfield 19), none, none, some (.getfield 73), none, none, some (.if_icmp .lt 14), none, none, some (.new 147), none, none, some (.dup), some (.ldc_w 280), none, none, some (.invokespecial 151), none, none, some (.athrow), some (.iload_n 2), some (.tableswitch 82 0 3 #[29, 41, 61, 73]), none, none, none, none, none, none, none, none, none, none, none, none, none, none, none, none, none, none, none, none, none, none, none, none, none, none, none, none, some (.aload_n 0), some (.getfield 19), none, none, some (.getfield 282), none, none, some (.iload_n 1), some (.invokevirtual 253), none, none, some (.ireturn), some (.aload_n 0), some (.getfield 26), none, none, some (.getfield 140), none, none, some (.iload_n 1), some (.invokestatic 143), none, none, some (.ifCond .eq 7), none, none, some (.iconst 1), some (.goto 4), none, none, some (.iconst 0), some (.ireturn), some (.aload_n 0), some (.getfield 19), none, none, some (.getfield 283), none, none, some (.iload_n 1), some (.invokevirtual 253), none, none, some (.ireturn), some (.aload_n 0), some (.getfield 40), none, none, some (.iload_n 1), some (.invokevirtual 286), none, none, some (.ireturn), some (.new 90), none, none, some (.dup), some (.ldc_w 289), none, none, some (.invokespecial 94), none, none, some (.athrow)]
def xc67 : List (Option Instr) := [some (.iconst 0), some (.istore_n 2), some (.iconst 0), some (.istore_n 3), some (.iload_n 3), some (.aload_n 0), some (.getfield 33), none, none, some (.if_icmp .ge 21), none, none, some (.aload_n 0), some (.iload_n 1), some (.iload_n 3), some (.invokevirtual 64), none, none, some (.ifCond .eq 6), none, none, some (.iinc 2 1), none, none, some (.iinc 3 1), none, none, some (.goto (-23)), none, none, some (.iload_n 2), some (.ireturn)]
def xc68 : List (Option Instr) := [some (.aload_n 2), some (.iconst 0), some (.aload_n 0), some (.iload_n 1), some (.invokevirtual 7), none, none, some (.i2l), some (.lastore), some (.goto 9), none, none, some (.astore_n 3), some (.iconst 1), some (.ireturn), some (.astore_n 3), some (.iconst 2), some (.ireturn), some (.iconst 0), some (.ireturn)]
def xc69 : List (Option Instr) := [some (.iload_n 1), some (.invokestatic 54), none, none, some (.aload_n 0), some (.getfield 10), none, none, some (.getfield 58), none, none, some (.bipush 10), none, some (.if_icmp .lt 13), none, none, some (.new 62), none, none, some (.dup), some (.ldc 64), none, some (.invokespecial 66), none, none, some (.athrow), some (.aload_n 0), some (.getfield 10), none, none, some (.iload_n 1), some (.invokevirtual 69), none, none, some (.ireturn)]
def xc70 : List (Option Instr) := [some (.iload_n 0), some (.ifCond .lt 9), none, none, some (.iload_n 0), some (.bipush 6), none, some (.if_icmp .lt 14), none, none, some (.new 90), none, none, some (.dup), some (.ldc_w 372), none, none, some (.invokespecial 94), none, none, some (.athrow), some (.return_)]
def xc71 : List (Option Instr) := [some (.aload_n 0), some (.getfield 14), none, none, some (.aload_n 0), some (.getfield 35), none, none, some (.iload_n 1), some (.invokevirtual 39), none, none, some (.aload_n 0), some (.dup), some (.getfield 35), none, none, some (.iconst 1), some (.iadd), some (.putfield 35), none, none, some (.aload_n 0), some (.getfield 35), none, none, some (.iconst 1), some (.isub), some (.ireturn)]
def xc72 : List (Option Instr) := [some (.aload_n 2), some (.iconst 0), some (.aload_n 0), some (.iload_n 1), some (.invokevirtual 17), none, none, some (.i2l), some (.lastore), some (.goto 9), none, none, some (.astore_n 3), some (.iconst 1), some (.ireturn), some (.astore_n 3), some (.iconst 2), some (.ireturn), some (.iconst 0), some (.ireturn)]
def xc73 : List (Option Instr) := [some (.iload_n 1), some (.invokestatic 54), none, none, some (.aload_n 0), some (.getfield 19), none, none, some (.getfield 73), none, none, some (.bipush 7), none, some (.if_icmp .ge 13), none, none, some (.aload_n 0), some (.getfield 26), none, none, some (.getfield 74), none, none, some (.ifCond .eq 13), none, none, some (.new 62), none, none, some (.dup), some (.ldc 78), none, some (.invokespecial 66), none, none, some (.athrow), some (.aload_n 0), some (.getfield 19), none, none, some (.iload_n 1), some (.invokevirtual 80), none, none, some (.ireturn)]
def xc74 : List (Option Instr) := [some (.aload_n 0), some (.getfield 14), none, none, some (.aload_n 0), some (.getfield 23), none, none, some (.iload_n 1), some (.invokevirtual 27), none, none, some (.aload_n 0), some (.dup), some (.getfield 23), none, none, some (.iconst 1), some (.iadd), some (.putfield 23), none, none, some (.aload_n 0), some (.getfield 23), none, none, some (.iconst 1), some (.isub), some (.ireturn)]
def xc75 : List (Option Instr) := [some (.aload_n 3), some (.iconst 0), some (.aload_n 0), some (.iload_n 1), some (.iload_n 2), some (.invokevirtual 20), none, none, some (.i2l), some (.lastore), some (.goto 11), none, none, some (.astore 4), none, some (.iconst 1), some (.ireturn), some (.astore 4), none, some (.iconst 2), some (.ireturn), some (.iconst 0), some (.ireturn)]
def xc76 : List (Option Instr) := [some (.aload_n 0), some (.getfield 10), none, none, some (.iload_n 1), some (.invokevirtual 81), none, none, some (.ifCond .eq 11), none, none, some (.iload_n 1), some (.invokestatic 85), none, none, some (.iconst 3), some (.if_icmp .ge 13), none, none, some (.new 90), none, none, some (.dup), some (.ldc 92), none, some (.invokespecial 94), none, none, some (.athrow), some (.iload_n 2), some (.iconst 1), some (.if_icmp .lt 8), none, none, some (.iload_n 2), some (.iconst 5), some (.if_icmp .le 13), none, none, some (.new 90), none, none, some (.dup), some (.ldc 95), none, some (.invokespecial 94), none, none, some (.athrow), some (.aload_n 0), some (.getfield 19), none, none, some (.aload_n 0), some (.getfield 10), none, none, some (.iload_n 1), some (.invokevirtual 97), none, none, some (.invokevirtual 100), none, none, some (.istore_n 3), some (.aload_n 0), some (.getfield 26), none, none, some (.getfield 74), none, none, some (.ifCond .ne 11), none, none, some (.iload_n 3), some (.invokestatic 85), none, none, some (.iconst 3), some (.if_icmp .ge 13), none, none, some (.new 62), none, none, some (.dup), some (.ldc 103), none, some (.invokespecial 66), none, none, some (.athrow), some (.aload_n 0), some (.getfield 26), none, none, some (.iload_n 1), some (.iload_n 3), some (.iload_n 2), some (.invokevirtual 105), none, none, some (.iload_n 3), some (.invokestatic 85), none, none, some (.ireturn)]
def xc77 : List (Option Instr) := [some (.iload_n 1), some (.iconst 1), some (.aload_n 0), some (.getfield 35), none, none, some (.ishl), some (.iconst 1), some (.isub), some (.iconst (-1)), some (.ixor), some (.iand), some (.ifCond .ne 7), none, none, some (.iconst 1), some (.goto 4), none, none, some (.iconst 0), some (.ireturn)]
def xc78 : List (Option Instr) := [some (.iconst 0), some (.istore_n 2), some (.iconst 0), some (.istore_n 3), some (.iload_n 3), some (.aload_n 0), some (.getfield 35), none, none, some (.if_icmp .ge 30), none, none, some (.iload_n 1), some (.iload_n 3), some (.invokestatic 42), none, none, some (.ifCond .eq 16), none, none, some (.iload_n 2), some (.iconst 1), some (.aload_n 0), some (.getfield 14), none, none, some (.iload_n 3), some (.invokevirtual 46), none, none, some (.ishl), some (.ior), some (.istore_n 2), some (.iinc 3 1), none, none, some (.goto (-32)), none, none, some (.iload_n 2), some (.ireturn)]
def xc79 : List (Option Instr) := [some (.iconst 0), some (.istore_n 2), some (.iconst 0), some (.istore_n 3), some (.iconst 0), some (.istore 4), none, some (.iload 4), none, some (.aload_n 0), some (.getfield 23), none, none, some (.if_icmp .ge 34), none, none, some (.iload_n 1), some (.aload_n 0), some (.getfield 14), none, none, some (.iload 4), none, some (.invokevirtual 31), none, none, some (.invokestatic 35), none, none, some (.ifCond .ne 12), none, none, some (.iconst 1), some (.iload 4), none, some (.ishl), some (.istore_n 3), some (.iload_n 2), some (.iload_n 3), some (.ior), some (.istore_n 2), some (.iinc 4 1), none, none, some (.goto (-37)), none, none, some (.iload_n 2), some (.invokestatic 39), none, none, some (.iconst 2), some (.irem), some (.ifCond .ne 11), none, none, some (.iload_n 2), some (.iload_n 3), some (.iconst (-1)), some (.ixor), some (.iand), some (.goto 4), none, none, some (.iload_n 2), some (.ireturn)]
def xc80 : List (Option Instr) := [some (.aload_n 0), some (.iconst 1), some (.putfield 20), none, none, some (.aload_n 0), some (.iload_n 1), some (.putfield 24), none, none, some (.aload_n 0), some (.iload_n 1), some (.putfield 28), none, none, some (.aload_n 0), some (.iload_n 2), some (.putfield 31), none, none, some (.aload_n 0), some (.iload_n 3), some (.putfield 34), none, none, some (.aload_n 0), some (.iconst 0), some (.putfield 37), none, none, some (.aload_n 0), some (.getfield 14), none, none, some (.iconst 0), some (.invokevirtual 40), none, none, some (.return_)]
def xc81 : List (Option Instr) := [some (.aload_n 3), some (.iconst 0), some (.aload_n 0), some (.iload_n 1), some (.iload_n 2), some (.invokevirtual 24), none, none, some (.i2l), some (.lastore), some (.goto 11), none, none, some (.astore 4), none, some (.iconst 1), some (.ireturn), some (.astore 4), none, some (.iconst 2), some (.ireturn), some (.iconst 0), some (.ireturn)]
def xc82 : List (Option Instr) := [some (.iload_n 1), some (.iconst 2), some (.if_icmp .lt 14), none, none, some (.iload_n 2), some (.iconst 2), some (.if_icmp .lt 9), none, none, some (.iload_n 2), some (.bipush 6), none, some (.if_icmp .le 13), none, none, some (.new 90), none, none, some (.dup), some (.ldc 109), none, some (.invokespecial 94), none, none, some (.athrow), some (.aload_n 0), some (.getfield 26), none, none, some (.getfield 74), none, none, some (.ifCond .eq 34), none, none, some (.aload_n 0), some (.getfield 111), none, none, some (.ifCond .ne 27), none, none, some (.aload_n 0), some (.getfield 33), none, none, some (.getfield 114), none, none, some (.ifCond .ne 17), none, none, some (.iload_n 1), some (.aload_n 0), some (.getfield 26), none, none, some (.getfield 117), none, none, some (.invokestatic 85), none, none, some (.if_icmp .lt 13), none, none, some (.new 62), none, none, some (.dup), some (.ldc 120), none, some (.invokespecial 66), none, none, some (.athrow), some (.aload_n 0), some (.getfield 26), none, none, some (.dup), some (.getfield 122), none, none, some (.iconst 1), some (.iadd), some (.putfield 122), none, none, some (.aload_n 0), some (.getfield 33), none, none, some (.iload_n 1), some (.iload_n 2), some (.invokevirtual 125), none, none, some (.aload_n 0), some (.getfield 26), none, none, some (.getfield 122), none, none, some (.ireturn)]
def xc83 : List (Option Instr) := [some (.aload_n 0), some (.invokevirtual 36), none, none, some (.aload_n 0), some (.iconst 1), some (.putfield 39), none, none, some (.aload_n 0), some (.iload_n 1), some (.putfield 43), none, none, some (.aload_n 0), some (.iload_n 2), some (.putfield 47), none, none, some (.return_)]
def xc84 : List (Option Instr) := [some (.aload_n 0), some (.getfield 14), none, none, some (.iconst 0), some (.invokevirtual 35), none, none, some (.aload_n 0), some (.getfield 25), none, none, some (.iconst (-1)), some (.invokevirtual 32), none, none, some (.return_)]
def xc85 : List (Option Instr) := [some (.aload_n 1), some (.iconst 0), some (.aload_n 0), some (.invokevirtual 27), none, none, some (.i2l), some (.lastore), some (.goto 6), none, none, some (.astore_n 2), some (.iconst 1), some (.ireturn), some (.iconst 0), some (.ireturn)]
def xc86 : List (Option Instr) := [some (.aload_n 0), some (.getfield 33), none, none, some (.getfield 114), none, none, some (.ifCond .eq 20), none, none, some (.aload_n 0), some (.getfield 33), none, none, some (.getfield 128), none, none, some (.aload_n 0), some (.getfield 26), none, none, some (.getfield 131), none, none, some (.if_icmp .lt 13), none, none, some (.new 62), none, none, some (.dup), some (.ldc 134), none, some (.invokespecial 66), none, none, some (.athrow), some (.aload_n 0), some (.getfield 33), none, none, some (.aload_n 0), some (.getfield 26), none, none, some (.getfield 117), none, none, some (.aload_n 0), some (.getfield 10), none, none, some (.invokevirtual 136), none, none, some (.ireturn)]
def xc87 : List (Option Instr) := [some (.aload_n 0), some (.getfield 47), none, none, some (.ifCond .le 22), none, none, some (.iload_n 1), some (.invokestatic 53), none, none, some (.aload_n 0), some (.getfield 47), none, none, some (.iadd), some (.iconst 1), some (.isub), some (.aload_n 0), some (.getfield 47), none, none, some (.idiv), some (.goto 4), none, none, some (.iconst 0), some (.istore_n 3), some (.aload_n 0), some (.getfield 29), none, none, some (.iconst 0), some (.invokevirtual 32), none, none, some (.iconst 0), some (.istore 4), none, some (.iload 4), none, some (.bipush 10), none, some (.if_icmp .ge 52), none, none, some (.iload_n 1), some (.iload 4), none, some (.invokestatic 59), none, none, some (.ifCond .eq 37), none, none, some (.aload_n 0), some (.iload 4), none, some (.iload_n 3), some (.aload_n 2), some (.invokevirtual 63), none, none, some (.istore 5), none, some (.aload_n 0), some (.getfield 25), none, none, some (.iload 4), none, some (.iload 5), none, some (.invokevirtual 67), none, none, some (.aload_n 0), some (.getfield 29), none, none, some (.iload 5), none, some (.iconst 1), some (.iload 4), none, some (.ishl), some (.invokevirtual 70), none, none, some (.iinc 4 1), none, none, some (.goto (-53)), none, none, some (.iconst 0), some (.istore 4), none, some (.iload 4), none, some (.iload_n 3), some (.if_icmp .ge 22), none, none, some (.aload_n 2), some (.aload_n 0), some (.getfield 29), none, none, some (.iload 4), none, some (.invokevirtual 73), none, none, some (.invokevirtual 76), none, none, some (.iinc 4 1), none, none, some (.goto (-22)), none, none, some (.aload_n 0), some (.dup), some (.getfield 50), none, none, some (.iconst 1), some (.iadd), some (.putfield 50), none, none, some (.iload_n 3), some (.ireturn)]
def xc88 : List (Option Instr) := [some (.iconst (-1)), some (.istore 4), none, some (.iconst 0), some (.istore 5), none, some (.iconst 0), some (.istore 6), none, some (.iload 6), none, some (.iload_n 2), some (.if_icmp .ge 62), none, none, some (.aload_n 0), some (.getfield 29), none, none, some (.iload 6), none, some (.invokevirtual 73), none, none, some (.istore 7), none, some (.aload_n 3), some (.iload_n 1), some (.iload 7), none, some (.invokevirtual 81), none, none, some (.istore 8), none, some (.iload 7), none, some (.invokestatic 53), none, none, some (.aload_n 0), some (.getfield 47), none, none, some (.if_icmp .ge 24), none, none, some (.iload 4), none, some (.iconst (-1)), some (.if_icmp .eq 10), none, none, some (.iload 8), none, some (.iload 5), none, some (.if_icmp .ge 11), none, none, some (.iload 6), none, some (.istore 4), none, some (.iload 8), none, some (.istore 5), none, some (.iinc 6 1), none, none, some (.goto (-62)), none, none, some (.iload 4), none, some (.ireturn)]
def xc89 : List (Option Instr) := [some (.iconst 0), some (.istore_n 3), some (.iconst 0), some (.istore 4), none, some (.iload 4), none, some (.aload_n 0), some (.getfield 35), none, none, some (.if_icmp .ge 31), none, none, some (.iload_n 2), some (.iload 4), none, some (.invokestatic 42), none, none, some (.ifCond .eq 16), none, none, some (.iload_n 3), some (.aload_n 0), some (.getfield 28), none, none, some (.iload_n 1), some (.iload 4), none, some (.invokevirtual 50), none, none, some (.iadd), some (.istore_n 3), some (.iinc 4 1), none, none, some (.goto (-34)), none, none, some (.iload_n 3), some (.ireturn)]
def xc90 : List (Option Instr) := [some (.iconst 0), some (.istore_n 2), some (.iload_n 2), some (.aload_n 0), some (.getfield 35), none, none, some (.if_icmp .ge 56), none, none, some (.iconst 0), some (.istore_n 3), some (.iload_n 3), some (.aload_n 0), some (.getfield 35), none, none, some (.if_icmp .ge 40), none, none, some (.iload_n 2), some (.iload_n 3), some (.if_icmp .eq 29), none, none, some (.iload_n 1), some (.iload_n 2), some (.invokestatic 42), none, none, some (.ifCond .eq 21), none, none, some (.iload_n 1), some (.iload_n 3), some (.invokestatic 42), none, none, some (.ifCond .eq 13), none, none, some (.aload_n 0), some (.getfield 28), none, none, some (.iload_n 2), some (.iload_n 3), some (.iconst 1), some (.invokevirtual 53), none, none, some (.iinc 3 1), none, none, some (.goto (-42)), none, none, some (.iinc 2 1), none, none, some (.goto (-58)), none, none, some (.return_)]
def xc91 : List (Option Instr) := [some (.aload 4), none, some (.iconst 0), some (.aload_n 0), some (.iload_n 1), some (.iload_n 2), some (.iload_n 3), some (.invokevirtual 31), none, none, some (.i2l), some (.lastore), some (.goto 11), none, none, some (.astore 5), none, some (.iconst 1), some (.ireturn), some (.astore 5), none, some (.iconst 2), some (.ireturn), some (.iconst 0), some (.ireturn)]
def xc92 : List (Option Instr) := [some (.aload_n 0), some (.getfield 33), none, none, some (.getfield 114), none, none, some (.ifCond .eq 32), none, none, some (.aload_n 0), some (.getfield 26), none, none, some (.getfield 140), none, none, some (.iload_n 1), some (.invokestatic 143), none, none, some (.ifCond .eq 18), none, none, some (.iload_n 2), some (.ifCond .lt 14), none, none, some (.iload_n 2), some (.aload_n 0), some (.getfield 33), none, none, some (.getfield 128), none, none, some (.if_icmp .lt 13), none, none, some (.new 147), none, none, some (.dup), some (.ldc 149), none, some (.invokespecial 151), none, none, some (.athrow), some (.iload_n 3), some (.aload_n 0), some (.getfield 26), none, none, some (.getfield 117), none, none, some (.iconst (-1)), some (.ixor), some (.iand), some (.ifCond .ne 17), none, none, some (.iload_n 3), some (.invokestatic 85), none, none, some (.aload_n 0), some (.getfield 33), none, none, some (.getfield 152), none, none, some (.if_icmp .eq 13), none, none, some (.new 90), none, none, some (.dup), some (.ldc 155), none, some (.invokespecial 94), none, none, some (.athrow), some (.aload_n 0), some (.getfield 33), none, none, some (.getfield 157), none, none, some (.iload_n 1), some (.iload_n 2), some (.iload_n 3), some (.invokevirtual 161), none, none, some (.aload_n 0), some (.getfield 33), none, none, some (.iload_n 2), some (.iload_n 3), some (.invokevirtual 166), none, none, some (.ireturn)]
def xc93 : List (Option Instr) := [some (.aload_n 1), some (.iconst 0), some (.aload_n 0), some (.invokevirtual 37), none, none, some (.i2l), some (.lastore), some (.goto 6), none, none, some (.astore_n 2), some (.iconst 1), some (.ireturn), some (.iconst 0), some (.ireturn)]
def xc94 : List (Option Instr) := [some (.aload_n 0), some (.getfield 33), none, none, some (.getfield 114), none, none, some (.ifCond .eq 20), none, none, some (.aload_n 0), some (.getfield 33), none, none, some (.getfield 128), none, none, some (.aload_n 0), some (.getfield 26), none, none, some (.getfield 131), none, none, some (.if_icmp .ge 13), none, none, some (.new 62), none, none, some (.dup), some (.ldc 170), none, some (.invokespecial 66), none, none, some (.athrow), some (.aload_n 0), some (.getfield 33), none, none, some (.aload_n 0), some (.getfield 26), none, none, some (.getfield 117), none, none, some (.invokevirtual 172), none, none, some (.istore_n 1), some (.aload_n 0), some (.getfield 26), none, none, some (.iload_n 1), some (.invokevirtual 175), none, none, some (.aload_n 0), some (.getfield 33), none, none, some (.invokevirtual 178), none, none, some (.iload_n 1), some (.invokestatic 85), none, none, some (.ireturn)]
def xc95 : List (Option Instr) := [some (.iconst 0), some (.istore_n 2), some (.iconst 0), some (.istore_n 3), some (.iload_n 3), some (.bipush 10), none, some (.if_icmp .ge 36), none, none, some (.iload_n 1), some (.iload_n 3), some (.invokestatic 59), none, none, some (.ifCond .eq 22), none, none, some (.aload_n 0), some (.iload_n 3), some (.iload_n 1), some (.invokevirtual 90), none, none, some (.aload_n 0), some (.getfield 43), none, none, some (.if_icmp .ge 9), none, none, some (.iload_n 2), some (.iconst 1), some (.iload_n 3), some (.ishl), some (.ior), some (.istore_n 2), some (.iinc 3 1), none, none, some (.goto (-36)), none, none, some (.iload_n 2), some (.ireturn)]
def xc96 : List (Option Instr) := [some (.aload_n 0), some (.iload_n 1), some (.invokevirtual 93), none, none, some (.istore_n 3), some (.iconst 0), some (.istore 4), none, some (.iconst 0), some (.istore 5), none, some (.iload 5), none, some (.bipush 10), none, some (.if_icmp .ge 31), none, none, some (.iload_n 2), some (.iload 5), none, some (.invokestatic 59), none, none, some (.ifCond .eq 16), none, none, some (.aload_n 0), some (.iload 5), none, some (.invokevirtual 93), none, none, some (.iload_n 3), some (.if_icmp .le 6), none, none, some (.iinc 4 1), none, none, some (.iinc 5 1), none, none, some (.goto (-32)), none, none, some (.iload 4), none, some (.ireturn)]
def xc97 : List (Option Instr) := [some (.iconst 0), some (.istore_n 2), some (.iload_n 2), some (.bipush 10), none, some (.if_icmp .ge 40), none, none, some (.aload_n 0), some (.getfield 28), none, none, some (.iload_n 2), some (.invokestatic 47), none, none, some (.ifCond .eq 23), none, none, some (.iload_n 1), some (.iload_n 2), some (.invokestatic 47), none, none, some (.ifCond .ne 15), none, none, some (.aload_n 0), some (.getfield 14), none, none, some (.iload_n 2), some (.aload_n 0), some (.getfield 37), none, none, some (.invokevirtual 51), none, none, some (.iinc 2 1), none, none, some (.goto (-40)), none, none, some (.aload_n 0), some (.iload_n 1), some (.putfield 28), none, none, some (.return_)]
def xc98 : List (Option Instr) := [some (.aload_n 0), some (.iconst 0), some (.putfield 39), none, none, some (.aload_n 0), some (.iconst 0), some (.putfield 50), none, none, some (.return_)]
def xc99 : List (Option Instr) := [some (.aload_n 1), some (.iconst 0), some (.aload_n 0), some (.invokevirtual 40), none, none, some (.i2l), some (.lastore), some (.goto 6), none, none, some (.astore_n 2), some (.iconst 1), some (.ireturn), some (.iconst 0), some (.ireturn)]
def xc100 : List (Option Instr) := [some (.aload_n 0), some (.getfield 26), none, none, some (.getfield 117), none, none, some (.invokestatic 85), none, none, some (.istore_n 1), some (.aload_n 0), some (.getfield 26), none, none, some (.getfield 74), none, none, some (.ifCond .eq 26), none, none, some (.aload_n 0), some (.getfield 111), none, none, some (.ifCond .ne 19), none, none, some (.aload_n 0), some (.getfield 33), none, none, some (.getfield 114), none, none, some (.ifCond .ne 9), none, none, some (.iload_n 1), some (.bipush 8), none, some (.if_icmp .le 13), none, none, some (.new 62), none, none, some (.dup), some (.ldc 181), none, some (.invokespecial 66), none, none, some (.athrow), some (.aload_n 0), some (.iconst 1), some (.putfield 111), none, none, some (.aload_n 0), some (.getfield 40), none, none, some (.iload_n 1), some (.aload_n 0), some (.getfield 26), none, none, some (.getfield 131), none, none, some (.invokevirtual 183), none, none, some (.aload_n 0), some (.getfield 47), none, none, some (.aload_n 0), some (.getfield 40), none, none, some (.iconst 0), some (.invokevirtual 186), none, none, some (.iload_n 1), some (.ireturn)]
def xc101 : List (Option Instr) := [some (.aload_n 0), some (.iload_n 1), some (.putfield 29), none, none, some (.aload_n 0), some (.iload_n 2), some (.putfield 33), none, none, some (.aload_n 0), some (.getfield 14), none, none, some (.iconst 0), some (.invokevirtual 36), none, none, some (.aload_n 0), some (.getfield 25), none, none, some (.iconst 0), some (.invokevirtual 39), none, none, some (.return_)]
def xc102 : List (Option Instr) := [some (.aload 4), none, some (.iconst 0), some (.aload_n 0), some (.iload_n 1), some (.iload_n 2), some (.iload_n 3), some (.invokevirtual 43), none, none, some (.i2l), some (.lastore), some (.goto 11), none, none, some (.astore 5), none, some (.iconst 1), some (.ireturn), some (.astore 5), none, some (.iconst 2), some (.ireturn), some (.iconst 0), some (.ireturn)]
def xc103 : List (Option Instr) := [some (.aload_n 0), some (.getfield 111), none, none, some (.ifCond .eq 17), none, none, some (.aload_n 0), some (.getfield 26), none, none, some (.getfield 140), none, none, some (.iload_n 1), some (.invokestatic 143), none, none, some (.ifCond .ne 13), none, none, some (.new 147), none, none, some (.dup), some (.ldc 190), none, some (.invokespecial 151), none, none, some (.athrow), some (.aload_n 0), some (.iload_n 2), some (.invokevirtual 192), none, none, some (.aload_n 0), some (.getfield 40), none, none, some (.iload_n 3), some (.invokevirtual 195), none, none, some (.ifCond .ne 13), none, none, some (.new 90), none, none, some (.dup), some (.ldc 198), none, some (.invokespecial 94), none, none, some (.athrow), some (.aload_n 0), some (.getfield 40), none, none, some (.iload_n 1), some (.iload_n 2), some (.iload_n 3), some (.invokevirtual 200), none, none, some (.aload_n 0), some (.getfield 47), none, none, some (.aload_n 0), some (.getfield 40), none, none, some (.iconst 0), some (.invokevirtual 186), none, none, some (.aload_n 0), some (.getfield 40), none, none, some (.iload_n 2), some (.invokevirtual 203), none, none, some (.ireturn)]
def xc104 : List (Option Instr) := [some (.iload_n 1), some (.istore_n 2), some (.iconst 0), some (.istore_n 3), some (.iconst 0), some (.istore 4), none, some (.iload 4), none, some (.aload_n 0), some (.getfield 29), none, none, some (.if_icmp .ge 53), none, none, some (.iload_n 2), some (.bipush 10), none, some (.irem), some (.istore 5), none, some (.iload 5), none, some (.iconst 1), some (.if_icmp .lt 21), none, none, some (.iload 5), none, some (.aload_n 0), some (.getfield 29), none, none, some (.if_icmp .gt 12), none, none, some (.iload_n 3), some (.iload 5), none, some (.invokestatic 40), none, none, some (.ifCond .eq 5), none, none, some (.iconst 0), some (.ireturn), some (.iload_n 3), some (.iconst 1), some (.iload 5), none, some (.ishl), some (.ior), some (.istore_n 3), some (.iload_n 2), some (.bipush 10), none, some (.idiv), some (.istore_n 2), some (.iinc 4 1), none, none, some (.goto (-56)), none, none, some (.iload_n 2), some (.ifCond .ne 7), none, none, some (.iconst 1), some (.goto 4), none, none, some (.iconst 0), some (.ireturn)]
def xc105 : List (Option Instr) := [some (.iload_n 3), some (.istore 4), none, some (.iconst 0), some (.istore 5), none, some (.iload 5), none, some (.aload_n 0), some (.getfield 29), none, none, some (.if_icmp .ge 35), none, none, some (.aload_n 0), some (.getfield 14), none, none, some (.iload_n 1), some (.iconst 5), some (.imul), some (.iload_n 2), some (.iadd), some (.iload 5), none, some (.iload 4), none, some (.bipush 10), none, some (.irem), some (.invokevirtual 44), none, none, some (.iload 4), none, some (.bipush 10), none, some (.idiv), some (.istore 4), none, some (.iinc 5 1), none, none, some (.goto (-38)), none, none, some (.return_)]
def xc106 : List (Option Instr) := [some (.aload_n 3), some (.iconst 0), some (.aload_n 0), some (.iload_n 1), some (.iload_n 2), some (.invokevirtual 46), none, none, some (.i2l), some (.lastore), some (.goto 7), none, none, some (.astore 4), none, some (.iconst 1), some (.ireturn), some (.iconst 0), some (.ireturn)]
def xc107 : List (Option Instr) := [some (.aload_n 0), some (.iload_n 1), some (.iload_n 2), some (.invokevirtual 206), none, none, some (.aload_n 0), some (.getfield 40), none, none, some (.iload_n 1), some (.iload_n 2), some (.invokevirtual 209), none, none, some (.aload_n 0), some (.getfield 47), none, none, some (.aload_n 0), some (.getfield 40), none, none, some (.iconst 0), some (.invokevirtual 186), none, none, some (.aload_n 0), some (.getfield 40), none, none, some (.iload_n 2), some (.invokevirtual 203), none, none, some (.ireturn)]
def xc108 : List (Option Instr) := [some (.aload_n 0), some (.getfield 111), none, none, some (.ifCond .eq 15), none, none, some (.aload_n 0), some (.getfield 40), none, none, some (.iload_n 1), some (.iload_n 2), some (.invokevirtual 380), none, none, some (.ifCond .ne 14), none, none, some (.new 147), none, none, some (.dup), some (.ldc_w 383), none, none, some (.invokespecial 151), none, none, some (.athrow), some (.return_)]
def xc109 : List (Option Instr) := [some (.aload_n 0), some (.iload_n 1), some (.iload_n 2), some (.iconst 0), some (.invokevirtual 48), none, none, some (.return_)]
def xc110 : List (Option Instr) := [some (.aload 4), none, some (.iconst 0), some (.aload_n 0), some (.iload_n 1), some (.iload_n 2), some (.iload_n 3), some (.invokevirtual 49), none, none, some (.ifCond .eq 7), none, none, some (.lconst 1), some (.goto 4), none, none, some (.lconst 0), some (.lastore), some (.goto 7), none, none, some (.astore 5), none, some (.iconst 1), some (.ireturn), some (.iconst 0), some (.ireturn)]
def xc111 : List (Option Instr) := [some (.aload_n 0), some (.iload_n 1), some (.invokevirtual 212), none, none, some (.aload_n 0), some (.iload_n 2), some (.invokevirtual 192), none, none, some (.aload_n 0), some (.getfield 26), none, none, some (.iload_n 1), some (.invokevirtual 215), none, none, some (.istore 4), none, some (.aload_n 0), some (.getfield 40), none, none, some (.iload 4), none, some (.iload_n 2), some (.invokevirtual 218), none, none, some (.istore 5), none, some (.aload_n 0), some (.getfield 40), none, none, some (.iload 4), none, some (.iload_n 2), some (.iload_n 3), some (.invokevirtual 221), none, none, some (.aload_n 0), some (.getfield 47), none, none, some (.aload_n 0), some (.getfield 40), none, none, some (.iconst 0), some (.invokevirtual 186), none, none, some (.iload 5), none, some (.ireturn)]
def xc112 : List (Option Instr) := [some (.aload_n 0), some (.getfield 25), none, none, some (.iload_n 2), some (.invokevirtual 59), none, none, some (.iconst 1), some (.iload_n 1), some (.ishl), some (.iconst (-1)), some (.ixor), some (.iand), some (.istore 4), none, some (.aload_n 0), some (.getfield 25), none, none, some (.iload_n 2), some (.iload_n 3), some (.ifCond .eq 12), none, none, some (.iload 4), none, some (.iconst 1), some (.iload_n 1), some (.ishl), some (.ior), some (.goto 5), none, none, some (.iload 4), none, some (.invokevirtual 62), none, none, some (.return_)]
def xc113 : List (Option Instr) := [some (.aload_n 1), some (.iconst 0), some (.aload_n 0), some (.invokevirtual 53), none, none, some (.i2l), some (.lastore), some (.goto 6), none, none, some (.astore_n 2), some (.iconst 1), some (.ireturn), some (.iconst 0), some (.ireturn)]
def xc114 : List (Option Instr) := [some (.aload_n 0), some (.getfield 111), none, none, some (.ifCond .ne 13), none, none, some (.new 62), none, none, some (.dup), some (.ldc 225), none, some (.invokespecial 66), none, none, some (.athrow), some (.aload_n 0), some (.invokevirtual 227), none, none, some (.aload_n 0), some (.invokevirtual 230), none, none, some (.aload_n 0), some (.getfield 10), none, none, some (.aload_n 0), some (.getfield 26), none, none, some (.getfield 233), none, none, some (.invokevirtual 236), none, none, some (.aload_n 0), some (.iconst 0), some (.putfield 111), none, none, some (.aload_n 0), some (.getfield 40), none, none, some (.iconst 0), some (.iconst 0), some (.invokevirtual 183), none, none, some (.aload_n 0), some (.getfield 33), none, none, some (.invokevirtual 239), none, none, some (.aload_n 0), some (.getfield 26), none, none, some (.invokevirtual 242), none, none, some (.aload_n 0), some (.dup), some (.getfield 243), none, none, some (.iconst 1), some (.iadd), some (.putfield 243), none, none, some (.aload_n 0), some (.getfield 243), none, none, some (.iconst 1), some (.isub), some (.ireturn)]
def xc115 : List (Option Instr) := [some (.iconst 0), some (.istore_n 1), some (.iload_n 1), some (.aload_n 0), some (.getfield 19), none, none, some (.getfield 73), none, none, some (.if_icmp .ge 64), none, none, some (.iconst 0), some (.istore_n 2), some (.iload_n 2), some (.aload_n 0), some (.getfield 26), none, none, some (.getfield 131), none, none, some (.if_icmp .ge 45), none, none, some (.aload_n 0), some (.getfield 40), none, none, some (.iload_n 1), some (.iload_n 2), some (.invokevirtual 380), none, none, some (.ifCond .eq 27), none, none, some (.aload_n 0), some (.getfield 19), none, none, some (.getfield 283), none, none, some (.iload_n 1), some (.aload_n 0), some (.getfield 47), none, none, some (.aload_n 0), some (.getfield 40), none, none, some (.iload_n 1), some (.iload_n 2), some (.invokevirtual 388), none, none, some (.invokevirtual 392), none, none, some (.iinc 2 1), none, none, some (.goto (-50)), none, none, some (.iinc 1 1), none, none, some (.goto (-69)), none, none, some (.return_)]
def xc116 : List (Option Instr) := [some (.iconst 0), some (.istore 4), none, some (.iconst 0), some (.istore 5), none, some (.iload 5), none, some (.aload_n 0), some (.getfield 60), none, none, some (.if_icmp .ge 38), none, none, some (.iload 4), none, some (.iconst 2), some (.aload_n 1), some (.iload_n 2), some (.iload_n 3), some (.iload 5), none, some (.invokevirtual 104), none, none, some (.imul), some (.aload_n 0), some (.getfield 14), none, none, some (.iload_n 3), some (.iload 5), none, some (.invokevirtual 108), none, none, some (.isub), some (.invokestatic 110), none, none, some (.iadd), some (.istore 4), none, some (.iinc 5 1), none, none, some (.goto (-41)), none, none, some (.iload 4), none, some (.ireturn)]
def xc117 : List (Option Instr) := [some (.aload_n 0), some (.getfield 10), none, none, some (.invokevirtual 395), none, none, some (.iconst 2), some (.aload_n 0), some (.getfield 26), none, none, some (.getfield 233), none, none, some (.invokestatic 85), none, none, some (.imul), some (.iconst 2), some (.iadd), some (.istore_n 1), some (.iconst 0), some (.istore_n 2), some (.iload_n 2), some (.aload_n 0), some (.getfield 10), none, none, some (.getfield 58), none, none, some (.if_icmp .ge 97), none, none, some (.aload_n 0), some (.getfield 26), none, none, some (.getfield 117), none, none, some (.iload_n 2), some (.invokestatic 143), none, none, some (.ifCond .eq 38), none, none, some (.aload_n 0), some (.getfield 10), none, none, some (.getfield 398), none, none, some (.iload_n 2), some (.iconst 0), some (.iload_n 1), some (.aload_n 0), some (.getfield 47), none, none, some (.getfield 308), none, none, some (.aload_n 0), some (.getfield 26), none, none, some (.iload_n 2), some (.invokevirtual 215), none, none, some (.invokevirtual 253), none, none, some (.isub), some (.invokevirtual 161), none, none, some (.goto 42), none, none, some (.aload_n 0), some (.getfield 26), none, none, some (.getfield 233), none, none, some (.iload_n 2), some (.invokestatic 143), none, none, some (.ifCond .eq 28), none, none, some (.aload_n 0), some (.getfield 10), none, none, some (.getfield 398), none, none, some (.iload_n 2), some (.iconst 0), some (.aload_n 0), some (.getfield 26), none, none, some (.getfield 264), none, none, some (.iload_n 2), some (.invokevirtual 253), none, none, some (.iconst 1), some (.isub), some (.invokevirtual 161), none, none, some (.iinc 2 1), none, none, some (.goto (-102)), none, none, some (.return_)]
def xc118 : List (Option Instr) := [some (.iconst 0), some (.istore_n 1), some (.iload_n 1), some (.bipush 10), none, some (.if_icmp .ge 51), none, none, some (.iconst 4), some (.istore_n 2), some (.iload_n 2), some (.ifCond .le 29), none, none, some (.aload_n 0), some (.getfield 32), none, none, some (.iload_n 1), some (.iload_n 2), some (.aload_n 0), some (.getfield 32), none, none, some (.iload_n 1), some (.iload_n 2), some (.iconst 1), some (.isub), some (.invokevirtual 50), none, none, some (.invokevirtual 57), none, none, some (.iinc 2 (-1)), none, none, some (.goto (-27)), none, none, some (.aload_n 0), some (.getfield 32), none, none, some (.iload_n 1), some (.iconst 0), some (.iconst 0), some (.invokevirtual 57), none, none, some (.iinc 1 1), none, none, some (.goto (-51)), none, none, some (.return_)]
def xc119 : List (Option Instr) := [some (.iconst 0), some (.istore_n 2), some (.iload_n 2), some (.aload_n 0), some (.getfield 35), none, none, some (.if_icmp .ge 49), none, none, some (.iload_n 1), some (.iload_n 2), some (.invokestatic 42), none, none, some (.ifCond .eq 35), none, none, some (.aload_n 0), some (.iload_n 2), some (.invokevirtual 59), none, none, some (.bipush 60), none, some (.if_icmp .lt 25), none, none, some (.aload_n 0), some (.getfield 20), none, none, some (.iload_n 2), some (.aload_n 0), some (.getfield 20), none, none, some (.iload_n 2), some (.invokevirtual 46), none, none, some (.iconst 1), some (.iadd), some (.iconst 3), some (.invokestatic 62), none, none, some (.invokevirtual 39), none, none, some (.iinc 2 1), none, none, some (.goto (-51)), none, none, some (.return_)]
def xc120 : List (Option Instr) := [some (.aload_n 0), some (.iconst 0), some (.iconst 0), some (.iconst 0), some (.invokevirtual 43), none, none, some (.aload_n 0), some (.iconst 0), some (.putfield 20), none, none, some (.return_)]
def xc121 : List (Option Instr) := [some (.aload_n 3), some (.iconst 0), some (.aload_n 0), some (.iload_n 1), some (.iload_n 2), some (.invokevirtual 56), none, none, some (.i2l), some (.lastore), some (.goto 11), none, none, some (.astore 4), none, some (.iconst 1), some (.ireturn), some (.astore 4), none, some (.iconst 2), some (.ireturn), some (.iconst 0), some (.ireturn)]
def xc122 : List (Option Instr) := [some (.aload_n 3), some (.iconst 0), some (.aload_n 0), some (.iload_n 1), some (.iload_n 2), some (.invokevirtual 59), none, none, some (.i2l), some (.lastore), some (.goto 7), none, none, some (.astore 4), none, some (.iconst 1), some (.ireturn), some (.iconst 0), some (.ireturn)]
def xc123 : List (Option Instr) := [some (.aload_n 3), some (.iconst 0), some (.aload_n 0), some (.iload_n 1), some (.iload_n 2), some (.invokevirtual 62), none, none, some (.i2l), some (.lastore), some (.goto 11), none, none, some (.astore 4), none, some (.iconst 1), some (.ireturn), some (.astore 4), none, some (.iconst 2), some (.ireturn), some (.iconst 0), some (.ireturn)]
def xc124 : List (Option Instr) := [some (.aload 4), none, some (.iconst 0), some (.aload_n 0), some (.iload_n 1), some (.iload_n 2), some (.iload_n 3), some (.invokevirtual 65), none, none, some (.i2l), some (.lastore), some (.goto 11), none, none, some (.astore 5), none, some (.iconst 1), some (.ireturn), some (.astore 5), none, some (.iconst 2), some (.ireturn), some (.iconst 0), some (.ireturn)]
def xc125 : List (Option Instr) := [some (.aload 4), none, some (.iconst 0), some (.aload_n 0), some (.iload_n 1), some (.iload_n 2), some (.iload_n 3), some (.invokevirtual 68), none, none, some (.i2l), some (.lastore), some (.goto 11), none, none, some (.astore 5), none, some (.iconst 1), some (.ireturn), some (.astore 5), none, some (.iconst 2), some (.ireturn), some (.iconst 0), some (.ireturn)]
def xc126 : List (Option Instr) := [some (.aload_n 3), some (.iconst 0), some (.aload_n 0), some (.iload_n 1), some (.iload_n 2), some (.invokevirtual 71), none, none, some (.i2l), some (.lastore), some (.goto 11), none, none, some (.astore 4), none, some (.iconst 1), some (.ireturn), some (.astore 4), none, some (.iconst 2), some (.ireturn), some (.iconst 0), some (.ireturn)]
def xc127 : List (Option Instr) := [some (.aload_n 2), some (.iconst 0), some (.aload_n 0), some (.iload_n 1), some (.invokevirtual 74), none, none, some (.i2l), some (.lastore), some (.goto 6), none, none, some (.astore_n 3), some (.iconst 1), some (.ireturn), some (.iconst 0), some (.ireturn)]
def xc128 : List (Option Instr) := [some (.aload 6), none, some (.iconst 0), some (.aload_n 0), some (.iload_n 1), some (.iload_n 2), some (.iload_n 3), some (.iload 4), none, some (.iload 5), none, some (.invokevirtual 77), none, none, some (.i2l), some (.lastore), some (.goto 7), none, none, some (.astore 7), none, some (.iconst 1), some (.ireturn), some (.iconst 0), some (.ireturn)]
def xc129 : List (Option Instr) := [some (.aload_n 0), some (.iload_n 1), some (.iload_n 2), some (.invokevirtual 206), none, none, some (.aload_n 0), some (.iload_n 3), some (.invokevirtual 212), none, none, some (.aload_n 0), some (.iload 4), none, some (.invokevirtual 212), none, none, some (.aload_n 0), some (.iload 5), none, some (.invokevirtual 212), none, none, some (.aload_n 0), some (.iload_n 1), some (.iload_n 2), some (.aload_n 0), some (.getfield 26), none, none, some (.iload_n 3), some (.invokevirtual 215), none, none, some (.aload_n 0), some (.getfield 26), none, none, some (.iload 4), none, some (.invokevirtual 215), none, none, some (.invokevirtual 325), none, none, some (.aload_n 0), some (.getfield 51), none, none, some (.getfield 308), none, none, some (.aload_n 0), some (.getfield 26), none, none, some (.iload 5), none, some (.invokevirtual 215), none, none, some (.invokevirtual 253), none, none, some (.ireturn)]
def xc130 : List (Option Instr) := [some (.aload_n 0), some (.getfield 40), none, none, some (.iload_n 1), some (.iload_n 2), some (.iload_n 3), some (.iload 4), none, some (.invokevirtual 385), none, none, some (.aload_n 0), some (.getfield 51), none, none, some (.aload_n 0), some (.getfield 40), none, none, some (.iconst 0), some (.invokevirtual 186), none, none, some (.aload_n 0), some (.getfield 40), none, none, some (.iload_n 1), some (.iload_n 2), some (.iload_n 3), some (.iload 4), none, some (.invokevirtual 385), none, none, some (.return_)]
def xc131 : List (Option Instr) := [some (.aload_n 0), some (.iload_n 1), some (.iload_n 2), some (.iload_n 3), some (.invokevirtual 51), none, none, some (.istore 5), none, some (.aload_n 0), some (.getfield 14), none, none, some (.iload_n 1), some (.iconst 5), some (.imul), some (.iload_n 2), some (.iadd), some (.iload_n 3), some (.aload_n 0), some (.iload_n 1), some (.iload_n 2), some (.iload 4), none, some (.invokevirtual 51), none, none, some (.invokevirtual 44), none, none, some (.aload_n 0), some (.getfield 14), none, none, some (.iload_n 1), some (.iconst 5), some (.imul), some (.iload_n 2), some (.iadd), some (.iload 4), none, some (.iload 5), none, some (.invokevirtual 44), none, none, some (.return_)]
def xc132 : List (Option Instr) := [some (.aload 4), none, some (.iconst 0), some (.aload_n 0), some (.iload_n 1), some (.iload_n 2), some (.iload_n 3), some (.invokevirtual 81), none, none, some (.i2l), some (.lastore), some (.goto 7), none, none, some (.astore 5), none, some (.iconst 1), some (.ireturn), some (.iconst 0), some (.ireturn)]
def xc133 : List (Option Instr) := [some (.aload_n 0), some (.iload_n 1), some (.iload_n 2), some (.invokevirtual 206), none, none, some (.aload_n 0), some (.iload_n 3), some (.invokevirtual 212), none, none, some (.aload_n 0), some (.getfield 26), none, none, some (.iload_n 3), some (.invokevirtual 215), none, none, some (.istore 4), none, some (.aload_n 0), some (.getfield 47), none, none, some (.getfield 308), none, none, some (.iload 4), none, some (.invokevirtual 253), none, none, some (.istore 5), none, some (.iconst (-1)), some (.istore 6), none, some (.iconst 0), some (.istore 7), none, some (.iload 7), none, some (.aload_n 0), some (.getfield 40), none, none, some (.getfield 291), none, none, some (.if_icmp .ge 92), none, none, some (.iload 7), none, some (.iconst 1), some (.iadd), some (.istore 8), none, some (.iload 8), none, some (.aload_n 0), some (.getfield 40), none, none, some (.getfield 291), none, none, some (.if_icmp .ge 68), none, none, some (.aload_n 0), some (.iload_n 1), some (.iload_n 2), some (.iload 7), none, some (.iload 8), none, some (.invokevirtual 325), none, none, some (.aload_n 0), some (.getfield 51), none, none, some (.getfield 308), none, none, some (.iload 4), none, some (.invokevirtual 253), none, none, some (.istore 9), none, some (.iload 9), none, some (.iload 5), none, some (.if_icmp .ge 31), none, none, some (.iload 9), none, some (.istore 5), none, some (.bipush 10), none, some (.aload_n 0), some (.getfield 26), none, none, some (.iload 7), none, some (.invokevirtual 329), none, none, some (.imul), some (.aload_n 0), some (.getfield 26), none, none, some (.iload 8), none, some (.invokevirtual 329), none, none, some (.iadd), some (.istore 6), none, some (.iinc 8 1), none, none, some (.goto (-74)), none, none, some (.iinc 7 1), none, none, some (.goto (-98)), none, none, some (.iload 6), none, some (.ireturn)]
def xc134 : List (Option Instr) := [some (.iconst 0), some (.istore_n 2), some (.iload_n 2), some (.bipush 10), none, some (.if_icmp .ge 31), none, none, some (.aload_n 0), some (.getfield 28), none, none, some (.iload_n 2), some (.invokestatic 47), none, none, some (.ifCond .eq 14), none, none, some (.aload_n 0), some (.iload_n 2), some (.invokevirtual 61), none, none, some (.iload_n 1), some (.if_icmp .ne 5), none, none, some (.iload_n 2), some (.ireturn), some (.iinc 2 1), none, none, some (.goto (-31)), none, none, some (.iconst (-1)), some (.ireturn)]
def xc135 : List (Option Instr) := [some (.aload_n 3), some (.iconst 0), some (.aload_n 0), some (.iload_n 1), some (.iload_n 2), some (.invokevirtual 84), none, none, some (.i2l), some (.lastore), some (.goto 11), none, none, some (.astore 4), none, some (.iconst 1), some (.ireturn), some (.astore 4), none, some (.iconst 2), some (.ireturn), some (.iconst 0), some (.ireturn)]
def xc136 : List (Option Instr) := [some (.aload_n 0), some (.iload_n 2), some (.invokevirtual 212), none, none, some (.iload_n 1), some (.ifCond .lt 10), none, none, some (.iload_n 1), some (.sipush 128), none, none, some (.if_icmp .lt 14), none, none, some (.new 90), none, none, some (.dup), some (.ldc_w 332), none, none, some (.invokespecial 94), none, none, some (.athrow), some (.aload_n 0), some (.getfield 51), none, none, some (.aload_n 0), some (.getfield 40), none, none, some (.iload_n 1), some (.invokevirtual 186), none, none, some (.aload_n 0), some (.getfield 51), none, none, some (.getfield 308), none, none, some (.aload_n 0), some (.getfield 26), none, none, some (.iload_n 2), some (.invokevirtual 215), none, none, some (.invokevirtual 253), none, none, some (.ireturn)]
def xc137 : List (Option Instr) := [some (.aload_n 0), some (.invokespecial 1), none, none, some (.aload_n 0), some (.bipush 10), none, some (.newarray .int), none, some (.putfield 9), none, none, some (.aload_n 0), some (.bipush 10), none, some (.newarray .int), none, some (.putfield 13), none, none, some (.aload_n 0), some (.bipush 7), none, some (.newarray .int), none, some (.putfield 16), none, none, some (.aload_n 0), some (.bipush 7), none, some (.newarray .int), none, some (.putfield 19), none, none, some (.aload_n 0), some (.bipush 10), none, some (.bipush 10), none, some (.multianewarray 22 2), none, none, none, some (.putfield 24), none, none, some (.aload_n 0), some (.new 27), none, none, some (.dup), some (.invokespecial 29), none, none, some (.putfield 30), none, none, some (.aload_n 0), some (.bipush 10), none, some (.newarray .int), none, some (.putfield 34), none, none, some (.aload_n 0), some (.bipush 10), none, some (.newarray .int), none, some (.putfield 37), none, none, some (.aload_n 0), some (.bipush 7), none, some (.iconst 5), some (.multianewarray 22 2), none, none, none, some (.putfield 40), none, none, some (.aload_n 0), some (.iconst 0), some (.newarray .int), none, some (.putfield 43), none, none, some (.aload_n 0), some (.bipush 7), none, some (.iconst 5), some (.bipush 8), none, some (.multianewarray 46 3), none, none, none, some (.putfield 48), none, none, some (.aload_n 0), some (.bipush 8), none, some (.iconst 5), some (.multianewarray 51 2), none, none, none, some (.putfield 53), none, none, some (.return_)]
def xc138 : List (Option Instr) := [some (.aload_n 0), some (.invokespecial 1), none, none, some (.aload_n 0), some (.getstatic 39), none, none, some (.putfield 9), none, none, some (.return_)]
def xc139 : List (Option Instr) := [some (.aload_n 0), some (.invokespecial 1), none, none, some (.aload_n 0), some (.iconst 0), some (.putfield 7), none, none, some (.return_)]
def xc140 : List (Option Instr) := [some (.aload_n 0), some (.invokespecial 1), none, none, some (.return_)]
def xc141 : List (Option Instr) := [some (.aload_n 0), some (.getfield 56), none, none, some (.ireturn)]
def xc142 : List (Option Instr) := [some (.aload_n 0), some (.iconst 0), some (.putfield 56), none, none, some (.iload_n 1), some (.iconst 0), some (.iconst 5), some (.invokestatic 63), none, none, some (.ifCond .ne 9), none, none, some (.aload_n 0), some (.iconst 1), some (.invokevirtual 70), none, none, some (.ireturn), some (.aload_n 0), some (.getfield 60), none, none, some (.bipush 10), none, some (.if_icmp .ne 9), none, none, some (.aload_n 0), some (.iconst 2), some (.invokevirtual 70), none, none, some (.ireturn), some (.aload_n 0), some (.getfield 9), none, none, some (.aload_n 0), some (.getfield 60), none, none, some (.iload_n 1), some (.iastore), some (.aload_n 0), some (.dup), some (.getfield 60), none, none, some (.dup_x1), some (.iconst 1), some (.iadd), some (.putfield 60), none, none, some (.ireturn)]
def xc143 : List (Option Instr) := [some (.iload_n 0), some (.iload_n 1), some (.if_icmp .lt 12), none, none, some (.iload_n 0), some (.iload_n 2), some (.if_icmp .gt 7), none, none, some (.iconst 1), some (.goto 4), none, none, some (.iconst 0), some (.ireturn)]
def xc144 : List (Option Instr) := [some (.aload_n 0), some (.iload_n 1), some (.putfield 56), none, none, some (.iconst 0), some (.ireturn)]
def xc145 : List (Option Instr) := [some (.aload_n 0), some (.iconst 0), some (.putfield 56), none, none, some (.iload_n 1), some (.iconst 0), some (.iconst 5), some (.invokestatic 63), none, none, some (.ifCond .ne 9), none, none, some (.aload_n 0), some (.iconst 1), some (.invokevirtual 70), none, none, some (.ireturn), some (.aload_n 0), some (.getfield 67), none, none, some (.bipush 7), none, some (.if_icmp .eq 10), none, none, some (.aload_n 0), some (.getfield 74), none, none, some (.ifCond .eq 9), none, none, some (.aload_n 0), some (.iconst 2), some (.invokevirtual 70), none, none, some (.ireturn), some (.aload_n 0), some (.getfield 16), none, none, some (.aload_n 0), some (.getfield 67), none, none, some (.iload_n 1), some (.iastore), some (.aload_n 0), some (.dup), some (.getfield 67), none, none, some (.dup_x1), some (.iconst 1), some (.iadd), some (.putfield 67), none, none, some (.ireturn)]
def xc146 : List (Option Instr) := [some (.aload_n 0), some (.iconst 0), some (.putfield 56), none, none, some (.iload_n 1), some (.ifCond .lt 30), none, none, some (.iload_n 1), some (.iconst 1), some (.aload_n 0), some (.getfield 60), none, none, some (.ishl), some (.if_icmp .ge 20), none, none, some (.iload_n 1), some (.invokestatic 82), none, none, some (.iconst 3), some (.if_icmp .lt 12), none, none, some (.iload_n 2), some (.iconst 1), some (.iconst 5), some (.invokestatic 63), none, none, some (.ifCond .ne 9), none, none, some (.aload_n 0), some (.iconst 1), some (.invokevirtual 70), none, none, some (.ireturn), some (.aload_n 0), some (.getfield 74), none, none, some (.ifCond .ne 15), none, none, some (.aload_n 0), some (.iload_n 1), some (.invokevirtual 85), none, none, some (.invokestatic 82), none, none, some (.iconst 3), some (.if_icmp .ge 9), none, none, some (.aload_n 0), some (.iconst 2), some (.invokevirtual 70), none, none, some (.ireturn), some (.aload_n 0), some (.iconst 1), some (.putfield 74), none, none, some (.aload_n 0), some (.iload_n 1), some (.putfield 88), none, none, some (.aload_n 0), some (.iload_n 1), some (.putfield 91), none, none, some (.aload_n 0), some (.iload_n 2), some (.putfield 93), none, none, some (.aload_n 0), some (.aload_n 0), some (.iload_n 1), some (.invokevirtual 85), none, none, some (.putfield 96), none, none, some (.aload_n 0), some (.iconst 0), some (.putfield 99), none, none, some (.aload_n 0), some (.bipush 10), none, some (.newarray .int), none, some (.putfield 34), none, none, some (.aload_n 0), some (.invokevirtual 102), none, none, some (.aload_n 0), some (.bipush 7), none, some (.iconst 5), some (.multianewarray 22 2), none, none, none, some (.putfield 40), none, none, some (.aload_n 0), some (.getfield 96), none, none, some (.invokestatic 82), none, none, some (.ireturn)]
def xc147 : List (Option Instr) := [some (.iconst 0), some (.istore_n 1), some (.iconst 0), some (.istore_n 2), some (.iload_n 2), some (.bipush 10), none, some (.if_icmp .ge 17), none, none, some (.iload_n 1), some (.iload_n 0), some (.iload_n 2), some (.ishr), some (.iconst 1), some (.iand), some (.iadd), some (.istore_n 1), some (.iinc 2 1), none, none, some (.goto (-17)), none, none, some (.iload_n 1), some (.ireturn)]
def xc148 : List (Option Instr) := [some (.iconst 0), some (.istore_n 2), some (.iconst 0), some (.istore_n 3), some (.iconst 0), some (.istore 4), none, some (.iload 4), none, some (.aload_n 0), some (.getfield 67), none, none, some (.if_icmp .ge 86), none, none, some (.iconst 1), some (.istore 5), none, some (.iconst 0), some (.istore 6), none, some (.iload 6), none, some (.aload_n 0), some (.getfield 60), none, none, some (.if_icmp .ge 45), none, none, some (.iload 5), none, some (.iload_n 1), some (.iload 6), none, some (.invokestatic 78), none, none, some (.ifCond .eq 20), none, none, some (.aload_n 0), some (.getfield 9), none, none, some (.iload 6), none, some (.iaload), some (.aload_n 0), some (.getfield 16), none, none, some (.iload 4), none, some (.iaload), some (.if_icmp .eq 7), none, none, some (.iconst 1), some (.goto 4), none, none, some (.iconst 0), some (.iand), some (.istore 5), none, some (.iinc 6 1), none, none, some (.goto (-48)), none, none, some (.iload 5), none, some (.ifCond .ne 6), none, none, some (.goto 15), none, none, some (.iload_n 2), some (.iconst 1), some (.iload 4), none, some (.ishl), some (.ior), some (.istore_n 2), some (.iconst 1), some (.iload 4), none, some (.ishl), some (.istore_n 3), some (.iinc 4 1), none, none, some (.goto (-89)), none, none, some (.iload_n 2), some (.invokestatic 82), none, none, some (.iconst 2), some (.irem), some (.ifCond .ne 11), none, none, some (.iload_n 2), some (.iload_n 3), some (.iconst (-1)), some (.ixor), some (.iand), some (.goto 4), none, none, some (.iload_n 2), some (.ireturn)]
def xc149 : List (Option Instr) := [some (.iload_n 0), some (.iload_n 1), some (.ishr), some (.iconst 1), some (.iand), some (.iconst 1), some (.if_icmp .ne 7), none, none, some (.iconst 1), some (.goto 4), none, none, some (.iconst 0), some (.ireturn)]
def xc150 : List (Option Instr) := [some (.iconst 0), some (.istore_n 1), some (.iload_n 1), some (.bipush 10), none, some (.if_icmp .ge 16), none, none, some (.aload_n 0), some (.getfield 37), none, none, some (.iload_n 1), some (.iconst (-1)), some (.iastore), some (.iinc 1 1), none, none, some (.goto (-16)), none, none, some (.return_)]
def xc151 : List (Option Instr) := [some (.aload_n 0), some (.iconst 0), some (.putfield 56), none, none, some (.iload_n 1), some (.iconst 2), some (.if_icmp .lt 13), none, none, some (.iload_n 2), some (.iconst 2), some (.bipush 6), none, some (.invokestatic 63), none, none, some (.ifCond .ne 9), none, none, some (.aload_n 0), some (.iconst 1), some (.invokevirtual 70), none, none, some (.ireturn), some (.aload_n 0), some (.getfield 74), none, none, some (.ifCond .eq 28), none, none, some (.aload_n 0), some (.getfield 105), none, none, some (.ifCond .ne 21), none, none, some (.aload_n 0), some (.getfield 108), none, none, some (.ifCond .ne 14), none, none, some (.iload_n 1), some (.aload_n 0), some (.getfield 91), none, none, some (.invokestatic 82), none, none, some (.if_icmp .lt 9), none, none, some (.aload_n 0), some (.iconst 2), some (.invokevirtual 70), none, none, some (.ireturn), some (.aload_n 0), some (.iconst 1), some (.putfield 108), none, none, some (.aload_n 0), some (.iload_n 1), some (.putfield 111), none, none, some (.aload_n 0), some (.iload_n 2), some (.putfield 114), none, none, some (.aload_n 0), some (.iconst 0), some (.putfield 116), none, none, some (.aload_n 0), some (.bipush 7), none, some (.iconst 5), some (.multianewarray 22 2), none, none, none, some (.putfield 40), none, none, some (.aload_n 0), some (.invokevirtual 102), none, none, some (.aload_n 0), some (.dup), some (.getfield 99), none, none, some (.iconst 1), some (.iadd), some (.dup_x1), some (.putfield 99), none, none, some (.ireturn)]
def xc152 : List (Option Instr) := [some (.aload_n 0), some (.iconst 0), some (.putfield 56), none, none, some (.aload_n 0), some (.getfield 108), none, none, some (.ifCond .eq 14), none, none, some (.aload_n 0), some (.getfield 116), none, none, some (.aload_n 0), some (.getfield 93), none, none, some (.if_icmp .ne 9), none, none, some (.aload_n 0), some (.iconst 1), some (.invokevirtual 70), none, none, some (.ireturn), some (.aload_n 0), some (.getfield 91), none, none, some (.invokestatic 82), none, none, some (.aload_n 0), some (.getfield 114), none, none, some (.iadd), some (.iconst 1), some (.isub), some (.aload_n 0), some (.getfield 114), none, none, some (.idiv), some (.istore_n 1), some (.iload_n 1), some (.newarray .int), none, some (.astore_n 2), some (.aload_n 0), some (.invokevirtual 102), none, none, some (.iconst 0), some (.istore_n 3), some (.iload_n 3), some (.aload_n 0), some (.getfield 60), none, none, some (.if_icmp .ge 148), none, none, some (.aload_n 0), some (.getfield 91), none, none, some (.iload_n 3), some (.invokestatic 78), none, none, some (.ifCond .ne 6), none, none, some (.goto 128), none, none, some (.iconst (-1)), some (.istore 4), none, some (.iconst 0), some (.istore 5), none, some (.iconst 0), some (.istore 6), none, some (.iload 6), none, some (.iload_n 1), some (.if_icmp .ge 95), none, none, some (.iconst 0), some (.istore 7), none, some (.iconst 0), some (.istore 8), none, some (.iload 8), none, some (.iload_n 3), some (.if_icmp .ge 39), none, none, some (.iload 7), none, some (.aload_n 2), some (.iload 6), none, some (.iaload), some (.iload 8), none, some (.invokestatic 78), none, none, some (.ifCond .eq 15), none, none, some (.aload_n 0), some (.getfield 24), none, none, some (.iload_n 3), some (.aaload), some (.iload 8), none, some (.iaload), some (.goto 4), none, none, some (.iconst 0), some (.iadd), some (.istore 7), none, some (.iinc 8 1), none, none, some (.goto (-39)), none, none, some (.aload_n 2), some (.iload 6), none, some (.iaload), some (.invokestatic 82), none, none, some (.aload_n 0), some (.getfield 114), none, none, some (.if_icmp .eq 27), none, none, some (.iload 4), none, some (.iconst (-1)), some (.if_icmp .eq 13), none, none, some (.iload 7), none, some (.iload 5), none, some (.if_icmp .lt 6), none, none, some (.goto 11), none, none, some (.iload 6), none, some (.istore 4), none, some (.iload 7), none, some (.istore 5), none, some (.iinc 6 1), none, none, some (.goto (-95)), none, none, some (.aload_n 2), some (.iload 4), none, some (.dup2), some (.iaload), some (.iconst 1), some (.iload_n 3), some (.ishl), some (.ior), some (.iastore), some (.aload_n 0), some (.getfield 37), none, none, some (.iload_n 3), some (.iload 4), none, some (.iastore), some (.iinc 3 1), none, none, some (.goto (-150)), none, none, some (.iconst 0), some (.istore_n 3), some (.iload_n 3), some (.aload_n 0), some (.getfield 60), none, none, some (.if_icmp .ge 76), none, none, some (.iconst 0), some (.istore 4), none, some (.iload 4), none, some (.aload_n 0), some (.getfield 60), none, none, some (.if_icmp .ge 58), none, none, some (.aload_n 0), some (.getfield 24), none, none, some (.iload_n 3), some (.aaload), some (.iload 4), none, some (.dup2), some (.iaload), some (.iload_n 3), some (.iload 4), none, some (.if_icmp .eq 33), none, none, some (.aload_n 0), some (.getfield 37), none, none, some (.iload_n 3), some (.iaload), some (.iconst (-1)), some (.if_icmp .eq 23), none, none, some (.aload_n 0), some (.getfield 37), none, none, some (.iload_n 3), some (.iaload), some (.aload_n 0), some (.getfield 37), none, none, some (.iload 4), none, some (.iaload), some (.if_icmp .ne 7), none, none, some (.iconst 1), some (.goto 4), none, none, some (.iconst 0), some (.iadd), some (.iastore), some (.iinc 4 1), none, none, some (.goto (-61)), none, none, some (.iinc 3 1), none, none, some (.goto (-78)), none, none, some (.aload_n 0), some (.dup), some (.getfield 116), none, none, some (.iconst 1), some (.iadd), some (.putfield 116), none, none, some (.iload_n 1), some (.ireturn)]
def xc153 : List (Option Instr) := [some (.aload_n 0), some (.iconst 0), some (.putfield 56), none, none, some (.aload_n 0), some (.getfield 108), none, none, some (.ifCond .eq 36), none, none, some (.aload_n 0), some (.iload_n 1), some (.invokevirtual 119), none, none, some (.ifCond .eq 28), none, none, some (.aload_n 0), some (.getfield 96), none, none, some (.iload_n 1), some (.invokestatic 78), none, none, some (.ifCond .eq 17), none, none, some (.iload_n 2), some (.iconst 0), some (.aload_n 0), some (.getfield 116), none, none, some (.iconst 1), some (.isub), some (.invokestatic 63), none, none, some (.ifCond .ne 9), none, none, some (.aload_n 0), some (.iconst 1), some (.invokevirtual 70), none, none, some (.ireturn), some (.iload_n 3), some (.ifCond .lt 25), none, none, some (.iload_n 3), some (.aload_n 0), some (.getfield 91), none, none, some (.iconst (-1)), some (.ixor), some (.iand), some (.ifCond .ne 14), none, none, some (.iload_n 3), some (.invokestatic 82), none, none, some (.aload_n 0), some (.getfield 111), none, none, some (.if_icmp .eq 9), none, none, some (.aload_n 0), some (.iconst 2), some (.invokevirtual 70), none, none, some (.ireturn), some (.aload_n 0), some (.getfield 40), none, none, some (.iload_n 1), some (.aaload), some (.iload_n 2), some (.iload_n 3), some (.iastore), some (.iconst 0), some (.istore 4), none, some (.iconst 0), some (.istore 5), none, some (.iload 5), none, some (.aload_n 0), some (.getfield 67), none, none, some (.if_icmp .ge 28), none, none, some (.iload 4), none, some (.aload_n 0), some (.getfield 40), none, none, some (.iload 5), none, some (.aaload), some (.iload_n 2), some (.iaload), some (.iload_n 3), some (.iand), some (.invokestatic 82), none, none, some (.iadd), some (.istore 4), none, some (.iinc 5 1), none, none, some (.goto (-31)), none, none, some (.iload 4), none, some (.ireturn)]
def xc154 : List (Option Instr) := [some (.iload_n 1), some (.iconst 0), some (.aload_n 0), some (.getfield 67), none, none, some (.iconst 1), some (.isub), some (.invokestatic 63), none, none, some (.ireturn)]
def xc155 : List (Option Instr) := [some (.aload_n 0), some (.iconst 0), some (.putfield 56), none, none, some (.aload_n 0), some (.getfield 108), none, none, some (.ifCond .eq 14), none, none, some (.aload_n 0), some (.getfield 116), none, none, some (.aload_n 0), some (.getfield 93), none, none, some (.if_icmp .ge 9), none, none, some (.aload_n 0), some (.iconst 1), some (.invokevirtual 70), none, none, some (.ireturn), some (.iconst 0), some (.istore_n 1), some (.iconst 0), some (.istore_n 2), some (.iload_n 2), some (.aload_n 0), some (.getfield 60), none, none, some (.if_icmp .ge 88), none, none, some (.iconst 0), some (.istore_n 3), some (.iconst 0), some (.istore 4), none, some (.iload 4), none, some (.aload_n 0), some (.getfield 60), none, none, some (.if_icmp .ge 43), none, none, some (.iload_n 3), some (.aload_n 0), some (.getfield 91), none, none, some (.iload 4), none, some (.invokestatic 78), none, none, some (.ifCond .eq 21), none, none, some (.aload_n 0), some (.iload 4), none, some (.invokevirtual 123), none, none, some (.aload_n 0), some (.iload_n 2), some (.invokevirtual 123), none, none, some (.if_icmp .le 7), none, none, some (.iconst 1), some (.goto 4), none, none, some (.iconst 0), some (.iadd), some (.istore_n 3), some (.iinc 4 1), none, none, some (.goto (-46)), none, none, some (.aload_n 0), some (.getfield 91), none, none, some (.iload_n 2), some (.invokestatic 78), none, none, some (.ifCond .eq 17), none, none, some (.iload_n 3), some (.aload_n 0), some (.getfield 111), none, none, some (.if_icmp .ge 9), none, none, some (.iload_n 1), some (.iconst 1), some (.iload_n 2), some (.ishl), some (.ior), some (.istore_n 1), some (.iinc 2 1), none, none, some (.goto (-90)), none, none, some (.iconst 0), some (.istore_n 2), some (.iload_n 2), some (.aload_n 0), some (.getfield 60), none, none, some (.if_icmp .ge 38), none, none, some (.aload_n 0), some (.getfield 91), none, none, some (.iload_n 2), some (.invokestatic 78), none, none, some (.ifCond .eq 21), none, none, some (.iload_n 1), some (.iload_n 2), some (.invokestatic 78), none, none, some (.ifCond .ne 13), none, none, some (.aload_n 0), some (.getfield 34), none, none, some (.iload_n 2), some (.aload_n 0), some (.getfield 99), none, none, some (.iastore), some (.iinc 2 1), none, none, some (.goto (-40)), none, none, some (.aload_n 0), some (.iload_n 1), some (.putfield 91), none, none, some (.aload_n 0), some (.iconst 0), some (.putfield 108), none, none, some (.aload_n 0), some (.getfield 91), none, none, some (.invokestatic 82), none, none, some (.ireturn)]
def xc156 : List (Option Instr) := [some (.iconst 0), some (.istore_n 2), some (.iconst 0), some (.istore_n 3), some (.iload_n 3), some (.aload_n 0), some (.getfield 67), none, none, some (.if_icmp .ge 48), none, none, some (.iconst 0), some (.istore 4), none, some (.iload 4), none, some (.iconst 5), some (.if_icmp .ge 33), none, none, some (.iload_n 2), some (.aload_n 0), some (.getfield 40), none, none, some (.iload_n 3), some (.aaload), some (.iload 4), none, some (.iaload), some (.iload_n 1), some (.invokestatic 78), none, none, some (.ifCond .eq 7), none, none, some (.iconst 1), some (.goto 4), none, none, some (.iconst 0), some (.iadd), some (.istore_n 2), some (.iinc 4 1), none, none, some (.goto (-33)), none, none, some (.iinc 3 1), none, none, some (.goto (-50)), none, none, some (.iload_n 2), some (.ireturn)]
def xc157 : List (Option Instr) := [some (.aload_n 0), some (.iconst 0), some (.putfield 56), none, none, some (.aload_n 0), some (.getfield 74), none, none, some (.ifCond .eq 29), none, none, some (.aload_n 0), some (.getfield 105), none, none, some (.ifCond .ne 22), none, none, some (.aload_n 0), some (.getfield 108), none, none, some (.ifCond .ne 15), none, none, some (.aload_n 0), some (.getfield 91), none, none, some (.invokestatic 82), none, none, some (.bipush 8), none, some (.if_icmp .le 9), none, none, some (.aload_n 0), some (.iconst 1), some (.invokevirtual 70), none, none, some (.ireturn), some (.aload_n 0), some (.iconst 1), some (.putfield 105), none, none, some (.aload_n 0), some (.aload_n 0), some (.getfield 91), none, none, some (.invokestatic 82), none, none, some (.newarray .int), none, some (.putfield 43), none, none, some (.iconst 0), some (.istore_n 1), some (.iconst 0), some (.istore_n 2), some (.iload_n 2), some (.aload_n 0), some (.getfield 60), none, none, some (.if_icmp .ge 30), none, none, some (.aload_n 0), some (.getfield 91), none, none, some (.iload_n 2), some (.invokestatic 78), none, none, some (.ifCond .eq 13), none, none, some (.aload_n 0), some (.getfield 43), none, none, some (.iload_n 1), some (.iinc 1 1), none, none, some (.iload_n 2), some (.iastore), some (.iinc 2 1), none, none, some (.goto (-32)), none, none, some (.aload_n 0), some (.bipush 7), none, some (.iconst 5), some (.bipush 8), none, some (.multianewarray 46 3), none, none, none, some (.putfield 48), none, none, some (.aload_n 0), some (.bipush 8), none, some (.iconst 5), some (.multianewarray 51 2), none, none, none, some (.putfield 53), none, none, some (.aload_n 0), some (.getfield 43), none, none, some (.arraylength), some (.ireturn)]
def xc158 : List (Option Instr) := [some (.aload_n 0), some (.iconst 0), some (.putfield 56), none, none, some (.aload_n 0), some (.getfield 105), none, none, some (.ifCond .eq 30), none, none, some (.aload_n 0), some (.iload_n 1), some (.invokevirtual 119), none, none, some (.ifCond .eq 22), none, none, some (.aload_n 0), some (.getfield 96), none, none, some (.iload_n 1), some (.invokestatic 78), none, none, some (.ifCond .eq 11), none, none, some (.aload_n 0), some (.iload_n 2), some (.invokevirtual 126), none, none, some (.ifCond .ne 9), none, none, some (.aload_n 0), some (.iconst 1), some (.invokevirtual 70), none, none, some (.ireturn), some (.bipush 8), none, some (.newarray .int), none, some (.astore 4), none, some (.iload_n 3), some (.istore 5), none, some (.iconst 0), some (.istore 6), none, some (.iconst 0), some (.istore 7), none, some (.iload 7), none, some (.aload_n 0), some (.getfield 43), none, none, some (.arraylength), some (.if_icmp .ge 69), none, none, some (.iload 5), none, some (.bipush 10), none, some (.irem), some (.istore 8), none, some (.iload 8), none, some (.iconst 1), some (.aload_n 0), some (.getfield 43), none, none, some (.arraylength), some (.invokestatic 63), none, none, some (.ifCond .eq 13), none, none, some (.iload 6), none, some (.iload 8), none, some (.invokestatic 78), none, none, some (.ifCond .eq 9), none, none, some (.aload_n 0), some (.iconst 2), some (.invokevirtual 70), none, none, some (.ireturn), some (.aload 4), none, some (.iload 7), none, some (.iload 8), none, some (.iastore), some (.iload 6), none, some (.iconst 1), some (.iload 8), none, some (.ishl), some (.ior), some (.istore 6), none, some (.iload 5), none, some (.bipush 10), none, some (.idiv), some (.istore 5), none, some (.iinc 7 1), none, none, some (.goto (-73)), none, none, some (.iload 5), none, some (.ifCond .eq 9), none, none, some (.aload_n 0), some (.iconst 2), some (.invokevirtual 70), none, none, some (.ireturn), some (.aload_n 0), some (.getfield 48), none, none, some (.iload_n 1), some (.aaload), some (.iload_n 2), some (.aload 4), none, some (.aastore), some (.aload_n 0), some (.iload_n 2), some (.invokevirtual 129), none, none, some (.ireturn)]
def xc159 : List (Option Instr) := [some (.iload_n 1), some (.iconst 0), some (.aload_n 0), some (.getfield 93), none, none, some (.iconst 1), some (.isub), some (.invokestatic 63), none, none, some (.ireturn)]
def xc160 : List (Option Instr) := [some (.iconst 0), some (.istore_n 2), some (.iconst 0), some (.istore_n 3), some (.iload_n 3), some (.aload_n 0), some (.getfield 67), none, none, some (.if_icmp .ge 30), none, none, some (.iload_n 2), some (.aload_n 0), some (.getfield 48), none, none, some (.iload_n 3), some (.aaload), some (.iload_n 1), some (.aaload), some (.iconst 0), some (.iaload), some (.ifCond .le 7), none, none, some (.iconst 1), some (.goto 4), none, none, some (.iconst 0), some (.iadd), some (.istore_n 2), some (.iinc 3 1), none, none, some (.goto (-32)), none, none, some (.iload_n 2), some (.ireturn)]
def xc161 : List (Option Instr) := [some (.aload_n 0), some (.iconst 0), some (.putfield 56), none, none, some (.aload_n 0), some (.iload_n 1), some (.iload_n 2), some (.invokevirtual 132), none, none, some (.ifCond .ne 9), none, none, some (.aload_n 0), some (.iconst 1), some (.invokevirtual 70), none, none, some (.ireturn), some (.aload_n 0), some (.getfield 48), none, none, some (.iload_n 1), some (.aaload), some (.iload_n 2), some (.bipush 8), none, some (.newarray .int), none, some (.aastore), some (.aload_n 0), some (.iload_n 2), some (.invokevirtual 129), none, none, some (.ireturn)]
def xc162 : List (Option Instr) := [some (.aload_n 0), some (.getfield 105), none, none, some (.ifCond .eq 36), none, none, some (.aload_n 0), some (.iload_n 1), some (.invokevirtual 119), none, none, some (.ifCond .eq 28), none, none, some (.aload_n 0), some (.iload_n 2), some (.invokevirtual 126), none, none, some (.ifCond .eq 20), none, none, some (.aload_n 0), some (.getfield 48), none, none, some (.iload_n 1), some (.aaload), some (.iload_n 2), some (.aaload), some (.iconst 0), some (.iaload), some (.ifCond .le 7), none, none, some (.iconst 1), some (.goto 4), none, none, some (.iconst 0), some (.ireturn)]
def xc163 : List (Option Instr) := [some (.aload_n 0), some (.iconst 0), some (.putfield 56), none, none, some (.aload_n 0), some (.iload_n 1), some (.invokevirtual 135), none, none, some (.istore 4), none, some (.iload 4), none, some (.iconst (-1)), some (.if_icmp .eq 11), none, none, some (.aload_n 0), some (.iload_n 2), some (.invokevirtual 126), none, none, some (.ifCond .ne 17), none, none, some (.aload_n 0), some (.iconst 1), some (.invokevirtual 70), none, none, some (.ifCond .le 7), none, none, some (.iconst 1), some (.goto 4), none, none, some (.iconst 0), some (.ireturn), some (.aload_n 0), some (.getfield 53), none, none, some (.iload 4), none, some (.aaload), some (.iload_n 2), some (.baload), some (.istore 5), none, some (.aload_n 0), some (.getfield 53), none, none, some (.iload 4), none, some (.aaload), some (.iload_n 2), some (.iload_n 3), some (.bastore), some (.iload 5), none, some (.ireturn)]
def xc164 : List (Option Instr) := [some (.iconst 0), some (.istore_n 2), some (.iload_n 2), some (.aload_n 0), some (.getfield 43), none, none, some (.arraylength), some (.if_icmp .ge 28), none, none, some (.aload_n 0), some (.getfield 105), none, none, some (.ifCond .eq 21), none, none, some (.aload_n 0), some (.getfield 43), none, none, some (.iload_n 2), some (.iaload), some (.iload_n 1), some (.if_icmp .ne 5), none, none, some (.iload_n 2), some (.ireturn), some (.iinc 2 1), none, none, some (.goto (-31)), none, none, some (.iconst (-1)), some (.ireturn)]
def xc165 : List (Option Instr) := [some (.aload_n 0), some (.iconst 0), some (.putfield 56), none, none, some (.aload_n 0), some (.getfield 105), none, none, some (.ifCond .ne 9), none, none, some (.aload_n 0), some (.iconst 1), some (.invokevirtual 70), none, none, some (.ireturn), some (.new 138), none, none, some (.dup), some (.aload_n 0), some (.iconst 0), some (.invokespecial 140), none, none, some (.astore_n 1), some (.bipush 10), none, some (.newarray .int), none, some (.astore_n 2), some (.iconst 0), some (.istore_n 3), some (.iload_n 3), some (.aload_n 0), some (.getfield 60), none, none, some (.if_icmp .ge 69), none, none, some (.aload_n 0), some (.getfield 88), none, none, some (.iload_n 3), some (.invokestatic 78), none, none, some (.ifCond .ne 6), none, none, some (.goto 49), none, none, some (.aload_n 0), some (.iload_n 3), some (.invokevirtual 135), none, none, some (.istore 4), none, some (.aload_n 2), some (.iload_n 3), some (.iload 4), none, some (.iconst (-1)), some (.if_icmp .ne 14), none, none, some (.aload_n 0), some (.getfield 34), none, none, some (.iload_n 3), some (.iaload), some (.iconst 1), some (.isub), some (.goto 22), none, none, some (.iconst 2), some (.aload_n 0), some (.getfield 88), none, none, some (.invokestatic 82), none, none, some (.imul), some (.iconst 2), some (.iadd), some (.aload_n 1), some (.getfield 143), none, none, some (.iload 4), none, some (.iaload), some (.isub), some (.iastore), some (.iinc 3 1), none, none, some (.goto (-71)), none, none, some (.iconst 0), some (.istore_n 3), some (.iload_n 3), some (.aload_n 0), some (.getfield 67), none, none, some (.if_icmp .ge 100), none, none, some (.iconst 0), some (.istore 4), none, some (.iload 4), none, some (.aload_n 0), some (.getfield 93), none, none, some (.if_icmp .ge 82), none, none, some (.aload_n 0), some (.getfield 48), none, none, some (.iload_n 3), some (.aaload), some (.iload 4), none, some (.aaload), some (.iconst 0), some (.iaload), some (.ifCond .ne 6), none, none, some (.goto 59), none, none, some (.iconst 0), some (.istore 5), none, some (.iload 5), none, some (.aload_n 0), some (.getfield 43), none, none, some (.arraylength), some (.if_icmp .ge 46), none, none, some (.aload_n 0), some (.getfield 19), none, none, some (.iload_n 3), some (.dup2), some (.iaload), some (.iconst 2), some (.aload_n 0), some (.getfield 48), none, none, some (.iload_n 3), some (.aaload), some (.iload 4), none, some (.aaload), some (.iload 5), none, some (.iaload), some (.imul), some (.aload_n 1), some (.getfield 146), none, none, some (.iload 5), none, some (.aaload), some (.iload 4), none, some (.iaload), some (.isub), some (.invokestatic 149), none, none, some (.iadd), some (.iastore), some (.iinc 5 1), none, none, some (.goto (-50)), none, none, some (.iinc 4 1), none, none, some (.goto (-85)), none, none, some (.iinc 3 1), none, none, some (.goto (-102)), none, none, some (.aload_n 0), some (.getfield 30), none, none, some (.aload_n 2), some (.invokeinterface 154 2), none, none, none, none, some (.pop), some (.iconst 0), some (.istore_n 3), some (.iload_n 3), some (.aload_n 0), some (.getfield 60), none, none, some (.if_icmp .ge 48), none, none, some (.aload_n 0), some (.getfield 88), none, none, some (.iload_n 3), some (.invokestatic 78), none, none, some (.ifCond .eq 31), none, none, some (.aload_n 0), some (.iload_n 3), some (.invokevirtual 160), none, none, some (.bipush 60), none, some (.if_icmp .lt 21), none, none, some (.aload_n 0), some (.getfield 13), none, none, some (.iload_n 3), some (.iconst 3), some (.aload_n 0), some (.getfield 13), none, none, some (.iload_n 3), some (.iaload), some (.iconst 1), some (.iadd), some (.invokestatic 163), none, none, some (.iastore), some (.iinc 3 1), none, none, some (.goto (-50)), none, none, some (.aload_n 0), some (.iconst 0), some (.putfield 74), none, none, some (.aload_n 0), some (.iconst 0), some (.putfield 105), none, none, some (.aload_n 0), some (.getfield 30), none, none, some (.invokeinterface 167 1), none, none, none, none, some (.iconst 1), some (.isub), some (.ireturn)]
def xc166 : List (Option Instr) := [some (.aload_n 0), some (.aload_n 1), some (.putfield 3), none, none, some (.aload_n 0), some (.invokespecial 9), none, none, some (.aload_n 0), some (.aload_n 0), some (.getfield 3), none, none, some (.getfield 15), none, none, some (.arraylength), some (.putfield 19), none, none, some (.aload_n 0), some (.aload_n 0), some (.getfield 19), none, none, some (.iconst 5), some (.multianewarray 23 2), none, none, none, some (.putfield 25), none, none, some (.aload_n 0), some (.aload_n 0), some (.getfield 19), none, none, some (.iconst 5), some (.multianewarray 23 2), none, none, none, some (.putfield 28), none, none, some (.aload_n 0), some (.aload_n 0), some (.getfield 19), none, none, some (.newarray .int), none, some (.putfield 31), none, none, some (.aload_n 0), some (.aload_n 0), some (.getfield 19), none, none, some (.newarray .int), none, some (.putfield 34), none, none, some (.aload_n 0), some (.aload_n 0), some (.getfield 19), none, none, some (.newarray .int), none, some (.putfield 37), none, none, some (.aload_n 0), some (.iload_n 2), some (.putfield 40), none, none, some (.iconst 0), some (.istore_n 3), some (.iload_n 3), some (.aload_n 1), some (.getfield 43), none, none, some (.if_icmp .ge 14), none, none, some (.aload_n 0), some (.iload_n 3), some (.invokevirtual 46), none, none, some (.iinc 3 1), none, none, some (.goto (-16)), none, none, some (.iconst 0), some (.istore_n 3), some (.iload_n 3), some (.aload_n 0), some (.getfield 19), none, none, some (.if_icmp .ge 45), none, none, some (.iconst 0), some (.istore 4), none, some (.iload 4), none, some (.aload_n 1), some (.getfield 43), none, none, some (.if_icmp .ge 27), none, none, some (.aload_n 0), some (.getfield 31), none, none, some (.iload_n 3), some (.dup2), some (.iaload), some (.aload_n 0), some (.getfield 25), none, none, some (.iload_n 3), some (.aaload), some (.iload 4), none, some (.iaload), some (.iadd), some (.iastore), some (.iinc 4 1), none, none, some (.goto (-30)), none, none, some (.iinc 3 1), none, none, some (.goto (-47)), none, none, some (.iconst 1), some (.istore_n 3), some (.iload_n 3), some (.aload_n 0), some (.getfield 19), none, none, some (.if_icmp .gt 12), none, none, some (.aload_n 0), some (.iload_n 3), some (.invokevirtual 50), none, none, some (.istore_n 3), some (.goto (-14)), none, none, some (.return_)]
def xc167_0 : List (Option Instr) := [some (.iconst 0), some (.istore_n 2), some (.iconst 0), some (.istore_n 3), some (.iload_n 3), some (.aload_n 0), some (.getfield 3), none, none, some (.getfield 54), none, none, some (.if_icmp .ge 44), none, none, some (.iload_n 2), some (.aload_n 0), some (.getfield 40), none, none, some (.iload_n 3), some (.invokestatic 57), none, none, some (.ifCond .ne 23), none, none, some (.aload_n 0), some (.getfield 3), none, none, some (.getfield 61), none, none, some (.iload_n 3), some (.aaload), some (.iload_n 1), some (.aaload), some (.iconst 0), some (.iaload), some (.ifCond .le 7), none, none, some (.iconst 1), some (.goto 4), none, none, some (.iconst 0), some (.iadd), some (.istore_n 2), some (.iinc 3 1), none, none, some (.goto (-49)), none, none, some (.iconst 0), some (.istore_n 3), some (.iconst 0), some (.istore 4), none, some (.iload 4), none, some (.aload_n 0), some (.getfield 19), none, none, some (.if_icmp .ge 32), none, none, some (.iload_n 3), some (.aload_n 0), some (.getfield 3), none, none, some (.getfield 69), none, none, some (.iload 4), none, some (.aaload), some (.iload_n 1), some (.baload), some (.ifCond .eq 7), none, none, some (.iconst 0), some (.goto 4), none, none, some (.iconst 1), some (.iadd), some (.istore_n 3), some (.iinc 4 1), none, none, some (.goto (-35)), none, none, some (.iconst 0)]
def xc167_1 : List (Option Instr) := [some (.istore 4), none, some (.iload 4), none, some (.aload_n 0), some (.getfield 19), none, none, some (.if_icmp .ge 87), none, none, some (.aload_n 0), some (.getfield 28), none, none, some (.iload 4), none, some (.aaload), some (.iload_n 1), some (.aload_n 0), some (.getfield 3), none, none, some (.getfield 69), none, none, some (.iload 4), none, some (.aaload), some (.iload_n 1), some (.baload), some (.ifCond .eq 7), none, none, some (.iconst 5), some (.goto 4), none, none, some (.iconst 4), some (.iastore), some (.aload_n 0), some (.getfield 25), none, none, some (.iload 4), none, some (.aaload), some (.iload_n 1), some (.iload_n 2), some (.ifCond .ne 12), none, none, some (.aload_n 0), some (.getfield 19), none, none, some (.iconst 1), some (.iadd), some (.goto 30), none, none, some (.aload_n 0), some (.getfield 3), none, none, some (.getfield 69), none, none, some (.iload 4), none, some (.aaload), some (.iload_n 1), some (.baload), some (.ifCond .eq 14), none, none, some (.iload_n 3), some (.iconst 1), some (.iadd), some (.aload_n 0), some (.getfield 19), none, none, some (.iadd), some (.goto 4), none, none, some (.iconst 0), some (.iastore), some (.iinc 4 1), none, none, some (.goto (-90)), none, none, some (.iconst 1), some (.istore 4), none, some (.iconst 1), some (.istore 5)]
def xc167_2 : List (Option Instr) := [none, some (.iload 5), none, some (.aload_n 0), some (.getfield 19), none, none, some (.if_icmp .gt 357), none, none, some (.iload_n 2), some (.ifCond .le 353), none, none, some (.iconst 0), some (.istore 6), none, some (.iconst 0), some (.istore 7), none, some (.iload 7), none, some (.aload_n 0), some (.getfield 19), none, none, some (.if_icmp .ge 46), none, none, some (.aload_n 0), some (.getfield 25), none, none, some (.iload 7), none, some (.aaload), some (.iload_n 1), some (.iaload), some (.ifCond .ne 28), none, none, some (.aload_n 0), some (.iload 7), none, some (.iload_n 1), some (.iload 5), none, some (.iconst 0), some (.invokevirtual 65), none, none, some (.iload_n 2), some (.iconst 2), some (.idiv), some (.if_icmp .le 12), none, none, some (.iload 6), none, some (.iconst 1), some (.iload 7), none, some (.ishl), some (.ior), some (.istore 6), none, some (.iinc 7 1), none, none, some (.goto (-49)), none, none, some (.iconst 0), some (.istore 7), none, some (.iload 7), none, some (.aload_n 0), some (.getfield 19), none, none, some (.if_icmp .ge 267), none, none, some (.iload 6), none, some (.iload 7), none, some (.invokestatic 57), none, none, some (.ifCond .ne 6), none, none, some (.goto 248), none, none, some (.iconst 0), some (.istore 8), none]
def xc167_3 : List (Option Instr) := [some (.iconst 0), some (.istore 9), none, some (.iconst 0), some (.istore 10), none, some (.iconst 0), some (.istore 11), none, some (.iconst 0), some (.istore 12), none, some (.iload 12), none, some (.aload_n 0), some (.getfield 19), none, none, some (.if_icmp .ge 155), none, none, some (.iload 6), none, some (.iload 12), none, some (.invokestatic 57), none, none, some (.ifCond .eq 139), none, none, some (.iload 12), none, some (.iload 7), none, some (.if_icmp .ne 6), none, none, some (.goto 129), none, none, some (.aload_n 0), some (.iload 12), none, some (.iload 7), none, some (.iload_n 1), some (.iload 5), none, some (.invokevirtual 73), none, none, some (.istore 13), none, some (.iload 8), none, some (.iload 13), none, some (.ifCond .le 7), none, none, some (.iconst 1), some (.goto 4), none, none, some (.iconst 0), some (.iadd), some (.istore 8), none, some (.iload 9), none, some (.iload 13), none, some (.ifCond .ne 7), none, none, some (.iconst 1), some (.goto 4), none, none, some (.iconst 0), some (.iadd), some (.istore 9), none, some (.aload_n 0), some (.iload 12), none, some (.iload_n 1), some (.iload 5), none, some (.iconst 0), some (.invokevirtual 65), none, none, some (.aload_n 0), some (.iload 7), none, some (.iload_n 1), some (.iload 5), none]
def xc167_4 : List (Option Instr) := [some (.iconst 0), some (.invokevirtual 65), none, none, some (.if_icmp .ne 7), none, none, some (.iconst 1), some (.goto 4), none, none, some (.iconst 0), some (.istore 14), none, some (.iload 10), none, some (.iload 14), none, some (.ifCond .eq 7), none, none, some (.iconst 1), some (.goto 4), none, none, some (.iconst 0), some (.iadd), some (.istore 10), none, some (.iload 11), none, some (.iload 14), none, some (.ifCond .eq 30), none, none, some (.aload_n 0), some (.iload 12), none, some (.iload_n 1), some (.iload 5), none, some (.iconst 1), some (.invokevirtual 65), none, none, some (.aload_n 0), some (.iload 7), none, some (.iload_n 1), some (.iload 5), none, some (.iconst 1), some (.invokevirtual 65), none, none, some (.if_icmp .ne 7), none, none, some (.iconst 1), some (.goto 4), none, none, some (.iconst 0), some (.iadd), some (.istore 11), none, some (.iinc 12 1), none, none, some (.goto (-158)), none, none, some (.aload_n 0), some (.getfield 25), none, none, some (.iload 7), none, some (.aaload), some (.iload_n 1), some (.iconst 2), some (.iload 4), none, some (.iload 8), none, some (.iadd), some (.imul), some (.iload 9), none, some (.iadd), some (.iastore), some (.aload_n 0), some (.getfield 28), none, none, some (.iload 7), none, some (.aaload), some (.iload_n 1)]
def xc167_5 : List (Option Instr) := [some (.iload 9), none, some (.ifCond .le 7), none, none, some (.iconst 4), some (.goto 35), none, none, some (.iload 6), none, some (.invokestatic 77), none, none, some (.iconst 1), some (.if_icmp .ne 7), none, none, some (.iconst 0), some (.goto 22), none, none, some (.iload 10), none, some (.ifCond .ne 7), none, none, some (.iconst 1), some (.goto 13), none, none, some (.iload 11), none, some (.ifCond .ne 7), none, none, some (.iconst 2), some (.goto 4), none, none, some (.iconst 3), some (.iastore), some (.iinc 7 1), none, none, some (.goto (-270)), none, none, some (.iload 4), none, some (.iload 6), none, some (.invokestatic 77), none, none, some (.iadd), some (.istore 4), none, some (.iinc 5 1), none, none, some (.goto (-360)), none, none, some (.return_)]
def xc167 : List (Option Instr) := xc167_0 ++ (xc167_1 ++ (xc167_2 ++ (xc167_3 ++ (xc167_4 ++ (xc167_5)))))
def xc168 : List (Option Instr) := [some (.iconst 0), some (.istore 5), none, some (.iconst 0), some (.istore 6), none, some (.iload 6), none, some (.aload_n 0), some (.getfield 3), none, none, some (.getfield 54), none, none, some (.if_icmp .ge 68), none, none, some (.aload_n 0), some (.getfield 40), none, none, some (.iload 6), none, some (.invokestatic 57), none, none, some (.ifCond .eq 7), none, none, some (.iconst 0), some (.goto 17), none, none, some (.aload_n 0), some (.getfield 3), none, none, some (.getfield 61), none, none, some (.iload 6), none, some (.aaload), some (.iload_n 2), some (.aaload), some (.iload_n 1), some (.iaload), some (.istore 7), none, some (.iload 7), none, some (.ifCond .le 25), none, none, some (.iload 7), none, some (.iload_n 3), some (.if_icmp .gt 19), none, none, some (.iload 5), none, some (.iload 4), none, some (.ifCond .eq 8), none, none, some (.iload 7), none, some (.goto 4), none, none, some (.iconst 1), some (.iadd), some (.istore 5), none, some (.iinc 6 1), none, none, some (.goto (-74)), none, none, some (.iload 5), none, some (.ireturn)]
def xc169 : List (Option Instr) := [some (.iload 4), none, some (.istore 5), none, some (.iload 5), none, some (.aload_n 0), some (.getfield 19), none, none, some (.if_icmp .gt 83), none, none, some (.aload_n 0), some (.iload_n 1), some (.iload_n 3), some (.iload 5), none, some (.iconst 0), some (.invokevirtual 65), none, none, some (.aload_n 0), some (.iload_n 2), some (.iload_n 3), some (.iload 5), none, some (.iconst 0), some (.invokevirtual 65), none, none, some (.isub), some (.istore 6), none, some (.iload 6), none, some (.ifCond .eq 14), none, none, some (.iload 6), none, some (.ifCond .le 7), none, none, some (.iconst 1), some (.goto 4), none, none, some (.iconst (-1)), some (.ireturn), some (.aload_n 0), some (.iload_n 2), some (.iload_n 3), some (.iload 5), none, some (.iconst 1), some (.invokevirtual 65), none, none, some (.aload_n 0), some (.iload_n 1), some (.iload_n 3), some (.iload 5), none, some (.iconst 1), some (.invokevirtual 65), none, none, some (.isub), some (.istore 7), none, some (.iload 7), none, some (.ifCond .eq 14), none, none, some (.iload 7), none, some (.ifCond .le 7), none, none, some (.iconst 1), some (.goto 4), none, none, some (.iconst (-1)), some (.ireturn), some (.iinc 5 1), none, none, some (.goto (-86)), none, none, some (.iconst 0), some (.ireturn)]
def xc170 : List (Option Instr) := [some (.iconst 0), some (.istore_n 2), some (.iconst 0), some (.istore_n 3), some (.iload_n 3), some (.aload_n 0), some (.getfield 19), none, none, some (.if_icmp .ge 39), none, none, some (.aload_n 0), some (.getfield 34), none, none, some (.iload_n 3), some (.iaload), some (.ifCond .ne 24), none, none, some (.iload_n 2), some (.ifCond .eq 13), none, none, some (.aload_n 0), some (.getfield 31), none, none, some (.iload_n 3), some (.iaload), some (.iload_n 2), some (.if_icmp .ge 10), none, none, some (.aload_n 0), some (.getfield 31), none, none, some (.iload_n 3), some (.iaload), some (.istore_n 2), some (.iinc 3 1), none, none, some (.goto (-41)), none, none, some (.iconst 0), some (.istore_n 3), some (.iconst 0), some (.istore 4), none, some (.iload 4), none, some (.aload_n 0), some (.getfield 19), none, none, some (.if_icmp .ge 37), none, none, some (.aload_n 0), some (.getfield 34), none, none, some (.iload 4), none, some (.iaload), some (.ifCond .ne 21), none, none, some (.aload_n 0), some (.getfield 31), none, none, some (.iload 4), none, some (.iaload), some (.iload_n 2), some (.if_icmp .ne 10), none, none, some (.iload_n 3), some (.iconst 1), some (.iload 4), none, some (.ishl), some (.ior), some (.istore_n 3), some (.iinc 4 1), none, none, some (.goto (-40)), none, none, some (.iload_n 1), some (.istore 4), none, some (.iload_n 3), some (.invokestatic 77), none, none, some (.iconst 1), some (.if_icmp .ne 17), none, none, some (.aload_n 0), some (.iload_n 3), some (.iload 4), none, some (.bipush 9), none, some (.invokevirtual 80), none, none, some (.iload 4), none, some (.iconst 1), some (.iadd), some (.ireturn), some (.iload_n 3), some (.ifCond .le 95), none, none, some (.iload_n 3), some (.invokestatic 77), none, none, some (.iconst 1), some (.if_icmp .ne 7), none, none, some (.iload_n 3), some (.goto 10), none, none, some (.aload_n 0), some (.iload_n 3), some (.iload 4), none, some (.invokevirtual 84), none, none, some (.istore 5), none, some (.bipush 10), none, some (.istore 6), none, some (.iload 5), none, some (.invokestatic 77), none, none, some (.iconst 1), some (.if_icmp .le 17), none, none, some (.aload_n 0), some (.iload 5), none, some (.iload 4), none, some (.invokevirtual 88), none, none, some (.istore 5), none, some (.bipush 11), none, some (.istore 6), none, some (.aload_n 0), some (.iload 5), none, some (.iload 4), none, some (.iload 5), none, some (.invokestatic 77), none, none, some (.iconst 1), some (.if_icmp .le 8), none, none, some (.bipush 12), none, some (.goto 5), none, none, some (.iload 6), none, some (.invokevirtual 80), none, none, some (.iload 4), none, some (.iload 5), none, some (.invokestatic 77), none, none, some (.iadd), some (.istore 4), none, some (.iload_n 3), some (.iload 5), none, some (.iconst (-1)), some (.ixor), some (.iand), some (.istore_n 3), some (.goto (-93)), none, none, some (.iload 4), none, some (.ireturn)]
def xc171 : List (Option Instr) := [some (.iconst 0), some (.istore 4), none, some (.iload 4), none, some (.aload_n 0), some (.getfield 19), none, none, some (.if_icmp .ge 46), none, none, some (.iload_n 1), some (.iload 4), none, some (.invokestatic 57), none, none, some (.ifCond .ne 6), none, none, some (.goto 28), none, none, some (.aload_n 0), some (.getfield 34), none, none, some (.iload 4), none, some (.iconst 2), some (.iload_n 2), some (.imul), some (.iload_n 1), some (.invokestatic 77), none, none, some (.iadd), some (.iconst 1), some (.isub), some (.iastore), some (.aload_n 0), some (.getfield 37), none, none, some (.iload 4), none, some (.iload_n 3), some (.iastore), some (.iinc 4 1), none, none, some (.goto (-49)), none, none, some (.return_)]
def xc172 : List (Option Instr) := [some (.iconst 0), some (.istore_n 3), some (.iconst 0), some (.istore 4), none, some (.iconst 0), some (.istore 5), none, some (.iconst 0), some (.istore 6), none, some (.iload 6), none, some (.aload_n 0), some (.getfield 19), none, none, some (.if_icmp .ge 147), none, none, some (.iload_n 1), some (.iload 6), none, some (.invokestatic 57), none, none, some (.ifCond .ne 6), none, none, some (.goto 129), none, none, some (.iconst 0), some (.istore 7), none, some (.iconst 0), some (.istore 8), none, some (.iconst 0), some (.istore 9), none, some (.iload 9), none, some (.aload_n 0), some (.getfield 3), none, none, some (.getfield 43), none, none, some (.if_icmp .ge 46), none, none, some (.aload_n 0), some (.getfield 25), none, none, some (.iload 6), none, some (.aaload), some (.iload 9), none, some (.iaload), some (.iconst 2), some (.iload_n 2), some (.imul), some (.if_icmp .le 6), none, none, some (.goto 21), none, none, some (.iinc 7 1), none, none, some (.iload 8), none, some (.aload_n 0), some (.getfield 25), none, none, some (.iload 6), none, some (.aaload), some (.iload 9), none, some (.iaload), some (.iadd), some (.istore 8), none, some (.iinc 9 1), none, none, some (.goto (-52)), none, none, some (.iload_n 3), some (.ifCond .eq 24), none, none, some (.iload 7), none, some (.iload 4), none, some (.if_icmp .gt 17), none, none, some (.iload 7), none, some (.iload 4), none, some (.if_icmp .ne 15), none, none, some (.iload 8), none, some (.iload 5), none, some (.if_icmp .ge 8), none, none, some (.iconst 0), some (.istore_n 3), some (.goto 20), none, none, some (.iload 7), none, some (.iload 4), none, some (.if_icmp .ne 28), none, none, some (.iload 8), none, some (.iload 5), none, some (.if_icmp .eq 6), none, none, some (.goto 18), none, none, some (.iload_n 3), some (.iconst 1), some (.iload 6), none, some (.ishl), some (.ior), some (.istore_n 3), some (.iload 7), none, some (.istore 4), none, some (.iload 8), none, some (.istore 5), none, some (.iinc 6 1), none, none, some (.goto (-150)), none, none, some (.iload_n 3), some (.ireturn)]
def xc173 : List (Option Instr) := [some (.iload_n 1), some (.istore_n 3), some (.iload_n 2), some (.istore 4), none, some (.iload 4), none, some (.aload_n 0), some (.getfield 19), none, none, some (.if_icmp .gt 184), none, none, some (.iload_n 3), some (.invokestatic 77), none, none, some (.iconst 1), some (.if_icmp .le 176), none, none, some (.iconst 0), some (.istore 5), none, some (.iconst 0), some (.istore 6), none, some (.iconst 0), some (.istore 7), none, some (.iconst 0), some (.istore 8), none, some (.iload 8), none, some (.aload_n 0), some (.getfield 19), none, none, some (.if_icmp .ge 146), none, none, some (.iload_n 3), some (.iload 8), none, some (.invokestatic 57), none, none, some (.ifCond .ne 6), none, none, some (.goto 128), none, none, some (.iconst 0), some (.istore 9), none, some (.iconst 0), some (.istore 10), none, some (.iconst 0), some (.istore 11), none, some (.iload 11), none, some (.aload_n 0), some (.getfield 3), none, none, some (.getfield 43), none, none, some (.if_icmp .ge 41), none, none, some (.iload 9), none, some (.aload_n 0), some (.iload 8), none, some (.iload 11), none, some (.iload 4), none, some (.iconst 0), some (.invokevirtual 65), none, none, some (.iadd), some (.istore 9), none, some (.iload 10), none, some (.aload_n 0), some (.iload 8), none, some (.iload 11), none, some (.iload 4), none, some (.iconst 1), some (.invokevirtual 65), none, none, some (.iadd), some (.istore 10), none, some (.iinc 11 1), none, none, some (.goto (-47)), none, none, some (.iload 5), none, some (.ifCond .eq 24), none, none, some (.iload 9), none, some (.iload 6), none, some (.if_icmp .gt 17), none, none, some (.iload 9), none, some (.iload 6), none, some (.if_icmp .ne 16), none, none, some (.iload 10), none, some (.iload 7), none, some (.if_icmp .ge 9), none, none, some (.iconst 0), some (.istore 5), none, some (.goto 20), none, none, some (.iload 9), none, some (.iload 6), none, some (.if_icmp .ne 30), none, none, some (.iload 10), none, some (.iload 7), none, some (.if_icmp .eq 6), none, none, some (.goto 20), none, none, some (.iload 5), none, some (.iconst 1), some (.iload 8), none, some (.ishl), some (.ior), some (.istore 5), none, some (.iload 9), none, some (.istore 6), none, some (.iload 10), none, some (.istore 7), none, some (.iinc 8 1), none, none, some (.goto (-149)), none, none, some (.iload 5), none, some (.istore_n 3), some (.iinc 4 1), none, none, some (.goto (-187)), none, none, some (.iload_n 3), some (.ireturn)]
def xc174 : List (Option Instr) := [some (.iconst 0), some (.istore_n 2), some (.iconst 0), some (.istore_n 3), some (.iconst 0), some (.istore 4), none, some (.iconst 0), some (.istore 5), none, some (.iload 5), none, some (.iconst 5), some (.if_icmp .ge 99), none, none, some (.iload 5), none, some (.aload_n 0), some (.getfield 30), none, none, some (.invokeinterface 167 1), none, none, none, none, some (.if_icmp .ge 85), none, none, some (.aload_n 0), some (.getfield 30), none, none, some (.aload_n 0), some (.getfield 30), none, none, some (.invokeinterface 167 1), none, none, none, none, some (.iconst 1), some (.isub), some (.iload 5), none, some (.isub), some (.invokeinterface 170 2), none, none, none, none, some (.checkcast 174), none, none, some (.iload_n 1), some (.iaload), some (.iconst 5), some (.iload 5), none, some (.isub), some (.imul), some (.istore 6), none, some (.iload 6), none, some (.iload_n 2), some (.if_icmp .le 14), none, none, some (.iload_n 3), some (.istore 4), none, some (.iload_n 2), some (.istore_n 3), some (.iload 6), none, some (.istore_n 2), some (.goto 27), none, none, some (.iload 6), none, some (.iload_n 3), some (.if_icmp .le 12), none, none, some (.iload_n 3), some (.istore 4), none, some (.iload 6), none, some (.istore_n 3), some (.goto 12), none, none, some (.iload 4), none, some (.iload 6), none, some (.invokestatic 175), none, none, some (.istore 4), none, some (.iinc 5 1), none, none, some (.goto (-99)), none, none, some (.iload_n 2), some (.iload_n 3), some (.iadd), some (.iload 4), none, some (.iadd), some (.ireturn)]
def xc175 : List (Option Instr) := [some (.aload_n 0), some (.getfield 48), none, none, some (.ireturn)]
def xc176 : List (Option Instr) := [some (.aload_n 0), some (.iconst 0), some (.putfield 56), none, none, some (.aload_n 0), some (.iload_n 1), some (.invokevirtual 178), none, none, some (.ifCond .ne 9), none, none, some (.aload_n 0), some (.iconst 1), some (.invokevirtual 70), none, none, some (.ireturn), some (.iload_n 2), some (.iconst 0), some (.bipush 7), none, some (.invokestatic 63), none, none, some (.ifCond .ne 9), none, none, some (.aload_n 0), some (.iconst 2), some (.invokevirtual 70), none, none, some (.ireturn), some (.aload_n 0), some (.iload_n 1), some (.iload_n 2), some (.invokevirtual 181), none, none, some (.ireturn)]
def xc177 : List (Option Instr) := [some (.iload_n 1), some (.iconst 0), some (.aload_n 0), some (.getfield 60), none, none, some (.iconst 1), some (.isub), some (.invokestatic 63), none, none, some (.ireturn)]
def xc178 : List (Option Instr) := [some (.bipush 8), none, some (.newarray .int), none, some (.dup), some (.iconst 0), some (.aload_n 0), some (.getfield 9), none, none, some (.iload_n 1), some (.iaload), some (.iastore), some (.dup), some (.iconst 1), some (.aload_n 0), some (.getfield 13), none, none, some (.iload_n 1), some (.iaload), some (.iastore), some (.dup), some (.iconst 2), some (.aload_n 0), some (.iload_n 1), some (.invokevirtual 160), none, none, some (.iastore), some (.dup), some (.iconst 3), some (.iconst 0), some (.iastore), some (.dup), some (.iconst 4), some (.iconst 0), some (.iastore), some (.dup), some (.iconst 5), some (.iconst 0), some (.iastore), some (.dup), some (.bipush 6), none, some (.iconst 0), some (.iastore), some (.dup), some (.bipush 7), none, some (.iconst (-1)), some (.iastore), some (.astore_n 3), some (.aload_n 0), some (.getfield 74), none, none, some (.ifCond .eq 69), none, none, some (.aload_n 3), some (.iconst 3), some (.aload_n 0), some (.getfield 88), none, none, some (.iload_n 1), some (.invokestatic 78), none, none, some (.ifCond .eq 7), none, none, some (.iconst 1), some (.goto 4), none, none, some (.iconst 0), some (.iastore), some (.aload_n 3), some (.iconst 4), some (.aload_n 0), some (.getfield 91), none, none, some (.iload_n 1), some (.invokestatic 78), none, none, some (.ifCond .eq 7), none, none, some (.iconst 1), some (.goto 4), none, none, some (.iconst 0), some (.iastore), some (.aload_n 3), some (.iconst 5), some (.aload_n 0), some (.getfield 34), none, none, some (.iload_n 1), some (.iaload), some (.iastore), some (.aload_n 3), some (.bipush 6), none, some (.aload_n 0), some (.iload_n 1), some (.invokevirtual 123), none, none, some (.iastore), some (.aload_n 3), some (.bipush 7), none, some (.aload_n 0), some (.getfield 37), none, none, some (.iload_n 1), some (.iaload), some (.iastore), some (.aload_n 3), some (.iload_n 2), some (.iaload), some (.ireturn)]
def xc179 : List (Option Instr) := [some (.aload_n 0), some (.iconst 0), some (.putfield 56), none, none, some (.aload_n 0), some (.iload_n 1), some (.invokevirtual 178), none, none, some (.ifCond .eq 11), none, none, some (.aload_n 0), some (.iload_n 2), some (.invokevirtual 178), none, none, some (.ifCond .ne 9), none, none, some (.aload_n 0), some (.iconst 1), some (.invokevirtual 70), none, none, some (.ireturn), some (.aload_n 0), some (.getfield 24), none, none, some (.iload_n 1), some (.aaload), some (.iload_n 2), some (.iaload), some (.ireturn)]
def xc180 : List (Option Instr) := [some (.aload_n 0), some (.iconst 0), some (.putfield 56), none, none, some (.aload_n 0), some (.iload_n 1), some (.invokevirtual 119), none, none, some (.ifCond .ne 9), none, none, some (.aload_n 0), some (.iconst 1), some (.invokevirtual 70), none, none, some (.ireturn), some (.iload_n 2), some (.iconst 0), some (.iconst 3), some (.invokestatic 63), none, none, some (.ifCond .ne 9), none, none, some (.aload_n 0), some (.iconst 2), some (.invokevirtual 70), none, none, some (.ireturn), some (.aload_n 0), some (.iload_n 1), some (.iload_n 2), some (.invokevirtual 184), none, none, some (.ireturn)]
def xc181 : List (Option Instr) := [some (.iconst 0), some (.istore_n 3), some (.iconst 0), some (.istore 4), none, some (.iload 4), none, some (.aload_n 0), some (.getfield 93), none, none, some (.if_icmp .ge 38), none, none, some (.aload_n 0), some (.getfield 105), none, none, some (.ifCond .eq 31), none, none, some (.iload_n 3), some (.aload_n 0), some (.getfield 48), none, none, some (.iload_n 1), some (.aaload), some (.iload 4), none, some (.aaload), some (.iconst 0), some (.iaload), some (.ifCond .le 7), none, none, some (.iconst 1), some (.goto 4), none, none, some (.iconst 0), some (.iadd), some (.istore_n 3), some (.iinc 4 1), none, none, some (.goto (-41)), none, none, some (.iload_n 2), some (.ifCond .ne 12), none, none, some (.aload_n 0), some (.getfield 16), none, none, some (.iload_n 1), some (.iaload), some (.goto 49), none, none, some (.iload_n 2), some (.iconst 1), some (.if_icmp .ne 29), none, none, some (.aload_n 0), some (.getfield 74), none, none, some (.ifCond .eq 18), none, none, some (.aload_n 0), some (.getfield 96), none, none, some (.iload_n 1), some (.invokestatic 78), none, none, some (.ifCond .eq 7), none, none, some (.iconst 1), some (.goto 22), none, none, some (.iconst 0), some (.goto 18), none, none, some (.iload_n 2), some (.iconst 2), some (.if_icmp .ne 12), none, none, some (.aload_n 0), some (.getfield 19), none, none, some (.iload_n 1), some (.iaload), some (.goto 4), none, none, some (.iload_n 3), some (.ireturn)]
def xc182 : List (Option Instr) := [some (.aload_n 0), some (.iconst 0), some (.putfield 56), none, none, some (.aload_n 0), some (.iload_n 1), some (.invokevirtual 135), none, none, some (.istore 4), none, some (.iload 4), none, some (.iconst (-1)), some (.if_icmp .eq 11), none, none, some (.aload_n 0), some (.iload_n 2), some (.invokevirtual 126), none, none, some (.ifCond .ne 9), none, none, some (.aload_n 0), some (.iconst 1), some (.invokevirtual 70), none, none, some (.ireturn), some (.iload_n 3), some (.iconst 1), some (.aload_n 0), some (.getfield 43), none, none, some (.arraylength), some (.invokestatic 63), none, none, some (.ifCond .ne 9), none, none, some (.aload_n 0), some (.iconst 2), some (.invokevirtual 70), none, none, some (.ireturn), some (.iconst 0), some (.istore 5), none, some (.iconst 0), some (.istore 6), none, some (.iload 6), none, some (.aload_n 0), some (.getfield 67), none, none, some (.if_icmp .ge 39), none, none, some (.iload 5), none, some (.aload_n 0), some (.getfield 48), none, none, some (.iload 6), none, some (.aaload), some (.iload_n 2), some (.aaload), some (.iload 4), none, some (.iaload), some (.iconst 1), some (.iload_n 3), some (.invokestatic 63), none, none, some (.ifCond .eq 7), none, none, some (.iconst 1), some (.goto 4), none, none, some (.iconst 0), some (.iadd), some (.istore 5), none, some (.iinc 6 1), none, none, some (.goto (-42)), none, none, some (.iload 5), none, some (.ireturn)]
def xc183 : List (Option Instr) := [some (.aload_n 0), some (.iconst 0), some (.putfield 56), none, none, some (.aload_n 0), some (.iload_n 1), some (.invokevirtual 135), none, none, some (.istore 4), none, some (.iload 4), none, some (.iconst (-1)), some (.if_icmp .eq 11), none, none, some (.aload_n 0), some (.iload_n 2), some (.invokevirtual 126), none, none, some (.ifCond .ne 9), none, none, some (.aload_n 0), some (.iconst 1), some (.invokevirtual 70), none, none, some (.ireturn), some (.iload_n 3), some (.iconst 0), some (.iconst 1), some (.invokestatic 63), none, none, some (.ifCond .ne 9), none, none, some (.aload_n 0), some (.iconst 2), some (.invokevirtual 70), none, none, some (.ireturn), some (.new 138), none, none, some (.dup), some (.aload_n 0), some (.iconst 0), some (.invokespecial 140), none, none, some (.astore 5), none, some (.iload_n 3), some (.ifCond .ne 16), none, none, some (.aload 5), none, some (.getfield 146), none, none, some (.iload 4), none, some (.aaload), some (.iload_n 2), some (.iaload), some (.goto 13), none, none, some (.aload 5), none, some (.getfield 187), none, none, some (.iload 4), none, some (.aaload), some (.iload_n 2), some (.iaload), some (.ireturn)]
def xc184 : List (Option Instr) := [some (.aload_n 0), some (.iconst 0), some (.putfield 56), none, none, some (.aload_n 0), some (.iload_n 1), some (.invokevirtual 135), none, none, some (.istore_n 3), some (.iload_n 3), some (.iconst (-1)), some (.if_icmp .ne 9), none, none, some (.aload_n 0), some (.iconst 1), some (.invokevirtual 70), none, none, some (.ireturn), some (.iload_n 2), some (.iconst 0), some (.iconst 2), some (.invokestatic 63), none, none, some (.ifCond .ne 9), none, none, some (.aload_n 0), some (.iconst 2), some (.invokevirtual 70), none, none, some (.ireturn), some (.new 138), none, none, some (.dup), some (.aload_n 0), some (.iconst 0), some (.invokespecial 140), none, none, some (.astore 4), none, some (.iload_n 2), some (.ifCond .ne 13), none, none, some (.aload 4), none, some (.getfield 143), none, none, some (.iload_n 3), some (.iaload), some (.goto 25), none, none, some (.iload_n 2), some (.iconst 1), some (.if_icmp .ne 13), none, none, some (.aload 4), none, some (.getfield 190), none, none, some (.iload_n 3), some (.iaload), some (.goto 10), none, none, some (.aload 4), none, some (.getfield 193), none, none, some (.iload_n 3), some (.iaload), some (.ireturn)]
def xc185 : List (Option Instr) := [some (.aload_n 0), some (.iconst 0), some (.putfield 56), none, none, some (.iload_n 1), some (.iconst 0), some (.bipush 10), none, some (.invokestatic 63), none, none, some (.ifCond .ne 9), none, none, some (.aload_n 0), some (.iconst 1), some (.invokevirtual 70), none, none, some (.ireturn), some (.aload_n 0), some (.iload_n 1), some (.invokevirtual 196), none, none, some (.ireturn)]
def xc186 : List (Option Instr) := [some (.iconst 0), some (.istore_n 2), some (.iconst 0), some (.istore_n 3), some (.iload_n 3), some (.aload_n 0), some (.getfield 93), none, none, some (.if_icmp .ge 24), none, none, some (.aload_n 0), some (.getfield 105), none, none, some (.ifCond .eq 17), none, none, some (.iload_n 2), some (.aload_n 0), some (.iload_n 3), some (.invokevirtual 129), none, none, some (.iadd), some (.istore_n 2), some (.iinc 3 1), none, none, some (.goto (-26)), none, none, some (.bipush 11), none, some (.newarray .int), none, some (.dup), some (.iconst 0), some (.aload_n 0), some (.getfield 60), none, none, some (.iastore), some (.dup), some (.iconst 1), some (.aload_n 0), some (.getfield 67), none, none, some (.iastore), some (.dup), some (.iconst 2), some (.aload_n 0), some (.getfield 30), none, none, some (.invokeinterface 167 1), none, none, none, none, some (.iastore), some (.dup), some (.iconst 3), some (.aload_n 0), some (.getfield 74), none, none, some (.ifCond .eq 7), none, none, some (.iconst 1), some (.goto 4), none, none, some (.iconst 0), some (.iastore), some (.dup), some (.iconst 4), some (.aload_n 0), some (.getfield 105), none, none, some (.ifCond .eq 7), none, none, some (.iconst 1), some (.goto 4), none, none, some (.iconst 0), some (.iastore), some (.dup), some (.iconst 5), some (.aload_n 0), some (.getfield 99), none, none, some (.iastore), some (.dup), some (.bipush 6), none, some (.aload_n 0), some (.getfield 93), none, none, some (.iastore), some (.dup), some (.bipush 7), none, some (.aload_n 0), some (.getfield 108), none, none, some (.ifCond .eq 10), none, none, some (.aload_n 0), some (.getfield 116), none, none, some (.goto 4), none, none, some (.iconst 0), some (.iastore), some (.dup), some (.bipush 8), none, some (.aload_n 0), some (.getfield 91), none, none, some (.iastore), some (.dup), some (.bipush 9), none, some (.aload_n 0), some (.getfield 96), none, none, some (.invokestatic 82), none, none, some (.iastore), some (.dup), some (.bipush 10), none, some (.iload_n 2), some (.iastore), some (.astore_n 3), some (.iload_n 1), some (.iconst 3), some (.if_icmp .le 14), none, none, some (.aload_n 0), some (.getfield 74), none, none, some (.ifCond .ne 7), none, none, some (.iconst 0), some (.goto 6), none, none, some (.aload_n 3), some (.iload_n 1), some (.iaload), some (.ireturn)]
def xc187 : List (Option Instr) := [some (.aload_n 0), some (.iconst 0), some (.putfield 56), none, none, some (.iconst 0), some (.istore_n 1), some (.iconst 0), some (.istore_n 2), some (.iload_n 2), some (.aload_n 0), some (.getfield 60), none, none, some (.if_icmp .ge 17), none, none, some (.iload_n 1), some (.aload_n 0), some (.iload_n 2), some (.invokevirtual 160), none, none, some (.iadd), some (.istore_n 1), some (.iinc 2 1), none, none, some (.goto (-19)), none, none, some (.aload_n 0), some (.getfield 60), none, none, some (.ifCond .ne 7), none, none, some (.dconst 0), some (.goto 11), none, none, some (.iload_n 1), some (.i2d), some (.aload_n 0), some (.getfield 60), none, none, some (.i2d), some (.ddiv), some (.dreturn)]
def xc188 : List (Option Instr) := [some (.aload_n 0), some (.iconst 0), some (.putfield 56), none, none, some (.aload_n 0), some (.iload_n 1), some (.iload_n 2), some (.invokevirtual 132), none, none, some (.ifCond .eq 32), none, none, some (.aload_n 0), some (.iload_n 3), some (.invokevirtual 135), none, none, some (.iconst (-1)), some (.if_icmp .eq 23), none, none, some (.aload_n 0), some (.iload 4), none, some (.invokevirtual 135), none, none, some (.iconst (-1)), some (.if_icmp .eq 13), none, none, some (.aload_n 0), some (.iload 5), none, some (.invokevirtual 135), none, none, some (.iconst (-1)), some (.if_icmp .ne 9), none, none, some (.aload_n 0), some (.iconst 1), some (.invokevirtual 70), none, none, some (.ireturn), some (.aload_n 0), some (.aload_n 0), some (.getfield 48), none, none, some (.iload_n 1), some (.aaload), some (.iload_n 2), some (.aaload), some (.aload_n 0), some (.iload_n 3), some (.invokevirtual 135), none, none, some (.aload_n 0), some (.iload 4), none, some (.invokevirtual 135), none, none, some (.aload_n 0), some (.iload 5), none, some (.invokevirtual 135), none, none, some (.invokevirtual 203), none, none, some (.ireturn)]
def xc189 : List (Option Instr) := [some (.aload_n 0), some (.aload_n 1), some (.iload_n 2), some (.iload_n 3), some (.invokevirtual 199), none, none, some (.new 138), none, none, some (.dup), some (.aload_n 0), some (.iconst 0), some (.invokespecial 140), none, none, some (.getfield 143), none, none, some (.iload 4), none, some (.iaload), some (.istore 5), none, some (.aload_n 0), some (.aload_n 1), some (.iload_n 2), some (.iload_n 3), some (.invokevirtual 199), none, none, some (.iload 5), none, some (.ireturn)]
def xc190 : List (Option Instr) := [some (.aload_n 1), some (.iload_n 2), some (.iaload), some (.istore 4), none, some (.aload_n 1), some (.iload_n 2), some (.aload_n 1), some (.iload_n 3), some (.iaload), some (.iastore), some (.aload_n 1), some (.iload_n 3), some (.iload 4), none, some (.iastore), some (.return_)]
def xc191 : List (Option Instr) := [some (.aload_n 0), some (.iconst 0), some (.putfield 56), none, none, some (.aload_n 0), some (.iload_n 1), some (.iload_n 2), some (.invokevirtual 132), none, none, some (.ifCond .eq 12), none, none, some (.aload_n 0), some (.iload_n 3), some (.invokevirtual 135), none, none, some (.iconst (-1)), some (.if_icmp .ne 9), none, none, some (.aload_n 0), some (.iconst 1), some (.invokevirtual 70), none, none, some (.ireturn), some (.iconst (-1)), some (.istore 4), none, some (.new 138), none, none, some (.dup), some (.aload_n 0), some (.iconst 0), some (.invokespecial 140), none, none, some (.getfield 143), none, none, some (.aload_n 0), some (.iload_n 3), some (.invokevirtual 135), none, none, some (.iaload), some (.istore 5), none, some (.iconst 0), some (.istore 6), none, some (.iload 6), none, some (.aload_n 0), some (.getfield 43), none, none, some (.arraylength), some (.if_icmp .ge 88), none, none, some (.iload 6), none, some (.iconst 1), some (.iadd), some (.istore 7), none, some (.iload 7), none, some (.aload_n 0), some (.getfield 43), none, none, some (.arraylength), some (.if_icmp .ge 66), none, none, some (.aload_n 0), some (.aload_n 0), some (.getfield 48), none, none, some (.iload_n 1), some (.aaload), some (.iload_n 2), some (.aaload), some (.iload 6), none, some (.iload 7), none, some (.aload_n 0), some (.iload_n 3), some (.invokevirtual 135), none, none, some (.invokevirtual 203), none, none, some (.istore 8), none, some (.iload 8), none, some (.iload 5), none, some (.if_icmp .lt 6), none, none, some (.goto 27), none, none, some (.iload 8), none, some (.istore 5), none, some (.bipush 10), none, some (.aload_n 0), some (.getfield 43), none, none, some (.iload 6), none, some (.iaload), some (.imul), some (.aload_n 0), some (.getfield 43), none, none, some (.iload 7), none, some (.iaload), some (.iadd), some (.istore 4), none, some (.iinc 7 1), none, none, some (.goto (-70)), none, none, some (.iinc 6 1), none, none, some (.goto (-92)), none, none, some (.iload 4), none, some (.ireturn)]
def xc192 : List (Option Instr) := [some (.aload_n 0), some (.iconst 0), some (.putfield 56), none, none, some (.aload_n 0), some (.iload_n 2), some (.invokevirtual 135), none, none, some (.iconst (-1)), some (.if_icmp .ne 9), none, none, some (.aload_n 0), some (.iconst 1), some (.invokevirtual 70), none, none, some (.ireturn), some (.iload_n 1), some (.iconst 0), some (.bipush 127), none, some (.invokestatic 63), none, none, some (.ifCond .ne 9), none, none, some (.aload_n 0), some (.iconst 2), some (.invokevirtual 70), none, none, some (.ireturn), some (.new 138), none, none, some (.dup), some (.aload_n 0), some (.iload_n 1), some (.invokespecial 140), none, none, some (.getfield 143), none, none, some (.aload_n 0), some (.iload_n 2), some (.invokevirtual 135), none, none, some (.iaload), some (.ireturn)]
def xc193 : List (Option Instr) := [some (.aload_n 0), some (.iconst 0), some (.putfield 56), none, none, some (.aload_n 0), some (.invokevirtual 210), none, none, some (.ireturn)]
def xc194 : List (Option Instr) := [some (.aload_n 0), some (.getfield 105), none, none, some (.ifCond .ne 5), none, none, some (.iconst (-1)), some (.ireturn), some (.new 138), none, none, some (.dup), some (.aload_n 0), some (.iconst 0), some (.invokespecial 140), none, none, some (.invokevirtual 207), none, none, some (.istore_n 1), some (.iconst (-1)), some (.istore_n 2), some (.iconst 1), some (.istore_n 3), some (.iload_n 3), some (.sipush 128), none, none, some (.if_icmp .ge 65), none, none, some (.iload_n 3), some (.aload_n 0), some (.getfield 96), none, none, some (.iconst (-1)), some (.ixor), some (.iand), some (.ifCond .ne 48), none, none, some (.iload_n 3), some (.aload_n 0), some (.getfield 96), none, none, some (.if_icmp .eq 40), none, none, some (.iload_n 2), some (.iconst (-1)), some (.if_icmp .eq 14), none, none, some (.iload_n 3), some (.invokestatic 82), none, none, some (.iload_n 2), some (.if_icmp .lt 6), none, none, some (.goto 24), none, none, some (.new 138), none, none, some (.dup), some (.aload_n 0), some (.iload_n 3), some (.invokespecial 140), none, none, some (.invokevirtual 207), none, none, some (.iload_n 1), some (.if_icmp .eq 8), none, none, some (.iload_n 3), some (.invokestatic 82), none, none, some (.istore_n 2), some (.iinc 3 1), none, none, some (.goto (-66)), none, none, some (.iload_n 2), some (.ireturn)]
def xc195 : List (Option Instr) := [some (.bipush 99), none, some (.istore_n 1), some (.iconst 0), some (.istore_n 2), some (.iconst 0), some (.istore_n 3), some (.iload_n 3), some (.aload_n 0), some (.getfield 19), none, none, some (.if_icmp .ge 20), none, none, some (.iload_n 1), some (.aload_n 0), some (.getfield 34), none, none, some (.iload_n 3), some (.iaload), some (.invokestatic 91), none, none, some (.istore_n 1), some (.iinc 3 1), none, none, some (.goto (-22)), none, none, some (.iconst 0), some (.istore_n 3), some (.iload_n 3), some (.aload_n 0), some (.getfield 19), none, none, some (.if_icmp .ge 25), none, none, some (.aload_n 0), some (.getfield 34), none, none, some (.iload_n 3), some (.iaload), some (.iload_n 1), some (.if_icmp .ne 9), none, none, some (.iload_n 2), some (.iconst 1), some (.iload_n 3), some (.ishl), some (.ior), some (.istore_n 2), some (.iinc 3 1), none, none, some (.goto (-27)), none, none, some (.iload_n 2), some (.ireturn)]
def xc196 : List (Option Instr) := [some (.aload_n 0), some (.iconst 0), some (.putfield 56), none, none, some (.ldc2_w 213), none, none, some (.lstore_n 1), some (.iconst 0), some (.istore_n 3), some (.iload_n 3), some (.bipush 10), none, some (.if_icmp .gt 22), none, none, some (.lload_n 1), some (.ldc2_w 215), none, none, some (.lmul), some (.aload_n 0), some (.iload_n 3), some (.invokevirtual 196), none, none, some (.i2l), some (.ladd), some (.lstore_n 1), some (.iinc 3 1), none, none, some (.goto (-22)), none, none, some (.new 138), none, none, some (.dup), some (.aload_n 0), some (.iconst 0), some (.invokespecial 140), none, none, some (.astore_n 3), some (.iconst 0), some (.istore 4), none, some (.iload 4), none, some (.aload_n 0), some (.getfield 60), none, none, some (.if_icmp .ge 182), none, none, some (.iconst 0), some (.istore 5), none, some (.iload 5), none, some (.bipush 7), none, some (.if_icmp .gt 25), none, none, some (.lload_n 1), some (.ldc2_w 215), none, none, some (.lmul), some (.aload_n 0), some (.iload 4), none, some (.iload 5), none, some (.invokevirtual 181), none, none, some (.i2l), some (.ladd), some (.lstore_n 1), some (.iinc 5 1), none, none, some (.goto (-26)), none, none, some (.lload_n 1), some (.ldc2_w 215), none, none, some (.lmul), some (.aload_n 0), some (.getfield 24), none, none, some (.iload 4), none, some (.aaload), some (.iconst 0), some (.iaload), some (.i2l), some (.ladd), some (.lstore_n 1), some (.aload_n 0), some (.iload 4), none, some (.invokevirtual 135), none, none, some (.istore 5), none, some (.iload 5), none, some (.iconst (-1)), some (.if_icmp .ne 6), none, none, some (.goto 110), none, none, some (.lload_n 1), some (.ldc2_w 215), none, none, some (.lmul), some (.aload_n 3), some (.getfield 143), none, none, some (.iload 5), none, some (.iaload), some (.i2l), some (.ladd), some (.ldc2_w 215), none, none, some (.lmul), some (.aload_n 3), some (.getfield 190), none, none, some (.iload 5), none, some (.iaload), some (.i2l), some (.ladd), some (.ldc2_w 215), none, none, some (.lmul), some (.aload_n 3), some (.getfield 193), none, none, some (.iload 5), none, some (.iaload), some (.i2l), some (.ladd), some (.lstore_n 1), some (.iconst 0), some (.istore 6), none, some (.iload 6), none, some (.aload_n 0), some (.getfield 93), none, none, some (.if_icmp .ge 57), none, none, some (.lload_n 1), some (.ldc2_w 215), none, none, some (.lmul), some (.aload_n 3), some (.getfield 146), none, none, some (.iload 5), none, some (.aaload), some (.iload 6), none, some (.iaload), some (.i2l), some (.ladd), some (.ldc2_w 215), none, none, some (.lmul), some (.aload_n 3), some (.getfield 187), none, none, some (.iload 5), none, some (.aaload), some (.iload 6), none, some (.iaload), some (.i2l), some (.ladd), some (.ldc2_w 215), none, none, some (.lmul), some (.aload_n 0), some (.iload 5), none, some (.iload 6), none, some (.invokevirtual 217), none, none, some (.i2l), some (.ladd), some (.lstore_n 1), some (.iinc 6 1), none, none, some (.goto (-60)), none, none, some (.iinc 4 1), none, none, some (.goto (-185)), none, none, some (.iconst 0), some (.istore 4), none, some (.iload 4), none, some (.aload_n 0), some (.getfield 67), none, none, some (.if_icmp .ge 40), none, none, some (.iconst 0), some (.istore 5), none, some (.iload 5), none, some (.iconst 3), some (.if_icmp .gt 25), none, none, some (.lload_n 1), some (.ldc2_w 215), none, none, some (.lmul), some (.aload_n 0), some (.iload 4), none, some (.iload 5), none, some (.invokevirtual 184), none, none, some (.i2l), some (.ladd), some (.lstore_n 1), some (.iinc 5 1), none, none, some (.goto (-25)), none, none, some (.iinc 4 1), none, none, some (.goto (-43)), none, none, some (.lload_n 1), some (.ldc2_w 215), none, none, some (.lmul), some (.aload_n 0), some (.invokevirtual 210), none, none, some (.i2l), some (.ladd), some (.lreturn)]
def xc197 : List (Option Instr) := [some (.iconst 0), some (.istore_n 3), some (.iconst 0), some (.istore 4), none, some (.iload 4), none, some (.aload_n 0), some (.getfield 67), none, none, some (.if_icmp .ge 32), none, none, some (.iload_n 3), some (.aload_n 0), some (.getfield 48), none, none, some (.iload 4), none, some (.aaload), some (.iload_n 2), some (.aaload), some (.iload_n 1), some (.iaload), some (.iconst 1), some (.if_icmp .ne 7), none, none, some (.iconst 1), some (.goto 4), none, none, some (.iconst 0), some (.iadd), some (.istore_n 3), some (.iinc 4 1), none, none, some (.goto (-35)), none, none, some (.iload_n 3), some (.ireturn)]
def xc198_0 : List (Option Instr) := [some (.new 8), none, none, some (.dup), some (.invokespecial 87), none, none, some (.astore_n 1), some (.new 88), none, none, some (.dup), some (.invokespecial 90), none, none, some (.astore_n 2), some (.iconst 1), some (.newarray .long), none, some (.astore_n 3), some (.iconst 0), some (.istore 4), none, some (.iload 4), none, some (.aload_n 0), some (.arraylength), some (.bipush 6), none, some (.isub), some (.if_icmp .gt 1695), none, none, some (.aload_n 0), some (.iload 4), none, some (.iaload), some (.bipush 31), none, some (.iand), some (.tableswitch 1679 0 24 #[116, 172, 228, 296, 364, 408, 488, 532, 576, 656, 724, 827, 871, 939, 1007, 1075, 1155, 1235, 1303, 1359, 1400, 1504, 1584, 1652, 1665]), none, none, none, none, none, none, none, none, none, none, none, none, none, none, none, none, none, none, none, none, none, none, none, none, none, none, none, none, none, none, none, none, none, none, none, none, none, none, none, none, none, none, none, none, none, none, none, none, none, none, none, none, none, none, none, none, none, none, none]
def xc198_1 : List (Option Instr) := [none, none, none, none, none, none, none, none, none, none, none, none, none, none, none, none, none, none, none, none, none, none, none, none, none, none, none, none, none, none, none, none, none, none, none, none, none, none, none, none, none, none, none, none, none, none, none, none, none, none, none, none, none, none, none, none, some (.aload_n 1), some (.aload_n 0), some (.iload 4), none, some (.iconst 1), some (.iadd), some (.iaload), some (.aload_n 3), some (.invokestatic 91), none, none, some (.istore 5), none, some (.aload_n 2), some (.aload_n 0), some (.iload 4), none, some (.iconst 1), some (.iadd), some (.iaload), some (.invokevirtual 96), none, none, some (.istore 6), none, some (.aload_n 2), some (.invokevirtual 97), none, none, some (.iload 5), none, some (.if_icmp .eq 5), none, none, some (.iconst 0), some (.ireturn), some (.iload 5), none, some (.ifCond .ne 15), none, none, some (.aload_n 3), some (.iconst 0), some (.laload)]
def xc198_2 : List (Option Instr) := [some (.iload 6), none, some (.i2l), some (.lcmp), some (.ifCond .eq 5), none, none, some (.iconst 0), some (.ireturn), some (.goto 1510), none, none, some (.aload_n 1), some (.aload_n 0), some (.iload 4), none, some (.iconst 1), some (.iadd), some (.iaload), some (.aload_n 3), some (.invokestatic 100), none, none, some (.istore 5), none, some (.aload_n 2), some (.aload_n 0), some (.iload 4), none, some (.iconst 1), some (.iadd), some (.iaload), some (.invokevirtual 102), none, none, some (.istore 6), none, some (.aload_n 2), some (.invokevirtual 97), none, none, some (.iload 5), none, some (.if_icmp .eq 5), none, none, some (.iconst 0), some (.ireturn), some (.iload 5), none, some (.ifCond .ne 15), none, none, some (.aload_n 3), some (.iconst 0), some (.laload), some (.iload 6), none, some (.i2l), some (.lcmp), some (.ifCond .eq 5), none, none, some (.iconst 0), some (.ireturn), some (.goto 1454), none, none, some (.aload_n 1), some (.aload_n 0), some (.iload 4), none, some (.iconst 1), some (.iadd), some (.iaload), some (.aload_n 0), some (.iload 4), none, some (.iconst 2), some (.iadd), some (.iaload), some (.aload_n 3), some (.invokestatic 103), none, none, some (.istore 5), none, some (.aload_n 2), some (.aload_n 0), some (.iload 4), none, some (.iconst 1), some (.iadd), some (.iaload), some (.aload_n 0), some (.iload 4), none, some (.iconst 2), some (.iadd), some (.iaload)]
def xc198_3 : List (Option Instr) := [some (.invokevirtual 106), none, none, some (.istore 6), none, some (.aload_n 2), some (.invokevirtual 97), none, none, some (.iload 5), none, some (.if_icmp .eq 5), none, none, some (.iconst 0), some (.ireturn), some (.iload 5), none, some (.ifCond .ne 15), none, none, some (.aload_n 3), some (.iconst 0), some (.laload), some (.iload 6), none, some (.i2l), some (.lcmp), some (.ifCond .eq 5), none, none, some (.iconst 0), some (.ireturn), some (.goto 1386), none, none, some (.aload_n 1), some (.aload_n 0), some (.iload 4), none, some (.iconst 1), some (.iadd), some (.iaload), some (.aload_n 0), some (.iload 4), none, some (.iconst 2), some (.iadd), some (.iaload), some (.aload_n 3), some (.invokestatic 107), none, none, some (.istore 5), none, some (.aload_n 2), some (.aload_n 0), some (.iload 4), none, some (.iconst 1), some (.iadd), some (.iaload), some (.aload_n 0), some (.iload 4), none, some (.iconst 2), some (.iadd), some (.iaload), some (.invokevirtual 109), none, none, some (.istore 6), none, some (.aload_n 2), some (.invokevirtual 97), none, none, some (.iload 5), none, some (.if_icmp .eq 5), none, none, some (.iconst 0), some (.ireturn), some (.iload 5), none, some (.ifCond .ne 15), none, none, some (.aload_n 3), some (.iconst 0), some (.laload), some (.iload 6), none, some (.i2l), some (.lcmp), some (.ifCond .eq 5), none, none, some (.iconst 0)]
def xc198_4 : List (Option Instr) := [some (.ireturn), some (.goto 1318), none, none, some (.aload_n 1), some (.aload_n 3), some (.invokestatic 110), none, none, some (.istore 5), none, some (.aload_n 2), some (.invokevirtual 113), none, none, some (.istore 6), none, some (.aload_n 2), some (.invokevirtual 97), none, none, some (.iload 5), none, some (.if_icmp .eq 5), none, none, some (.iconst 0), some (.ireturn), some (.iload 5), none, some (.ifCond .ne 15), none, none, some (.aload_n 3), some (.iconst 0), some (.laload), some (.iload 6), none, some (.i2l), some (.lcmp), some (.ifCond .eq 5), none, none, some (.iconst 0), some (.ireturn), some (.goto 1274), none, none, some (.aload_n 1), some (.aload_n 0), some (.iload 4), none, some (.iconst 1), some (.iadd), some (.iaload), some (.aload_n 0), some (.iload 4), none, some (.iconst 2), some (.iadd), some (.iaload), some (.aload_n 0), some (.iload 4), none, some (.iconst 3), some (.iadd), some (.iaload), some (.aload_n 3), some (.invokestatic 114), none, none, some (.istore 5), none, some (.aload_n 2), some (.aload_n 0), some (.iload 4), none, some (.iconst 1), some (.iadd), some (.iaload), some (.aload_n 0), some (.iload 4), none, some (.iconst 2), some (.iadd), some (.iaload), some (.aload_n 0), some (.iload 4), none, some (.iconst 3), some (.iadd), some (.iaload), some (.invokevirtual 117), none, none, some (.istore 6), none, some (.aload_n 2), some (.invokevirtual 97), none]
def xc198_5 : List (Option Instr) := [none, some (.iload 5), none, some (.if_icmp .eq 5), none, none, some (.iconst 0), some (.ireturn), some (.iload 5), none, some (.ifCond .ne 15), none, none, some (.aload_n 3), some (.iconst 0), some (.laload), some (.iload 6), none, some (.i2l), some (.lcmp), some (.ifCond .eq 5), none, none, some (.iconst 0), some (.ireturn), some (.goto 1194), none, none, some (.aload_n 1), some (.aload_n 3), some (.invokestatic 118), none, none, some (.istore 5), none, some (.aload_n 2), some (.invokevirtual 120), none, none, some (.istore 6), none, some (.aload_n 2), some (.invokevirtual 97), none, none, some (.iload 5), none, some (.if_icmp .eq 5), none, none, some (.iconst 0), some (.ireturn), some (.iload 5), none, some (.ifCond .ne 15), none, none, some (.aload_n 3), some (.iconst 0), some (.laload), some (.iload 6), none, some (.i2l), some (.lcmp), some (.ifCond .eq 5), none, none, some (.iconst 0), some (.ireturn), some (.goto 1150), none, none, some (.aload_n 1), some (.aload_n 3), some (.invokestatic 121), none, none, some (.istore 5), none, some (.aload_n 2), some (.invokevirtual 123), none, none, some (.istore 6), none, some (.aload_n 2), some (.invokevirtual 97), none, none, some (.iload 5), none, some (.if_icmp .eq 5), none, none, some (.iconst 0), some (.ireturn), some (.iload 5), none, some (.ifCond .ne 15), none]
def xc198_6 : List (Option Instr) := [none, some (.aload_n 3), some (.iconst 0), some (.laload), some (.iload 6), none, some (.i2l), some (.lcmp), some (.ifCond .eq 5), none, none, some (.iconst 0), some (.ireturn), some (.goto 1106), none, none, some (.aload_n 1), some (.aload_n 0), some (.iload 4), none, some (.iconst 1), some (.iadd), some (.iaload), some (.aload_n 0), some (.iload 4), none, some (.iconst 2), some (.iadd), some (.iaload), some (.aload_n 0), some (.iload 4), none, some (.iconst 3), some (.iadd), some (.iaload), some (.aload_n 3), some (.invokestatic 124), none, none, some (.istore 5), none, some (.aload_n 2), some (.aload_n 0), some (.iload 4), none, some (.iconst 1), some (.iadd), some (.iaload), some (.aload_n 0), some (.iload 4), none, some (.iconst 2), some (.iadd), some (.iaload), some (.aload_n 0), some (.iload 4), none, some (.iconst 3), some (.iadd), some (.iaload), some (.invokevirtual 126), none, none, some (.istore 6), none, some (.aload_n 2), some (.invokevirtual 97), none, none, some (.iload 5), none, some (.if_icmp .eq 5), none, none, some (.iconst 0), some (.ireturn), some (.iload 5), none, some (.ifCond .ne 15), none, none, some (.aload_n 3), some (.iconst 0), some (.laload), some (.iload 6), none, some (.i2l), some (.lcmp), some (.ifCond .eq 5), none, none, some (.iconst 0), some (.ireturn), some (.goto 1026), none, none, some (.aload_n 1), some (.aload_n 0), some (.iload 4), none]
def xc198_7 : List (Option Instr) := [some (.iconst 1), some (.iadd), some (.iaload), some (.aload_n 0), some (.iload 4), none, some (.iconst 2), some (.iadd), some (.iaload), some (.aload_n 3), some (.invokestatic 127), none, none, some (.istore 5), none, some (.aload_n 2), some (.aload_n 0), some (.iload 4), none, some (.iconst 1), some (.iadd), some (.iaload), some (.aload_n 0), some (.iload 4), none, some (.iconst 2), some (.iadd), some (.iaload), some (.invokevirtual 129), none, none, some (.istore 6), none, some (.aload_n 2), some (.invokevirtual 97), none, none, some (.iload 5), none, some (.if_icmp .eq 5), none, none, some (.iconst 0), some (.ireturn), some (.iload 5), none, some (.ifCond .ne 15), none, none, some (.aload_n 3), some (.iconst 0), some (.laload), some (.iload 6), none, some (.i2l), some (.lcmp), some (.ifCond .eq 5), none, none, some (.iconst 0), some (.ireturn), some (.goto 958), none, none, some (.aload_n 1), some (.aload_n 0), some (.iload 4), none, some (.iconst 1), some (.iadd), some (.iaload), some (.aload_n 0), some (.iload 4), none, some (.iconst 2), some (.iadd), some (.iaload), some (.aload_n 0), some (.iload 4), none, some (.iconst 3), some (.iadd), some (.iaload), some (.ifCond .eq 7), none, none, some (.iconst 1), some (.goto 4), none, none, some (.iconst 0), some (.aload_n 3), some (.invokestatic 130), none, none, some (.istore 5), none, some (.aload_n 2), some (.aload_n 0), some (.iload 4)]
def xc198_8 : List (Option Instr) := [none, some (.iconst 1), some (.iadd), some (.iaload), some (.aload_n 0), some (.iload 4), none, some (.iconst 2), some (.iadd), some (.iaload), some (.aload_n 0), some (.iload 4), none, some (.iconst 3), some (.iadd), some (.iaload), some (.ifCond .eq 7), none, none, some (.iconst 1), some (.goto 4), none, none, some (.iconst 0), some (.invokevirtual 133), none, none, some (.istore 6), none, some (.aload_n 2), some (.invokevirtual 97), none, none, some (.iload 5), none, some (.if_icmp .eq 5), none, none, some (.iconst 0), some (.ireturn), some (.iload 5), none, some (.ifCond .ne 22), none, none, some (.aload_n 3), some (.iconst 0), some (.laload), some (.iload 6), none, some (.ifCond .eq 7), none, none, some (.lconst 1), some (.goto 4), none, none, some (.lconst 0), some (.lcmp), some (.ifCond .eq 5), none, none, some (.iconst 0), some (.ireturn), some (.goto 855), none, none, some (.aload_n 1), some (.aload_n 3), some (.invokestatic 134), none, none, some (.istore 5), none, some (.aload_n 2), some (.invokevirtual 136), none, none, some (.istore 6), none, some (.aload_n 2), some (.invokevirtual 97), none, none, some (.iload 5), none, some (.if_icmp .eq 5), none, none, some (.iconst 0), some (.ireturn), some (.iload 5), none, some (.ifCond .ne 15), none, none, some (.aload_n 3), some (.iconst 0), some (.laload), some (.iload 6)]
def xc198_9 : List (Option Instr) := [none, some (.i2l), some (.lcmp), some (.ifCond .eq 5), none, none, some (.iconst 0), some (.ireturn), some (.goto 811), none, none, some (.aload_n 1), some (.aload_n 0), some (.iload 4), none, some (.iconst 1), some (.iadd), some (.iaload), some (.aload_n 0), some (.iload 4), none, some (.iconst 2), some (.iadd), some (.iaload), some (.aload_n 3), some (.invokestatic 137), none, none, some (.istore 5), none, some (.aload_n 2), some (.aload_n 0), some (.iload 4), none, some (.iconst 1), some (.iadd), some (.iaload), some (.aload_n 0), some (.iload 4), none, some (.iconst 2), some (.iadd), some (.iaload), some (.invokevirtual 139), none, none, some (.istore 6), none, some (.aload_n 2), some (.invokevirtual 97), none, none, some (.iload 5), none, some (.if_icmp .eq 5), none, none, some (.iconst 0), some (.ireturn), some (.iload 5), none, some (.ifCond .ne 15), none, none, some (.aload_n 3), some (.iconst 0), some (.laload), some (.iload 6), none, some (.i2l), some (.lcmp), some (.ifCond .eq 5), none, none, some (.iconst 0), some (.ireturn), some (.goto 743), none, none, some (.aload_n 1), some (.aload_n 0), some (.iload 4), none, some (.iconst 1), some (.iadd), some (.iaload), some (.aload_n 0), some (.iload 4), none, some (.iconst 2), some (.iadd), some (.iaload), some (.aload_n 3), some (.invokestatic 140), none, none, some (.istore 5), none, some (.aload_n 2), some (.aload_n 0)]
def xc198_10 : List (Option Instr) := [some (.iload 4), none, some (.iconst 1), some (.iadd), some (.iaload), some (.aload_n 0), some (.iload 4), none, some (.iconst 2), some (.iadd), some (.iaload), some (.invokevirtual 142), none, none, some (.istore 6), none, some (.aload_n 2), some (.invokevirtual 97), none, none, some (.iload 5), none, some (.if_icmp .eq 5), none, none, some (.iconst 0), some (.ireturn), some (.iload 5), none, some (.ifCond .ne 15), none, none, some (.aload_n 3), some (.iconst 0), some (.laload), some (.iload 6), none, some (.i2l), some (.lcmp), some (.ifCond .eq 5), none, none, some (.iconst 0), some (.ireturn), some (.goto 675), none, none, some (.aload_n 1), some (.aload_n 0), some (.iload 4), none, some (.iconst 1), some (.iadd), some (.iaload), some (.aload_n 0), some (.iload 4), none, some (.iconst 2), some (.iadd), some (.iaload), some (.aload_n 3), some (.invokestatic 143), none, none, some (.istore 5), none, some (.aload_n 2), some (.aload_n 0), some (.iload 4), none, some (.iconst 1), some (.iadd), some (.iaload), some (.aload_n 0), some (.iload 4), none, some (.iconst 2), some (.iadd), some (.iaload), some (.invokevirtual 145), none, none, some (.istore 6), none, some (.aload_n 2), some (.invokevirtual 97), none, none, some (.iload 5), none, some (.if_icmp .eq 5), none, none, some (.iconst 0), some (.ireturn), some (.iload 5), none, some (.ifCond .ne 15), none, none]
def xc198_11 : List (Option Instr) := [some (.aload_n 3), some (.iconst 0), some (.laload), some (.iload 6), none, some (.i2l), some (.lcmp), some (.ifCond .eq 5), none, none, some (.iconst 0), some (.ireturn), some (.goto 607), none, none, some (.aload_n 1), some (.aload_n 0), some (.iload 4), none, some (.iconst 1), some (.iadd), some (.iaload), some (.aload_n 0), some (.iload 4), none, some (.iconst 2), some (.iadd), some (.iaload), some (.aload_n 0), some (.iload 4), none, some (.iconst 3), some (.iadd), some (.iaload), some (.aload_n 3), some (.invokestatic 146), none, none, some (.istore 5), none, some (.aload_n 2), some (.aload_n 0), some (.iload 4), none, some (.iconst 1), some (.iadd), some (.iaload), some (.aload_n 0), some (.iload 4), none, some (.iconst 2), some (.iadd), some (.iaload), some (.aload_n 0), some (.iload 4), none, some (.iconst 3), some (.iadd), some (.iaload), some (.invokevirtual 148), none, none, some (.istore 6), none, some (.aload_n 2), some (.invokevirtual 97), none, none, some (.iload 5), none, some (.if_icmp .eq 5), none, none, some (.iconst 0), some (.ireturn), some (.iload 5), none, some (.ifCond .ne 15), none, none, some (.aload_n 3), some (.iconst 0), some (.laload), some (.iload 6), none, some (.i2l), some (.lcmp), some (.ifCond .eq 5), none, none, some (.iconst 0), some (.ireturn), some (.goto 527), none, none, some (.aload_n 1), some (.aload_n 0), some (.iload 4), none, some (.iconst 1)]
def xc198_12 : List (Option Instr) := [some (.iadd), some (.iaload), some (.aload_n 0), some (.iload 4), none, some (.iconst 2), some (.iadd), some (.iaload), some (.aload_n 0), some (.iload 4), none, some (.iconst 3), some (.iadd), some (.iaload), some (.aload_n 3), some (.invokestatic 149), none, none, some (.istore 5), none, some (.aload_n 2), some (.aload_n 0), some (.iload 4), none, some (.iconst 1), some (.iadd), some (.iaload), some (.aload_n 0), some (.iload 4), none, some (.iconst 2), some (.iadd), some (.iaload), some (.aload_n 0), some (.iload 4), none, some (.iconst 3), some (.iadd), some (.iaload), some (.invokevirtual 151), none, none, some (.istore 6), none, some (.aload_n 2), some (.invokevirtual 97), none, none, some (.iload 5), none, some (.if_icmp .eq 5), none, none, some (.iconst 0), some (.ireturn), some (.iload 5), none, some (.ifCond .ne 15), none, none, some (.aload_n 3), some (.iconst 0), some (.laload), some (.iload 6), none, some (.i2l), some (.lcmp), some (.ifCond .eq 5), none, none, some (.iconst 0), some (.ireturn), some (.goto 447), none, none, some (.aload_n 1), some (.aload_n 0), some (.iload 4), none, some (.iconst 1), some (.iadd), some (.iaload), some (.aload_n 0), some (.iload 4), none, some (.iconst 2), some (.iadd), some (.iaload), some (.aload_n 3), some (.invokestatic 152), none, none, some (.istore 5), none, some (.aload_n 2), some (.aload_n 0), some (.iload 4), none, some (.iconst 1), some (.iadd)]
def xc198_13 : List (Option Instr) := [some (.iaload), some (.aload_n 0), some (.iload 4), none, some (.iconst 2), some (.iadd), some (.iaload), some (.invokevirtual 154), none, none, some (.istore 6), none, some (.aload_n 2), some (.invokevirtual 97), none, none, some (.iload 5), none, some (.if_icmp .eq 5), none, none, some (.iconst 0), some (.ireturn), some (.iload 5), none, some (.ifCond .ne 15), none, none, some (.aload_n 3), some (.iconst 0), some (.laload), some (.iload 6), none, some (.i2l), some (.lcmp), some (.ifCond .eq 5), none, none, some (.iconst 0), some (.ireturn), some (.goto 379), none, none, some (.aload_n 1), some (.aload_n 0), some (.iload 4), none, some (.iconst 1), some (.iadd), some (.iaload), some (.aload_n 3), some (.invokestatic 155), none, none, some (.istore 5), none, some (.aload_n 2), some (.aload_n 0), some (.iload 4), none, some (.iconst 1), some (.iadd), some (.iaload), some (.invokevirtual 157), none, none, some (.istore 6), none, some (.aload_n 2), some (.invokevirtual 97), none, none, some (.iload 5), none, some (.if_icmp .eq 5), none, none, some (.iconst 0), some (.ireturn), some (.iload 5), none, some (.ifCond .ne 15), none, none, some (.aload_n 3), some (.iconst 0), some (.laload), some (.iload 6), none, some (.i2l), some (.lcmp), some (.ifCond .eq 5), none, none, some (.iconst 0), some (.ireturn), some (.goto 323), none, none, some (.aload_n 1)]
def xc198_14 : List (Option Instr) := [some (.invokevirtual 158), none, none, some (.dstore 5), none, some (.aload_n 2), some (.invokevirtual 162), none, none, some (.dstore 7), none, some (.dload 5), none, some (.dload 7), none, some (.dcmp .l), some (.ifCond .eq 21), none, none, some (.dload 5), none, some (.dload 5), none, some (.dcmp .l), some (.ifCond .eq 11), none, none, some (.dload 7), none, some (.dload 7), none, some (.dcmp .l), some (.ifCond .ne 5), none, none, some (.iconst 0), some (.ireturn), some (.goto 282), none, none, some (.aload_n 1), some (.aload_n 0), some (.iload 4), none, some (.iconst 1), some (.iadd), some (.iaload), some (.aload_n 0), some (.iload 4), none, some (.iconst 2), some (.iadd), some (.iaload), some (.aload_n 0), some (.iload 4), none, some (.iconst 3), some (.iadd), some (.iaload), some (.aload_n 0), some (.iload 4), none, some (.iconst 4), some (.iadd), some (.iaload), some (.aload_n 0), some (.iload 4), none, some (.iconst 5), some (.iadd), some (.iaload), some (.aload_n 3), some (.invokestatic 163), none, none, some (.istore 5), none, some (.aload_n 2), some (.aload_n 0), some (.iload 4), none, some (.iconst 1), some (.iadd), some (.iaload), some (.aload_n 0), some (.iload 4), none, some (.iconst 2), some (.iadd), some (.iaload), some (.aload_n 0), some (.iload 4), none, some (.iconst 3), some (.iadd), some (.iaload), some (.aload_n 0), some (.iload 4), none, some (.iconst 4)]
def xc198_15 : List (Option Instr) := [some (.iadd), some (.iaload), some (.aload_n 0), some (.iload 4), none, some (.iconst 5), some (.iadd), some (.iaload), some (.invokevirtual 166), none, none, some (.istore 6), none, some (.aload_n 2), some (.invokevirtual 97), none, none, some (.iload 5), none, some (.if_icmp .eq 5), none, none, some (.iconst 0), some (.ireturn), some (.iload 5), none, some (.ifCond .ne 15), none, none, some (.aload_n 3), some (.iconst 0), some (.laload), some (.iload 6), none, some (.i2l), some (.lcmp), some (.ifCond .eq 5), none, none, some (.iconst 0), some (.ireturn), some (.goto 178), none, none, some (.aload_n 1), some (.aload_n 0), some (.iload 4), none, some (.iconst 1), some (.iadd), some (.iaload), some (.aload_n 0), some (.iload 4), none, some (.iconst 2), some (.iadd), some (.iaload), some (.aload_n 0), some (.iload 4), none, some (.iconst 3), some (.iadd), some (.iaload), some (.aload_n 3), some (.invokestatic 167), none, none, some (.istore 5), none, some (.aload_n 2), some (.aload_n 0), some (.iload 4), none, some (.iconst 1), some (.iadd), some (.iaload), some (.aload_n 0), some (.iload 4), none, some (.iconst 2), some (.iadd), some (.iaload), some (.aload_n 0), some (.iload 4), none, some (.iconst 3), some (.iadd), some (.iaload), some (.invokevirtual 169), none, none, some (.istore 6), none, some (.aload_n 2), some (.invokevirtual 97), none, none, some (.iload 5), none, some (.if_icmp .eq 5)]
def xc198_16 : List (Option Instr) := [none, none, some (.iconst 0), some (.ireturn), some (.iload 5), none, some (.ifCond .ne 15), none, none, some (.aload_n 3), some (.iconst 0), some (.laload), some (.iload 6), none, some (.i2l), some (.lcmp), some (.ifCond .eq 5), none, none, some (.iconst 0), some (.ireturn), some (.goto 98), none, none, some (.aload_n 1), some (.aload_n 0), some (.iload 4), none, some (.iconst 1), some (.iadd), some (.iaload), some (.aload_n 0), some (.iload 4), none, some (.iconst 2), some (.iadd), some (.iaload), some (.aload_n 3), some (.invokestatic 170), none, none, some (.istore 5), none, some (.aload_n 2), some (.aload_n 0), some (.iload 4), none, some (.iconst 1), some (.iadd), some (.iaload), some (.aload_n 0), some (.iload 4), none, some (.iconst 2), some (.iadd), some (.iaload), some (.invokevirtual 172), none, none, some (.istore 6), none, some (.aload_n 2), some (.invokevirtual 97), none, none, some (.iload 5), none, some (.if_icmp .eq 5), none, none, some (.iconst 0), some (.ireturn), some (.iload 5), none, some (.ifCond .ne 15), none, none, some (.aload_n 3), some (.iconst 0), some (.laload), some (.iload 6), none, some (.i2l), some (.lcmp), some (.ifCond .eq 5), none, none, some (.iconst 0), some (.ireturn), some (.goto 30), none, none, some (.aload_n 1), some (.invokevirtual 173), none, none, some (.aload_n 2), some (.invokevirtual 176), none, none]
def xc198_17 : List (Option Instr) := [some (.if_icmp .eq 19), none, none, some (.iconst 0), some (.ireturn), some (.aload_n 1), some (.invokevirtual 177), none, none, some (.aload_n 2), some (.invokevirtual 181), none, none, some (.lcmp), some (.ifCond .eq 5), none, none, some (.iconst 0), some (.ireturn), some (.iinc 4 6), none, none, some (.goto (-1699)), none, none, some (.iconst 1), some (.ireturn)]
def xc198 : List (Option Instr) := xc198_0 ++ (xc198_1 ++ (xc198_2 ++ (xc198_3 ++ (xc198_4 ++ (xc198_5 ++ (xc198_6 ++ (xc198_7 ++ (xc198_8 ++ (xc198_9 ++ (xc198_10 ++ (xc198_11 ++ (xc198_12 ++ (xc198_13 ++ (xc198_14 ++ (xc198_15 ++ (xc198_16 ++ (xc198_17)))))))))))))))))
def xmc : Nat → List (Option Instr)
  | 0 => xc0
  | 1 => xc1
  | 2 => xc2
  | 3 => xc3
  | 4 => xc4
  | 5 => xc5
  | 6 => xc6
  | 7 => xc7
  | 8 => xc8
  | 9 => xc9
  | 10 => xc10
  | 11 => xc11
  | 12 => xc12
  | 13 => xc13
  | 14 => xc14
  | 15 => xc15
  | 16 => xc16
  | 17 => xc17
  | 18 => xc18
  | 19 => xc19
  | 20 => xc20
  | 21 => xc21
  | 22 => xc22
  | 23 => xc23
  | 24 => xc24
  | 25 => xc25
  | 26 => xc26
  | 27 => xc27
  | 28 => xc28
  | 29 => xc29
  | 30 => xc30
  | 31 => xc31
  | 32 => xc32
  | 33 => xc33
  | 34 => xc34
  | 35 => xc35
  | 36 => xc36
  | 37 => xc37
  | 38 => xc38
  | 39 => xc39
  | 40 => xc40
  | 41 => xc41
  | 42 => xc42
  | 43 => xc43
  | 44 => xc44
  | 45 => xc45
  | 46 => xc46
  | 47 => xc47
  | 48 => xc48
  | 49 => xc49
  | 50 => xc50
  | 51 => xc51
  | 52 => xc52
  | 53 => xc53
  | 54 => xc54
  | 55 => xc55
  | 56 => xc56
  | 57 => xc57
  | 58 => xc58
  | 59 => xc59
  | 60 => xc60
  | 61 => xc61
  | 62 => xc62
  | 63 => xc63
  | 64 => xc64
  | 65 => xc65
  | 66 => xc66
  | 67 => xc67
  | 68 => xc68
  | 69 => xc69
  | 70 => xc70
  | 71 => xc71
  | 72 => xc72
  | 73 => xc73
  | 74 => xc74
  | 75 => xc75
  | 76 => xc76
  | 77 => xc77
  | 78 => xc78
  | 79 => xc79
  | 80 => xc80
  | 81 => xc81
  | 82 => xc82
  | 83 => xc83
  | 84 => xc84
  | 85 => xc85
  | 86 => xc86
  | 87 => xc87
  | 88 => xc88
  | 89 => xc89
  | 90 => xc90
  | 91 => xc91
  | 92 => xc92
  | 93 => xc93
  | 94 => xc94
  | 95 => xc95
  | 96 => xc96
  | 97 => xc97
  | 98 => xc98
  | 99 => xc99
  | 100 => xc100
  | 101 => xc101
  | 102 => xc102
  | 103 => xc103
  | 104 => xc104
  | 105 => xc105
  | 106 => xc106
  | 107 => xc107
  | 108 => xc108
  | 109 => xc109
  | 110 => xc110
  | 111 => xc111
  | 112 => xc112
  | 113 => xc113
  | 114 => xc114
  | 115 => xc115
  | 116 => xc116
  | 117 => xc117
  | 118 => xc118
  | 119 => xc119
  | 120 => xc120
  | 121 => xc121
  | 122 => xc122
  | 123 => xc123
  | 124 => xc124
  | 125 => xc125
  | 126 => xc126
  | 127 => xc127
  | 128 => xc128
  | 129 => xc129
  | 130 => xc130
  | 131 => xc131
  | 132 => xc132
  | 133 => xc133
  | 134 => xc134
  | 135 => xc135
  | 136 => xc136
  | 137 => xc137
  | 138 => xc138
  | 139 => xc139
  | 140 => xc140
  | 141 => xc141
  | 142 => xc142
  | 143 => xc143
  | 144 => xc144
  | 145 => xc145
  | 146 => xc146
  | 147 => xc147
  | 148 => xc148
  | 149 => xc149
  | 150 => xc150
  | 151 => xc151
  | 152 => xc152
  | 153 => xc153
  | 154 => xc154
  | 155 => xc155
  | 156 => xc156
  | 157 => xc157
  | 158 => xc158
  | 159 => xc159
  | 160 => xc160
  | 161 => xc161
  | 162 => xc162
  | 163 => xc163
  | 164 => xc164
  | 165 => xc165
  | 166 => xc166
  | 167 => xc167
  | 168 => xc168
  | 169 => xc169
  | 170 => xc170
  | 171 => xc171
  | 172 => xc172
  | 173 => xc173
  | 174 => xc174
  | 175 => xc175
  | 176 => xc176
  | 177 => xc177
  | 178 => xc178
  | 179 => xc179
  | 180 => xc180
  | 181 => xc181
  | 182 => xc182
  | 183 => xc183
  | 184 => xc184
  | 185 => xc185
  | 186 => xc186
  | 187 => xc187
  | 188 => xc188
  | 189 => xc189
  | 190 => xc190
  | 191 => xc191
  | 192 => xc192
  | 193 => xc193
  | 194 => xc194
  | 195 => xc195
  | 196 => xc196
  | 197 => xc197
  | 198 => xc198
  | _ => []
def xfldT : Nat → List (Nat × Nat × Nat × Nat × Nat)
  | 0 => [(35, 0, 0, 0, 119), (14, 0, 1, 0, 121), (20, 0, 2, 0, 123), (28, 0, 3, 0, 125), (32, 0, 4, 0, 127)]
  | 1 => [(20, 1, 0, 0, 169), (24, 1, 1, 0, 171), (28, 1, 2, 0, 173), (31, 1, 3, 0, 175), (34, 1, 4, 0, 177), (37, 1, 5, 0, 179), (14, 1, 6, 0, 181)]
  | 2 => [(9, 2, 0, 0, 112), (15, 2, 1, 0, 113)]
  | 3 => [(23, 3, 0, 0, 148), (14, 3, 1, 0, 150), (20, 3, 2, 0, 152)]
  | 4 => [(39, 4, 0, 0, 212), (43, 4, 1, 0, 214), (50, 4, 2, 0, 216), (47, 4, 3, 0, 218), (14, 4, 4, 0, 219), (25, 4, 5, 0, 221), (29, 4, 6, 0, 223)]
  | 5 => [(7, 5, 0, 0, 101)]
  | 6 => [(54, 7, 0, 0, 250), (61, 7, 1, 0, 253), (60, 6, 0, 0, 293), (64, 6, 1, 0, 294), (14, 6, 2, 0, 295), (20, 6, 3, 0, 297), (28, 6, 4, 0, 299), (32, 6, 5, 0, 301), (35, 6, 6, 0, 303), (41, 6, 7, 0, 305), (45, 6, 8, 0, 306), (48, 6, 9, 0, 307), (51, 6, 10, 0, 308)]
  | 7 => [(29, 7, 0, 0, 249), (33, 7, 1, 0, 252), (14, 7, 2, 0, 254), (25, 7, 3, 0, 255)]
  | 8 => [(23, 8, 0, 0, 283), (14, 8, 1, 0, 284), (20, 8, 2, 0, 285)]
  | 9 => [(58, 0, 0, 0, 120), (249, 0, 1, 0, 122), (258, 0, 2, 0, 124), (275, 0, 3, 0, 126), (398, 0, 4, 0, 128), (73, 3, 0, 0, 149), (282, 3, 1, 0, 151), (283, 3, 2, 0, 153), (74, 1, 0, 0, 170), (233, 1, 1, 0, 172), (117, 1, 2, 0, 174), (140, 1, 3, 0, 176), (131, 1, 4, 0, 178), (122, 1, 5, 0, 180), (264, 1, 6, 0, 182), (114, 4, 0, 0, 213), (152, 4, 1, 0, 215), (128, 4, 2, 0, 217), (157, 4, 4, 0, 220), (270, 4, 5, 0, 222), (291, 7, 0, 0, 251), (300, 6, 2, 0, 296), (303, 6, 3, 0, 298), (314, 6, 4, 0, 300), (308, 6, 5, 0, 302), (311, 6, 6, 0, 304), (10, 9, 0, 0, 332), (19, 9, 1, 0, 333), (26, 9, 2, 0, 334), (33, 9, 3, 0, 335), (40, 9, 4, 0, 336), (47, 9, 5, 0, 337), (51, 9, 6, 0, 338), (111, 9, 7, 0, 339), (243, 9, 8, 0, 340)]
  | 10 => [(54, 11, 8, 1, 1083), (43, 11, 12, 1, 1088), (15, 11, 23, 1, 1100), (61, 11, 24, 1, 1103), (69, 11, 25, 1, 1105), (19, 10, 0, 0, 1294), (40, 10, 1, 0, 1295), (25, 10, 2, 0, 1296), (28, 10, 3, 0, 1298), (31, 10, 4, 0, 1300), (34, 10, 5, 0, 1302), (37, 10, 6, 0, 1304), (3, 10, 7, 0, 1306)]
  | 11 => [(56, 11, 0, 0, 1075), (9, 11, 1, 0, 1076), (13, 11, 2, 0, 1077), (16, 11, 3, 0, 1078), (19, 11, 4, 0, 1079), (24, 11, 5, 0, 1080), (30, 11, 6, 0, 1081), (60, 11, 7, 0, 1082), (67, 11, 8, 0, 1084), (74, 11, 9, 0, 1085), (105, 11, 10, 0, 1086), (88, 11, 11, 0, 1087), (93, 11, 12, 0, 1089), (96, 11, 13, 0, 1090), (91, 11, 14, 0, 1091), (99, 11, 15, 0, 1092), (111, 11, 16, 0, 1093), (114, 11, 17, 0, 1094), (116, 11, 18, 0, 1095), (108, 11, 19, 0, 1096), (34, 11, 20, 0, 1097), (37, 11, 21, 0, 1098), (40, 11, 22, 0, 1099), (43, 11, 23, 0, 1101), (48, 11, 24, 0, 1102), (53, 11, 25, 0, 1104), (146, 10, 2, 0, 1297), (187, 10, 3, 0, 1299), (193, 10, 4, 0, 1301), (143, 10, 5, 0, 1303), (190, 10, 6, 0, 1305)]
  | 12 => [(9, 12, 1, 0, 1059), (48, 12, 2, 0, 1060)]
  | _ => []
def xnewT : Nat → List (Nat × Nat × Nat × Nat × Nat)
  | 0 => [(9, 5, 95, 96, 55), (23, 2, 106, 107, 56)]
  | 1 => [(9, 5, 167, 96, 55)]
  | 3 => [(9, 5, 146, 96, 55)]
  | 4 => [(9, 2, 204, 107, 56), (20, 5, 206, 96, 55)]
  | 6 => [(9, 2, 271, 107, 56), (23, 5, 273, 96, 55), (38, 8, 275, 276, 62)]
  | 7 => [(9, 2, 245, 107, 56), (20, 5, 247, 96, 55)]
  | 8 => [(9, 2, 281, 107, 56)]
  | 9 => [(7, 0, 89, 90, 54), (16, 3, 140, 141, 57), (23, 1, 161, 162, 58), (30, 4, 198, 199, 59), (37, 7, 239, 240, 60), (44, 6, 265, 266, 61), (90, 13, 541, 542, 70), (147, 14, 621, 622, 73), (62, 15, 717, 718, 71)]
  | 11 => [(27, 12, 1045, 1046, 66), (138, 10, 1257, 1258, 75)]
  | 13 => [(8, 9, 81, 82, 53), (13, 13, 707, 542, 70), (15, 15, 708, 718, 71), (35, 14, 833, 622, 73), (88, 11, 1037, 1038, 63)]
  | _ => []
def xcalT : Nat → List (Nat × Nat × Nat × Nat × Nat × Nat × Nat)
  | 0 => [(3, 6, 0, 94, 87, 88, 0), (11, 0, 2, 97, 98, 55, 0), (25, 0, 3, 108, 109, 56, 0), (50, 1, 13, 368, 369, 370, 56), (39, 1, 35, 737, 466, 467, 55), (42, 3, 21, 768, 407, 53, 0), (46, 1, 16, 769, 381, 382, 55), (53, 1, 28, 829, 435, 436, 56), (57, 1, 31, 961, 448, 449, 56), (59, 1, 12, 966, 365, 366, 54), (62, 8, 0, 967, 385, 74, 386)]
  | 1 => [(3, 6, 0, 166, 87, 88, 0), (11, 0, 2, 168, 98, 55, 0), (55, 2, 17, 672, 388, 72, 0), (40, 1, 7, 782, 209, 210, 55), (47, 3, 21, 863, 407, 53, 0), (51, 1, 35, 864, 466, 467, 55), (43, 1, 80, 973, 779, 780, 58), (61, 1, 61, 1028, 669, 670, 58)]
  | 2 => [(3, 6, 0, 111, 87, 88, 0)]
  | 3 => [(3, 6, 0, 145, 87, 88, 0), (11, 0, 2, 147, 98, 55, 0), (27, 1, 35, 750, 466, 467, 55), (31, 1, 16, 774, 381, 382, 55), (35, 3, 21, 775, 407, 53, 0), (39, 2, 17, 776, 388, 72, 0)]
  | 4 => [(3, 6, 0, 203, 87, 88, 0), (11, 0, 3, 205, 109, 56, 0), (22, 0, 2, 207, 98, 55, 0), (32, 1, 7, 208, 209, 210, 55), (87, 1, 56, 643, 644, 645, 59), (85, 1, 13, 647, 369, 370, 56), (53, 2, 17, 648, 388, 72, 0), (36, 1, 84, 796, 797, 798, 59), (35, 1, 20, 800, 402, 403, 56), (59, 3, 21, 813, 407, 53, 0), (63, 1, 88, 814, 816, 18, 59), (73, 1, 16, 818, 381, 382, 55), (81, 1, 89, 819, 820, 821, 54), (67, 1, 35, 823, 466, 467, 55), (70, 1, 25, 824, 423, 424, 55), (76, 1, 90, 825, 826, 827, 54), (90, 1, 96, 854, 856, 19, 59), (93, 1, 55, 858, 640, 641, 59)]
  | 5 => [(1, 6, 0, 100, 87, 88, 0)]
  | 6 => [(3, 6, 0, 270, 87, 88, 0), (11, 0, 3, 272, 109, 56, 0), (25, 0, 2, 274, 98, 55, 0), (40, 0, 10, 277, 278, 62, 0), (95, 1, 16, 380, 381, 382, 55), (99, 8, 0, 384, 385, 74, 386), (65, 1, 19, 397, 398, 399, 62), (68, 1, 7, 405, 209, 210, 55), (71, 3, 21, 406, 407, 53, 0), (75, 1, 22, 409, 411, 0, 61), (113, 1, 23, 413, 414, 415, 60), (116, 1, 25, 422, 423, 424, 55), (88, 2, 26, 426, 427, 61, 0), (104, 1, 24, 429, 418, 419, 60), (119, 1, 27, 430, 431, 432, 62), (79, 1, 29, 438, 440, 1, 61), (122, 1, 30, 442, 443, 444, 62), (125, 1, 32, 451, 452, 453, 60), (128, 1, 33, 457, 459, 2, 61), (92, 1, 34, 461, 462, 463, 62), (132, 1, 35, 465, 466, 467, 55), (135, 1, 36, 469, 471, 3, 61), (147, 1, 37, 473, 474, 475, 62), (138, 3, 38, 477, 478, 53, 0), (141, 1, 31, 480, 448, 449, 56), (144, 1, 39, 481, 483, 4, 61), (150, 1, 40, 485, 486, 487, 62), (153, 7, 0, 489, 490, 74, 491), (82, 1, 41, 492, 494, 5, 61), (108, 1, 13, 496, 369, 370, 56), (85, 1, 42, 497, 499, 6, 61), (156, 1, 43, 501, 503, 7, 61), (173, 1, 44, 505, 507, 8, 61), (159, 2, 17, 509, 388, 72, 0), (164, 1, 45, 510, 512, 9, 61), (167, 1, 46, 514, 516, 10, 61), (170, 1, 47, 518, 520, 11, 61), (110, 9, 0, 949, 950, 74, 951)]
  | 7 => [(3, 6, 0, 244, 87, 88, 0), (11, 0, 3, 246, 109, 56, 0), (22, 0, 2, 248, 98, 55, 0), (51, 1, 24, 417, 418, 419, 60), (55, 1, 13, 421, 369, 370, 56), (59, 1, 16, 455, 381, 382, 55), (40, 3, 21, 456, 407, 53, 0), (67, 1, 51, 536, 537, 538, 60), (64, 1, 23, 540, 414, 415, 60), (36, 1, 20, 881, 402, 403, 56), (39, 1, 7, 882, 209, 210, 55), (44, 1, 31, 900, 448, 449, 56), (48, 1, 105, 919, 897, 898, 60), (62, 1, 35, 932, 466, 467, 55)]
  | 8 => [(3, 6, 0, 280, 87, 88, 0), (11, 0, 3, 282, 109, 56, 0), (27, 1, 20, 401, 402, 403, 56), (31, 1, 28, 434, 435, 436, 56), (35, 1, 13, 446, 369, 370, 56), (39, 1, 31, 447, 448, 449, 56)]
  | 9 => [(1, 6, 0, 86, 87, 88, 0), (9, 4, 1, 91, 92, 54, 0), (18, 4, 4, 142, 143, 57, 0), (25, 4, 5, 163, 164, 58, 0), (32, 0, 6, 200, 201, 59, 0), (39, 4, 8, 241, 242, 60, 0), (46, 4, 9, 267, 268, 61, 0), (261, 1, 12, 364, 365, 366, 54), (334, 1, 15, 376, 377, 378, 61), (85, 2, 17, 387, 388, 72, 0), (186, 1, 18, 393, 394, 395, 61), (341, 1, 49, 528, 529, 530, 53), (319, 1, 50, 532, 533, 534, 60), (344, 1, 52, 609, 611, 13, 53), (354, 1, 53, 613, 614, 615, 53), (246, 1, 54, 617, 619, 14, 53), (253, 1, 16, 637, 381, 382, 55), (143, 2, 21, 638, 407, 53, 0), (267, 1, 55, 639, 640, 641, 59), (357, 1, 57, 650, 651, 652, 53), (278, 1, 13, 654, 369, 370, 56), (360, 1, 58, 655, 657, 15, 53), (363, 1, 59, 659, 660, 661, 53), (212, 1, 60, 663, 665, 16, 53), (215, 1, 61, 668, 669, 670, 58), (366, 1, 62, 674, 675, 676, 53), (192, 1, 63, 678, 680, 17, 53), (369, 1, 64, 684, 685, 686, 53), (296, 1, 65, 689, 690, 691, 61), (348, 1, 66, 693, 694, 695, 53), (286, 1, 67, 698, 699, 700, 60), (351, 1, 14, 703, 373, 374, 53), (54, 2, 70, 713, 714, 53, 0), (69, 1, 71, 733, 734, 735, 54), (80, 1, 74, 746, 747, 748, 57), (81, 1, 77, 758, 759, 760, 54), (97, 1, 78, 764, 765, 766, 54), (100, 1, 79, 770, 771, 772, 57), (105, 1, 80, 778, 779, 780, 58), (125, 1, 83, 792, 793, 794, 59), (136, 1, 87, 809, 810, 811, 59), (161, 1, 31, 840, 448, 449, 56), (166, 1, 56, 841, 644, 645, 59), (172, 1, 95, 850, 851, 852, 59), (175, 1, 97, 859, 860, 861, 58), (178, 1, 98, 865, 866, 867, 59), (183, 1, 101, 877, 878, 879, 60), (195, 1, 104, 891, 892, 893, 60), (200, 1, 105, 896, 897, 898, 60), (203, 1, 51, 901, 537, 538, 60), (206, 1, 108, 909, 911, 20, 53), (380, 1, 23, 913, 414, 415, 60), (209, 1, 109, 915, 916, 917, 60), (218, 1, 32, 927, 452, 453, 60), (221, 1, 112, 928, 929, 930, 60), (227, 1, 115, 941, 943, 21, 53), (388, 1, 116, 945, 946, 947, 61), (392, 1, 25, 952, 423, 424, 55), (230, 1, 117, 953, 955, 22, 53), (395, 1, 118, 957, 958, 959, 54), (236, 1, 119, 962, 963, 964, 54), (239, 1, 84, 968, 797, 798, 59), (242, 1, 120, 969, 970, 971, 58), (325, 1, 130, 1009, 1011, 23, 53), (385, 1, 131, 1013, 1014, 1015, 60), (329, 1, 134, 1024, 1025, 1026, 58)]
  | 10 => [(9, 6, 0, 1262, 87, 88, 0), (46, 1, 167, 1264, 1266, 33, 75), (57, 3, 149, 1268, 1191, 63, 0), (65, 1, 168, 1269, 1271, 34, 75), (73, 1, 169, 1273, 1275, 35, 75), (77, 3, 147, 1277, 1184, 63, 0), (50, 1, 170, 1278, 1280, 36, 75), (80, 1, 171, 1282, 1284, 37, 75), (84, 1, 172, 1286, 1288, 38, 75), (88, 1, 173, 1290, 1292, 39, 75), (91, 8, 0, 1505, 385, 74, 386)]
  | 11 => [(1, 6, 0, 1042, 87, 88, 0), (29, 0, 138, 1047, 1048, 66, 0), (63, 2, 143, 1168, 1169, 63, 0), (70, 1, 144, 1171, 1173, 24, 63), (82, 2, 147, 1183, 1184, 63, 0), (85, 1, 148, 1186, 1188, 25, 63), (78, 2, 149, 1190, 1191, 63, 0), (102, 1, 150, 1193, 1195, 26, 63), (119, 1, 154, 1209, 1211, 27, 63), (123, 1, 156, 1217, 1219, 28, 63), (126, 1, 159, 1229, 1231, 29, 63), (129, 1, 160, 1233, 1235, 30, 63), (132, 1, 162, 1241, 1243, 31, 63), (135, 1, 164, 1249, 1251, 32, 63), (140, 0, 166, 1259, 1260, 75, 0), (149, 9, 0, 1324, 950, 74, 951), (160, 1, 174, 1390, 1392, 43, 63), (175, 7, 0, 1423, 490, 74, 491), (163, 8, 0, 1424, 385, 74, 386), (178, 1, 177, 1429, 1431, 44, 63), (181, 1, 178, 1433, 1435, 45, 63), (184, 1, 181, 1445, 1447, 46, 63), (196, 1, 186, 1465, 1467, 47, 63), (203, 1, 189, 1477, 1479, 48, 63), (199, 1, 190, 1481, 1483, 49, 63), (210, 1, 194, 1497, 1499, 50, 63), (207, 1, 195, 1501, 1502, 1503, 75), (217, 1, 197, 1512, 1514, 51, 63)]
  | 12 => [(1, 0, 139, 1050, 1051, 65, 0), (79, 7, 0, 1388, 490, 74, 491)]
  | 13 => [(87, 0, 0, 83, 84, 53, 0), (158, 1, 11, 360, 361, 362, 53), (173, 1, 14, 372, 373, 374, 53), (177, 1, 48, 522, 523, 524, 53), (91, 2, 68, 704, 705, 52, 0), (7, 1, 69, 709, 710, 711, 53), (100, 2, 72, 738, 739, 52, 0), (17, 1, 73, 741, 742, 743, 53), (103, 2, 75, 751, 752, 52, 0), (20, 1, 76, 754, 755, 756, 53), (107, 2, 81, 783, 784, 52, 0), (24, 1, 82, 786, 787, 788, 53), (110, 2, 85, 801, 802, 52, 0), (27, 1, 86, 804, 805, 806, 53), (114, 2, 91, 830, 831, 52, 0), (31, 1, 92, 834, 835, 836, 53), (118, 2, 93, 842, 843, 52, 0), (37, 1, 94, 845, 846, 847, 53), (121, 2, 99, 869, 870, 52, 0), (40, 1, 100, 872, 873, 874, 53), (124, 2, 102, 883, 884, 52, 0), (43, 1, 103, 886, 887, 888, 53), (127, 2, 106, 902, 903, 52, 0), (46, 1, 107, 905, 906, 907, 53), (130, 2, 110, 920, 921, 52, 0), (49, 1, 111, 923, 924, 925, 53), (134, 2, 113, 933, 934, 52, 0), (53, 1, 114, 936, 937, 938, 53), (137, 2, 121, 974, 975, 52, 0), (56, 1, 53, 977, 614, 615, 53), (140, 2, 122, 978, 979, 52, 0), (59, 1, 57, 981, 651, 652, 53), (143, 2, 123, 982, 983, 52, 0), (62, 1, 66, 985, 694, 695, 53), (146, 2, 124, 986, 987, 52, 0), (65, 1, 64, 989, 685, 686, 53), (149, 2, 125, 990, 991, 52, 0), (68, 1, 62, 993, 675, 676, 53), (152, 2, 126, 994, 995, 52, 0), (71, 1, 59, 997, 660, 661, 53), (155, 2, 127, 998, 999, 52, 0), (74, 1, 49, 1001, 529, 530, 53), (163, 2, 128, 1002, 1003, 52, 0), (77, 1, 129, 1005, 1006, 1007, 53), (167, 2, 132, 1017, 1018, 52, 0), (81, 1, 133, 1020, 1021, 1022, 53), (170, 2, 135, 1029, 1030, 52, 0), (84, 1, 136, 1032, 1033, 1034, 53), (90, 0, 137, 1039, 1040, 63, 0), (97, 1, 141, 1160, 1161, 1162, 63), (96, 1, 142, 1164, 1165, 1166, 63), (102, 1, 145, 1175, 1176, 1177, 63), (106, 1, 146, 1179, 1180, 1181, 63), (109, 1, 151, 1197, 1198, 1199, 63), (113, 1, 152, 1201, 1202, 1203, 63), (117, 1, 153, 1205, 1206, 1207, 63), (120, 1, 155, 1213, 1214, 1215, 63), (123, 1, 157, 1221, 1222, 1223, 63), (126, 1, 158, 1225, 1226, 1227, 63), (129, 1, 161, 1237, 1238, 1239, 63), (133, 1, 163, 1245, 1246, 1247, 63), (136, 1, 165, 1253, 1254, 1255, 63), (139, 1, 176, 1425, 1426, 1427, 63), (142, 1, 179, 1437, 1438, 1439, 63), (145, 1, 180, 1441, 1442, 1443, 63), (148, 1, 182, 1449, 1450, 1451, 63), (151, 1, 183, 1453, 1454, 1455, 63), (154, 1, 184, 1457, 1458, 1459, 63), (157, 1, 185, 1461, 1462, 1463, 63), (162, 1, 187, 1469, 1470, 1471, 63), (166, 1, 188, 1473, 1474, 1475, 63), (169, 1, 191, 1485, 1486, 1487, 63), (172, 1, 192, 1489, 1490, 1491, 63), (176, 1, 193, 1493, 1494, 1495, 63), (181, 1, 196, 1506, 1507, 1508, 63)]
  | 17 => [(1, 6, 0, 566, 87, 88, 0)]
  | 23 => [(1, 0, 140, 1053, 1054, 64, 0)]
  | 24 => [(1, 6, 0, 1056, 87, 88, 0)]
  | 25 => [(194, 7, 0, 1350, 490, 74, 491)]
  | 26 => [(304, 8, 0, 1384, 385, 74, 386)]
  | _ => []
def xconT : Nat → List (Nat × Int32 × Nat)
  | 16 => [(265, (1431655765 : Int32), 390), (266, (858993459 : Int32), 391), (267, (252645135 : Int32), 392)]
  | 25 => [(200, (2147483639 : Int32), 1351)]
  | _ => []
def xcolT : Nat → List (Nat × Int64 × Nat)
  | 9 => [(337, (9107 : Int64), 526), (339, (31 : Int64), 527)]
  | 11 => [(213, (9107 : Int64), 1510), (215, (31 : Int64), 1511)]
  | _ => []
def xhost : Nat → String
  | 0 => "SkateSheet"
  | 1 => "SkateSheet"
  | 3 => "SkateSheet"
  | 4 => "SkateSheet"
  | 6 => "SkateSheet"
  | 7 => "SkateSheet"
  | 9 => "SkateSheet"
  | 10 => "SkateSheetModel"
  | _ => ""
def xNM : Nat := 199
def xNO : Nat := 29
def xNX : Nat := 13
def xlaw : Nat := 198
def xlayT : List (Nat × Nat × Nat) := [(0, 0, 129), (0, 1, 131), (0, 2, 133), (0, 3, 135), (0, 4, 137), (1, 0, 183), (1, 1, 185), (1, 2, 187), (1, 3, 189), (1, 4, 191), (1, 5, 193), (1, 6, 195), (2, 0, 114), (2, 1, 116), (3, 0, 154), (3, 1, 156), (3, 2, 158), (4, 0, 224), (4, 1, 226), (4, 2, 228), (4, 3, 230), (4, 4, 232), (4, 5, 234), (4, 6, 236), (5, 0, 102), (6, 0, 309), (6, 1, 311), (6, 2, 313), (6, 3, 315), (6, 4, 317), (6, 5, 319), (6, 6, 321), (6, 7, 323), (6, 8, 325), (6, 9, 327), (6, 10, 329), (7, 0, 256), (7, 1, 258), (7, 2, 260), (7, 3, 262), (8, 0, 286), (8, 1, 288), (8, 2, 290), (9, 0, 341), (9, 1, 343), (9, 2, 345), (9, 3, 347), (9, 4, 349), (9, 5, 351), (9, 6, 353), (9, 7, 355), (9, 8, 357), (10, 0, 1307), (10, 1, 1309), (10, 2, 1311), (10, 3, 1313), (10, 4, 1315), (10, 5, 1317), (10, 6, 1319), (10, 7, 1321), (11, 0, 1106), (11, 1, 1108), (11, 2, 1110), (11, 3, 1112), (11, 4, 1114), (11, 5, 1116), (11, 6, 1118), (11, 7, 1120), (11, 8, 1122), (11, 9, 1124), (11, 10, 1126), (11, 11, 1128), (11, 12, 1130), (11, 13, 1132), (11, 14, 1134), (11, 15, 1136), (11, 16, 1138), (11, 17, 1140), (11, 18, 1142), (11, 19, 1144), (11, 20, 1146), (11, 21, 1148), (11, 22, 1150), (11, 23, 1152), (11, 24, 1154), (11, 25, 1156), (12, 0, 1068), (12, 1, 1064), (12, 2, 1066)]
def xcodT : List (Nat × Nat) := [(0, 85), (1, 93), (2, 99), (3, 110), (4, 144), (5, 165), (6, 202), (7, 211), (8, 243), (9, 269), (10, 279), (11, 363), (12, 367), (13, 371), (14, 375), (15, 379), (16, 383), (17, 389), (18, 396), (19, 400), (20, 404), (21, 408), (22, 412), (23, 416), (24, 420), (25, 425), (26, 428), (27, 433), (28, 437), (29, 441), (30, 445), (31, 450), (32, 454), (33, 460), (34, 464), (35, 468), (36, 472), (37, 476), (38, 479), (39, 484), (40, 488), (41, 495), (42, 500), (43, 504), (44, 508), (45, 513), (46, 517), (47, 521), (48, 525), (49, 531), (50, 535), (51, 539), (52, 612), (53, 616), (54, 620), (55, 642), (56, 646), (57, 653), (58, 658), (59, 662), (60, 666), (61, 671), (62, 677), (63, 681), (64, 687), (65, 692), (66, 696), (67, 701), (69, 712), (70, 715), (71, 736), (73, 744), (74, 749), (76, 757), (77, 761), (78, 767), (79, 773), (80, 781), (82, 789), (83, 795), (84, 799), (86, 807), (87, 812), (88, 817), (89, 822), (90, 828), (92, 837), (94, 848), (95, 853), (96, 857), (97, 862), (98, 868), (100, 875), (101, 880), (103, 889), (104, 894), (105, 899), (107, 908), (108, 912), (109, 918), (111, 926), (112, 931), (114, 939), (115, 944), (116, 948), (117, 956), (118, 960), (119, 965), (120, 972), (129, 1008), (130, 1012), (131, 1016), (133, 1023), (134, 1027), (136, 1035), (137, 1041), (138, 1049), (139, 1052), (140, 1055), (141, 1163), (142, 1167), (143, 1170), (144, 1174), (145, 1178), (146, 1182), (147, 1185), (148, 1189), (149, 1192), (150, 1196), (151, 1200), (152, 1204), (153, 1208), (154, 1212), (155, 1216), (156, 1220), (157, 1224), (158, 1228), (159, 1232), (160, 1236), (161, 1240), (162, 1244), (163, 1248), (164, 1252), (165, 1256), (166, 1261), (167, 1267), (168, 1272), (169, 1276), (170, 1281), (171, 1285), (172, 1289), (173, 1293), (174, 1393), (175, 1402), (176, 1428), (177, 1432), (178, 1436), (179, 1440), (180, 1444), (181, 1448), (182, 1452), (183, 1456), (184, 1460), (185, 1464), (186, 1468), (187, 1472), (188, 1476), (189, 1480), (190, 1484), (191, 1488), (192, 1492), (193, 1496), (194, 1500), (195, 1504), (196, 1509), (197, 1515)]
def xinsT : List (Nat × Nat × Nat) := [(0, 5, 90), (1, 7, 162), (2, 2, 107), (3, 3, 141), (4, 7, 199), (5, 1, 96), (6, 11, 266), (7, 4, 240), (8, 3, 276), (9, 9, 82), (10, 8, 1258), (11, 26, 1038), (12, 3, 1046), (13, 6, 542), (14, 6, 622), (15, 6, 718)]
def xmf : Nat → Nat
  | 0 => 4
  | 1 => 2
  | 2 => 1
  | 3 => 1
  | 4 => 2
  | 5 => 2
  | 6 => 2
  | 7 => 0
  | 8 => 2
  | 9 => 3
  | 10 => 2
  | 11 => 2
  | 12 => 1
  | 13 => 0
  | 14 => 5
  | 15 => 1
  | 16 => 0
  | 17 => 0
  | 18 => 4
  | 19 => 1
  | 20 => 0
  | 21 => 0
  | 22 => 3
  | 23 => 2
  | 24 => 1
  | 25 => 0
  | 26 => 0
  | 27 => 1
  | 28 => 0
  | 29 => 3
  | 30 => 1
  | 31 => 0
  | 32 => 1
  | 33 => 2
  | 34 => 1
  | 35 => 0
  | 36 => 2
  | 37 => 1
  | 38 => 0
  | 39 => 2
  | 40 => 1
  | 41 => 1
  | 42 => 3
  | 43 => 2
  | 44 => 1
  | 45 => 2
  | 46 => 2
  | 47 => 1
  | 48 => 10
  | 49 => 6
  | 50 => 4
  | 51 => 3
  | 52 => 9
  | 53 => 7
  | 54 => 6
  | 55 => 2
  | 56 => 1
  | 57 => 7
  | 58 => 8
  | 59 => 7
  | 60 => 6
  | 61 => 1
  | 62 => 7
  | 63 => 6
  | 64 => 7
  | 65 => 2
  | 66 => 6
  | 67 => 3
  | 68 => 8
  | 69 => 7
  | 70 => 6
  | 71 => 1
  | 72 => 8
  | 73 => 7
  | 74 => 1
  | 75 => 7
  | 76 => 6
  | 77 => 0
  | 78 => 1
  | 79 => 1
  | 80 => 1
  | 81 => 7
  | 82 => 6
  | 83 => 2
  | 84 => 1
  | 85 => 7
  | 86 => 6
  | 87 => 3
  | 88 => 2
  | 89 => 1
  | 90 => 1
  | 91 => 7
  | 92 => 6
  | 93 => 7
  | 94 => 6
  | 95 => 4
  | 96 => 3
  | 97 => 1
  | 98 => 0
  | 99 => 7
  | 100 => 6
  | 101 => 1
  | 102 => 8
  | 103 => 7
  | 104 => 1
  | 105 => 1
  | 106 => 8
  | 107 => 7
  | 108 => 6
  | 109 => 2
  | 110 => 8
  | 111 => 7
  | 112 => 1
  | 113 => 7
  | 114 => 6
  | 115 => 3
  | 116 => 2
  | 117 => 2
  | 118 => 1
  | 119 => 2
  | 120 => 2
  | 121 => 8
  | 122 => 8
  | 123 => 7
  | 124 => 8
  | 125 => 8
  | 126 => 8
  | 127 => 7
  | 128 => 8
  | 129 => 7
  | 130 => 5
  | 131 => 2
  | 132 => 8
  | 133 => 7
  | 134 => 2
  | 135 => 8
  | 136 => 7
  | 137 => 4
  | 138 => 3
  | 139 => 2
  | 140 => 1
  | 141 => 0
  | 142 => 1
  | 143 => 0
  | 144 => 0
  | 145 => 1
  | 146 => 2
  | 147 => 0
  | 148 => 1
  | 149 => 0
  | 150 => 0
  | 151 => 1
  | 152 => 1
  | 153 => 2
  | 154 => 1
  | 155 => 2
  | 156 => 1
  | 157 => 1
  | 158 => 2
  | 159 => 1
  | 160 => 0
  | 161 => 3
  | 162 => 2
  | 163 => 2
  | 164 => 0
  | 165 => 5
  | 166 => 4
  | 167 => 3
  | 168 => 1
  | 169 => 2
  | 170 => 3
  | 171 => 1
  | 172 => 1
  | 173 => 2
  | 174 => 1
  | 175 => 0
  | 176 => 3
  | 177 => 1
  | 178 => 2
  | 179 => 2
  | 180 => 2
  | 181 => 1
  | 182 => 2
  | 183 => 5
  | 184 => 5
  | 185 => 2
  | 186 => 1
  | 187 => 2
  | 188 => 6
  | 189 => 5
  | 190 => 0
  | 191 => 6
  | 192 => 5
  | 193 => 6
  | 194 => 5
  | 195 => 1
  | 196 => 6
  | 197 => 0
  | 198 => 11
  | _ => 0
def xmlo : Nat → Nat
  | 0 => 88
  | 1 => 47
  | 2 => 24
  | 3 => 24
  | 4 => 45
  | 5 => 45
  | 6 => 47
  | 7 => 0
  | 8 => 47
  | 9 => 68
  | 10 => 47
  | 11 => 49
  | 12 => 23
  | 13 => 0
  | 14 => 123
  | 15 => 24
  | 16 => 0
  | 17 => 0
  | 18 => 100
  | 19 => 22
  | 20 => 0
  | 21 => 0
  | 22 => 68
  | 23 => 46
  | 24 => 23
  | 25 => 0
  | 26 => 0
  | 27 => 24
  | 28 => 0
  | 29 => 73
  | 30 => 24
  | 31 => 0
  | 32 => 21
  | 33 => 45
  | 34 => 23
  | 35 => 0
  | 36 => 48
  | 37 => 23
  | 38 => 0
  | 39 => 45
  | 40 => 23
  | 41 => 23
  | 42 => 73
  | 43 => 46
  | 44 => 21
  | 45 => 46
  | 46 => 46
  | 47 => 22
  | 48 => 197
  | 49 => 113
  | 50 => 91
  | 51 => 68
  | 52 => 171
  | 53 => 121
  | 54 => 100
  | 55 => 47
  | 56 => 23
  | 57 => 121
  | 58 => 145
  | 59 => 121
  | 60 => 100
  | 61 => 20
  | 62 => 121
  | 63 => 100
  | 64 => 121
  | 65 => 45
  | 66 => 100
  | 67 => 68
  | 68 => 141
  | 69 => 120
  | 70 => 100
  | 71 => 22
  | 72 => 141
  | 73 => 120
  | 74 => 22
  | 75 => 123
  | 76 => 100
  | 77 => 0
  | 78 => 21
  | 79 => 21
  | 80 => 22
  | 81 => 122
  | 82 => 100
  | 83 => 42
  | 84 => 22
  | 85 => 120
  | 86 => 100
  | 87 => 75
  | 88 => 47
  | 89 => 23
  | 90 => 24
  | 91 => 123
  | 92 => 100
  | 93 => 139
  | 94 => 118
  | 95 => 95
  | 96 => 70
  | 97 => 22
  | 98 => 0
  | 99 => 144
  | 100 => 123
  | 101 => 22
  | 102 => 146
  | 103 => 123
  | 104 => 21
  | 105 => 24
  | 106 => 145
  | 107 => 123
  | 108 => 100
  | 109 => 49
  | 110 => 148
  | 111 => 123
  | 112 => 22
  | 113 => 120
  | 114 => 100
  | 115 => 71
  | 116 => 46
  | 117 => 46
  | 118 => 24
  | 119 => 49
  | 120 => 45
  | 121 => 143
  | 122 => 143
  | 123 => 122
  | 124 => 144
  | 125 => 145
  | 126 => 144
  | 127 => 134
  | 128 => 172
  | 129 => 147
  | 130 => 123
  | 131 => 46
  | 132 => 176
  | 133 => 147
  | 134 => 41
  | 135 => 145
  | 136 => 123
  | 137 => 84
  | 138 => 64
  | 139 => 44
  | 140 => 24
  | 141 => 0
  | 142 => 22
  | 143 => 0
  | 144 => 0
  | 145 => 22
  | 146 => 48
  | 147 => 0
  | 148 => 22
  | 149 => 0
  | 150 => 0
  | 151 => 22
  | 152 => 22
  | 153 => 43
  | 154 => 22
  | 155 => 45
  | 156 => 21
  | 157 => 22
  | 158 => 43
  | 159 => 22
  | 160 => 0
  | 161 => 65
  | 162 => 43
  | 163 => 43
  | 164 => 0
  | 165 => 133
  | 166 => 109
  | 167 => 75
  | 168 => 21
  | 169 => 48
  | 170 => 79
  | 171 => 22
  | 172 => 21
  | 173 => 48
  | 174 => 24
  | 175 => 0
  | 176 => 73
  | 177 => 22
  | 178 => 50
  | 179 => 43
  | 180 => 45
  | 181 => 21
  | 182 => 43
  | 183 => 133
  | 184 => 133
  | 185 => 46
  | 186 => 23
  | 187 => 50
  | 188 => 158
  | 189 => 133
  | 190 => 0
  | 191 => 158
  | 192 => 133
  | 193 => 156
  | 194 => 133
  | 195 => 24
  | 196 => 156
  | 197 => 0
  | 198 => 221
  | _ => 0
def xcod : Nat → Bool
  | 0 => true
  | 1 => true
  | 2 => true
  | 3 => true
  | 4 => true
  | 5 => true
  | 6 => true
  | 7 => true
  | 8 => true
  | 9 => true
  | 10 => true
  | 11 => true
  | 12 => true
  | 13 => true
  | 14 => true
  | 15 => true
  | 16 => true
  | 17 => true
  | 18 => true
  | 19 => true
  | 20 => true
  | 21 => true
  | 22 => true
  | 23 => true
  | 24 => true
  | 25 => true
  | 26 => true
  | 27 => true
  | 28 => true
  | 29 => true
  | 30 => true
  | 31 => true
  | 32 => true
  | 33 => true
  | 34 => true
  | 35 => true
  | 36 => true
  | 37 => true
  | 38 => true
  | 39 => true
  | 40 => true
  | 41 => true
  | 42 => true
  | 43 => true
  | 44 => true
  | 45 => true
  | 46 => true
  | 47 => true
  | 48 => true
  | 49 => true
  | 50 => true
  | 51 => true
  | 52 => true
  | 53 => true
  | 54 => true
  | 55 => true
  | 56 => true
  | 57 => true
  | 58 => true
  | 59 => true
  | 60 => true
  | 61 => true
  | 62 => true
  | 63 => true
  | 64 => true
  | 65 => true
  | 66 => true
  | 67 => true
  | 68 => false
  | 69 => true
  | 70 => true
  | 71 => true
  | 72 => false
  | 73 => true
  | 74 => true
  | 75 => false
  | 76 => true
  | 77 => true
  | 78 => true
  | 79 => true
  | 80 => true
  | 81 => false
  | 82 => true
  | 83 => true
  | 84 => true
  | 85 => false
  | 86 => true
  | 87 => true
  | 88 => true
  | 89 => true
  | 90 => true
  | 91 => false
  | 92 => true
  | 93 => false
  | 94 => true
  | 95 => true
  | 96 => true
  | 97 => true
  | 98 => true
  | 99 => false
  | 100 => true
  | 101 => true
  | 102 => false
  | 103 => true
  | 104 => true
  | 105 => true
  | 106 => false
  | 107 => true
  | 108 => true
  | 109 => true
  | 110 => false
  | 111 => true
  | 112 => true
  | 113 => false
  | 114 => true
  | 115 => true
  | 116 => true
  | 117 => true
  | 118 => true
  | 119 => true
  | 120 => true
  | 121 => false
  | 122 => false
  | 123 => false
  | 124 => false
  | 125 => false
  | 126 => false
  | 127 => false
  | 128 => false
  | 129 => true
  | 130 => true
  | 131 => true
  | 132 => false
  | 133 => true
  | 134 => true
  | 135 => false
  | 136 => true
  | 137 => true
  | 138 => true
  | 139 => true
  | 140 => true
  | 141 => true
  | 142 => true
  | 143 => true
  | 144 => true
  | 145 => true
  | 146 => true
  | 147 => true
  | 148 => true
  | 149 => true
  | 150 => true
  | 151 => true
  | 152 => true
  | 153 => true
  | 154 => true
  | 155 => true
  | 156 => true
  | 157 => true
  | 158 => true
  | 159 => true
  | 160 => true
  | 161 => true
  | 162 => true
  | 163 => true
  | 164 => true
  | 165 => true
  | 166 => true
  | 167 => true
  | 168 => true
  | 169 => true
  | 170 => true
  | 171 => true
  | 172 => true
  | 173 => true
  | 174 => true
  | 175 => true
  | 176 => true
  | 177 => true
  | 178 => true
  | 179 => true
  | 180 => true
  | 181 => true
  | 182 => true
  | 183 => true
  | 184 => true
  | 185 => true
  | 186 => true
  | 187 => true
  | 188 => true
  | 189 => true
  | 190 => true
  | 191 => true
  | 192 => true
  | 193 => true
  | 194 => true
  | 195 => true
  | 196 => true
  | 197 => true
  | 198 => false
  | _ => false
def xini : Nat → Bool
  | 0 => true
  | 1 => true
  | 2 => true
  | 3 => true
  | 4 => true
  | 5 => true
  | 6 => true
  | 7 => false
  | 8 => true
  | 9 => true
  | 10 => true
  | 11 => false
  | 12 => false
  | 13 => false
  | 14 => false
  | 15 => false
  | 16 => false
  | 17 => false
  | 18 => false
  | 19 => false
  | 20 => false
  | 21 => false
  | 22 => false
  | 23 => false
  | 24 => false
  | 25 => false
  | 26 => false
  | 27 => false
  | 28 => false
  | 29 => false
  | 30 => false
  | 31 => false
  | 32 => false
  | 33 => false
  | 34 => false
  | 35 => false
  | 36 => false
  | 37 => false
  | 38 => false
  | 39 => false
  | 40 => false
  | 41 => false
  | 42 => false
  | 43 => false
  | 44 => false
  | 45 => false
  | 46 => false
  | 47 => false
  | 48 => false
  | 49 => false
  | 50 => false
  | 51 => false
  | 52 => false
  | 53 => false
  | 54 => false
  | 55 => false
  | 56 => false
  | 57 => false
  | 58 => false
  | 59 => false
  | 60 => false
  | 61 => false
  | 62 => false
  | 63 => false
  | 64 => false
  | 65 => false
  | 66 => false
  | 67 => false
  | 68 => false
  | 69 => false
  | 70 => false
  | 71 => false
  | 72 => false
  | 73 => false
  | 74 => false
  | 75 => false
  | 76 => false
  | 77 => false
  | 78 => false
  | 79 => false
  | 80 => false
  | 81 => false
  | 82 => false
  | 83 => false
  | 84 => false
  | 85 => false
  | 86 => false
  | 87 => false
  | 88 => false
  | 89 => false
  | 90 => false
  | 91 => false
  | 92 => false
  | 93 => false
  | 94 => false
  | 95 => false
  | 96 => false
  | 97 => false
  | 98 => false
  | 99 => false
  | 100 => false
  | 101 => false
  | 102 => false
  | 103 => false
  | 104 => false
  | 105 => false
  | 106 => false
  | 107 => false
  | 108 => false
  | 109 => false
  | 110 => false
  | 111 => false
  | 112 => false
  | 113 => false
  | 114 => false
  | 115 => false
  | 116 => false
  | 117 => false
  | 118 => false
  | 119 => false
  | 120 => false
  | 121 => false
  | 122 => false
  | 123 => false
  | 124 => false
  | 125 => false
  | 126 => false
  | 127 => false
  | 128 => false
  | 129 => false
  | 130 => false
  | 131 => false
  | 132 => false
  | 133 => false
  | 134 => false
  | 135 => false
  | 136 => false
  | 137 => true
  | 138 => true
  | 139 => true
  | 140 => true
  | 141 => false
  | 142 => false
  | 143 => false
  | 144 => false
  | 145 => false
  | 146 => false
  | 147 => false
  | 148 => false
  | 149 => false
  | 150 => false
  | 151 => false
  | 152 => false
  | 153 => false
  | 154 => false
  | 155 => false
  | 156 => false
  | 157 => false
  | 158 => false
  | 159 => false
  | 160 => false
  | 161 => false
  | 162 => false
  | 163 => false
  | 164 => false
  | 165 => false
  | 166 => true
  | 167 => false
  | 168 => false
  | 169 => false
  | 170 => false
  | 171 => false
  | 172 => false
  | 173 => false
  | 174 => false
  | 175 => false
  | 176 => false
  | 177 => false
  | 178 => false
  | 179 => false
  | 180 => false
  | 181 => false
  | 182 => false
  | 183 => false
  | 184 => false
  | 185 => false
  | 186 => false
  | 187 => false
  | 188 => false
  | 189 => false
  | 190 => false
  | 191 => false
  | 192 => false
  | 193 => false
  | 194 => false
  | 195 => false
  | 196 => false
  | 197 => false
  | 198 => false
  | _ => false
def xthrT : Nat → List (Nat × Nat × Nat × Nat × Nat × Nat × Nat × Nat)
  | 49 => [(161, 13, 90, 323, 94, 1, 541, 70)]
  | 53 => [(158, 13, 90, 273, 94, 1, 541, 70)]
  | 54 => [(15, 14, 147, 374, 151, 1, 621, 73)]
  | 59 => [(76, 13, 90, 317, 94, 1, 541, 70)]
  | 60 => [(21, 14, 147, 376, 151, 1, 621, 73)]
  | 62 => [(76, 13, 90, 306, 94, 1, 541, 70)]
  | 63 => [(15, 14, 147, 378, 151, 1, 621, 73)]
  | 64 => [(26, 13, 90, 294, 94, 1, 541, 70)]
  | 66 => [(15, 14, 147, 280, 151, 1, 621, 73), (109, 13, 90, 289, 94, 1, 541, 70)]
  | 69 => [(16, 15, 62, 64, 66, 0, 717, 71)]
  | 70 => [(10, 13, 90, 372, 94, 1, 541, 70)]
  | 73 => [(26, 15, 62, 78, 66, 0, 717, 71)]
  | 76 => [(19, 13, 90, 92, 94, 0, 541, 70), (39, 13, 90, 95, 94, 0, 541, 70), (83, 15, 62, 103, 66, 0, 717, 71)]
  | 82 => [(16, 13, 90, 109, 94, 0, 541, 70), (67, 15, 62, 120, 66, 0, 717, 71)]
  | 86 => [(27, 15, 62, 134, 66, 0, 717, 71)]
  | 92 => [(39, 14, 147, 149, 151, 0, 621, 73), (77, 13, 90, 155, 94, 0, 541, 70)]
  | 94 => [(27, 15, 62, 170, 66, 0, 717, 71)]
  | 100 => [(44, 15, 62, 181, 66, 0, 717, 71)]
  | 103 => [(21, 14, 147, 190, 151, 0, 621, 73), (47, 13, 90, 198, 94, 0, 541, 70)]
  | 108 => [(19, 14, 147, 383, 151, 1, 621, 73)]
  | 114 => [(7, 15, 62, 225, 66, 0, 717, 71)]
  | 136 => [(16, 13, 90, 332, 94, 1, 541, 70)]
  | _ => []
def xmulT : Nat → List (Nat × Nat × Nat)
  | 10 => [(23, 3, 1263)]
  | 11 => [(22, 3, 1043), (46, 4, 1071), (51, 5, 1073)]
  | _ => []
def xstrT : List (Nat × Nat × String) := [(9, 64, "there are 10 couples"), (9, 78, "there are 7 judges, or an event is open"), (9, 92, "these are not three couples or more"), (9, 95, "dances are 1 to 5"), (9, 103, "an event is open, or too few judges are free"), (9, 109, "a quota is 2 at least, a size 2 to 6"), (9, 120, "no round can begin, or not with this quota"), (9, 134, "no dance is left in a round"), (9, 149, "no such judge or dance in a round"), (9, 155, "crosses go to as many as the quota, all of them in"), (9, 170, "no round was danced to its end"), (9, 181, "no final can begin"), (9, 190, "no such judge in a final"), (9, 198, "marks are 1 to n, each once"), (9, 225, "no final has begun"), (9, 273, "what is 0 to 7"), (9, 280, "no such judge"), (9, 289, "what is 0 to 3"), (9, 294, "no such place"), (9, 306, "what is 0 or 1"), (9, 317, "what is 0 to 2"), (9, 323, "what is 0 to 10"), (9, 332, "judges are a set of 0 to 127"), (9, 372, "a club is 0 to 5"), (9, 374, "no such couple"), (9, 376, "no such couple in a final"), (9, 378, "no such dance"), (9, 383, "no such sheet in a final")]
end XT
end
section
/-! a machine on lists: what the bytecode does, on labels instead of addresses -/
section XM
/-- a cell: its kind (a class' number, or 100 and an array type's), what it holds -/
abbrev xE : Type := Nat × List Value
abbrev xH : Type := List xE
abbrev xL : Type := List (Nat × Value)
abbrev xC : Type := Nat × xL × List Value × xH × Nat
/-- where a label's cell lies: the first four are old things, the others new ones, one behind the other -/
def xad (old : Nat → Nat) (n0 k : Nat) : Nat := if k < 4 then old k else n0 + (k - 4)
def xv (ad : Nat → Nat) (v : Value) : Value := match v with
  | .ref k => .ref (ad k)
  | w => w
theorem xv_cat (ad : Nat → Nat) (v : Value) : (xv ad v).category = v.category := by cases v <;> rfl
def xm (ad : Nat → Nat) (lv : xL) : xL := lv.map (fun q => (q.1, xv ad q.2))
def xlk (i : Nat) : xL → Option Value
  | [] => none
  | (j, v) :: r => bif Nat.beq j i then some v else xlk i r
theorem xlk_mem {i : Nat} {v : Value} : ∀ {lv : xL}, xlk i lv = some v → (i, v) ∈ lv
  | [], h => by cases h
  | (j, w) :: r, h => by
    unfold xlk at h
    cases hb : Nat.beq j i with
    | true =>
      rw [hb] at h
      have e : j = i := Nat.eq_of_beq_eq_true hb
      subst e
      cases h
      exact List.mem_cons_self
    | false =>
      rw [hb] at h
      exact List.mem_cons_of_mem _ (xlk_mem h)
theorem xlk_has {ls : Array Slot} {nL i : Nat} {v : Value} {lv : xL} {ad : Nat → Nat} (h : xlk i lv = some v) (hl : lv_has ls nL (xm ad lv)) : ls[i]? = some (.val (xv ad v)) :=
  hl.2.2 (i, xv ad v) (List.mem_map.mpr ⟨(i, v), xlk_mem h, rfl⟩)
theorem xlk_at {i : Nat} {v : Value} {lv : xL} {ad : Nat → Nat} (h : xlk i lv = some v) : ∃ k : Nat, (xm ad lv)[k]? = some (i, xv ad v) :=
  List.getElem?_of_mem (List.mem_map.mpr ⟨(i, v), xlk_mem h, rfl⟩)
def xs1 (i : Nat) (v : Value) (lv : xL) : xL := (i, v) :: lv.filter (fun q => !(q.1 == i) && !(q.1 + 1 == i && q.2.category == 2))
def xs2 (i : Nat) (v : Value) (lv : xL) : xL := (i, v) :: lv.filter (fun q => !(q.1 == i) && (!(q.1 == i + 1) && !(q.1 + 1 == i && q.2.category == 2)))
theorem xs1_m (i : Nat) (v : Value) (lv : xL) (ad : Nat → Nat) : (i, xv ad v) :: (xm ad lv).filter (fun q => !(q.1 == i) && !(q.1 + 1 == i && q.2.category == 2)) = xm ad (xs1 i v lv) := by
  simp only [xm, xs1, List.map_cons, List.filter_map, Function.comp_def, xv_cat]
theorem xs2_m (i : Nat) (v : Value) (lv : xL) (ad : Nat → Nat) : (i, xv ad v) :: (xm ad lv).filter (fun q => !(q.1 == i) && (!(q.1 == i + 1) && !(q.1 + 1 == i && q.2.category == 2))) = xm ad (xs2 i v lv) := by
  simp only [xm, xs2, List.map_cons, List.filter_map, Function.comp_def, xv_cat]
def xfnd {β : Type} : List (Nat × β) → Nat → Option β
  | [], _ => none
  | (j, b) :: r, i => bif Nat.beq j i then some b else xfnd r i
theorem xfnd_mem {β : Type} {i : Nat} {b : β} : ∀ {l : List (Nat × β)}, xfnd l i = some b → (i, b) ∈ l
  | [], h => by cases h
  | (j, w) :: r, h => by
    unfold xfnd at h
    cases hb : Nat.beq j i with
    | true =>
      rw [hb] at h
      have e : j = i := Nat.eq_of_beq_eq_true hb
      subst e
      cases h
      exact List.mem_cons_self
    | false =>
      rw [hb] at h
      exact List.mem_cons_of_mem _ (xfnd_mem h)
def xj (pc : Nat) (off : Int) : Option Nat := match (pc : Int) + off with
  | .ofNat t => some t
  | _ => none
theorem xj_eq {pc t : Nat} {off : Int} (h : xj pc off = some t) : (pc : Int) + off = (t : Int) := by
  unfold xj at h
  split at h
  · cases h; assumption
  · cases h
def xcmp : ClassFile.Cond → Int32 → Int32 → Bool
  | .eq, x, y => decide (x = y)
  | .ne, x, y => !decide (x = y)
  | .lt, x, y => decide (x < y)
  | .ge, x, y => decide (y ≤ x)
  | .gt, x, y => decide (y < x)
  | .le, x, y => decide (x ≤ y)
def xget (h : xH) (a : Nat) : Option xE := bif Nat.ble 4 a then h[a - 4]? else none
def xset (h : xH) (a : Nat) (e : xE) : xH := h.set (a - 4) e
def xtT : Nat → FieldType
  | 0 => .int
  | 1 => .long
  | 2 => .boolean
  | 3 => .array .int
  | 4 => .array (.array .int)
  | 5 => .array .boolean
  | _ => .object "java/lang/Object"
def xlen : Instr → Nat
  | .bipush _ => 2
  | .ldc _ => 2
  | .iload _ => 2
  | .lload _ => 2
  | .dload _ => 2
  | .aload _ => 2
  | .istore _ => 2
  | .lstore _ => 2
  | .dstore _ => 2
  | .astore _ => 2
  | .newarray _ => 2
  | .sipush _ => 3
  | .ldc_w _ => 3
  | .ldc2_w _ => 3
  | .iinc _ _ => 3
  | .if_icmp _ _ => 3
  | .ifCond _ _ => 3
  | .goto _ => 3
  | .ifnull _ => 3
  | .ifnonnull _ => 3
  | .getfield _ => 3
  | .putfield _ => 3
  | .getstatic _ => 3
  | .new _ => 3
  | .anewarray _ => 3
  | .checkcast _ => 3
  | .invokevirtual _ => 3
  | .invokespecial _ => 3
  | .invokestatic _ => 3
  | .multianewarray _ _ => 4
  | .invokeinterface _ _ => 5
  | .tableswitch _ _ _ _ => 0
  | .lookupswitch _ _ => 0
  | _ => 1
def xix (x : Int32) (n : Nat) : Option Nat := if x < 0 then none else if n ≤ x.toNatClampNeg then none else some x.toNatClampNeg
theorem xix_in {x : Int32} {n k : Nat} (h : xix x n = some k) : ¬ (x < 0 ∨ n ≤ x.toNatClampNeg) ∧ x.toNatClampNeg = k := by
  unfold xix at h
  split at h
  · cases h
  · split at h
    · cases h
    · cases h
      exact ⟨fun q => q.elim (by assumption) (by assumption), rfl⟩
def xati : ArrayType → Option Nat
  | .int => some 0
  | .long => some 1
  | .boolean => some 2
  | _ => none
def xdv : Nat → Value
  | 0 => .int 0
  | 1 => .long 0
  | 2 => .int 0
  | _ => .null
end XM
end
section
/-! one instruction on lists -/
section XS
def xstep (o nL : Nat) (ini : Bool) (sc : Option (List Int32)) (i : Instr) (pc : Nat) (lv : xL) (st : List Value) (h : xH) (ks : Nat) : Option xC := match i with
  | .iconst n => some (pc + 1, lv, .int (Int32.ofInt n) :: st, h, ks)
  | .bipush n => some (pc + 2, lv, .int (Int8.ofInt n).toInt32 :: st, h, ks)
  | .sipush n => some (pc + 3, lv, .int (Int16.ofInt n).toInt32 :: st, h, ks)
  | .lconst n => some (pc + 1, lv, .long (Int64.ofNat (n : Nat)) :: st, h, ks)
  | .dconst n => some (pc + 1, lv, .double ((if n = 0 then FP.dconst0 else FP.dconst1)) :: st, h, ks)
  | .aconst_null => some (pc + 1, lv, .null :: st, h, ks)
  | .ldc x => match xfnd (xconT o) x with | some (v, _) => some (pc + 2, lv, .int v :: st, h, ks) | none => none
  | .ldc_w x => match xfnd (xconT o) x with | some (v, _) => some (pc + 3, lv, .int v :: st, h, ks) | none => none
  | .ldc2_w x => match xfnd (xcolT o) x with | some (v, _) => some (pc + 3, lv, .long v :: st, h, ks) | none => none
  | .iload_n k => match xlk k lv with | some (.int x) => some (pc + 1, lv, .int x :: st, h, ks) | _ => none
  | .iload k => match xlk k lv with | some (.int x) => some (pc + 2, lv, .int x :: st, h, ks) | _ => none
  | .lload_n k => match xlk k lv with | some (.long x) => some (pc + 1, lv, .long x :: st, h, ks) | _ => none
  | .lload k => match xlk k lv with | some (.long x) => some (pc + 2, lv, .long x :: st, h, ks) | _ => none
  | .dload k => match xlk k lv with | some (.double x) => some (pc + 2, lv, .double x :: st, h, ks) | _ => none
  | .aload_n k => match xlk k lv with | some (.ref x) => some (pc + 1, lv, .ref x :: st, h, ks) | _ => none
  | .aload k => match xlk k lv with | some (.ref x) => some (pc + 2, lv, .ref x :: st, h, ks) | _ => none
  | .istore_n k => match st with | .int x :: st => if (k : Nat) < nL then some (pc + 1, xs1 k (.int x) lv, st, h, ks) else none | _ => none
  | .istore k => match st with | .int x :: st => if (k : Nat) < nL then some (pc + 2, xs1 k (.int x) lv, st, h, ks) else none | _ => none
  | .astore_n k => match st with | .ref x :: st => if (k : Nat) < nL then some (pc + 1, xs1 k (.ref x) lv, st, h, ks) else none | _ => none
  | .astore k => match st with | .ref x :: st => if (k : Nat) < nL then some (pc + 2, xs1 k (.ref x) lv, st, h, ks) else none | _ => none
  | .lstore_n k => match st with | .long x :: st => if (k : Nat) + 1 < nL then some (pc + 1, xs2 k (.long x) lv, st, h, ks) else none | _ => none
  | .lstore k => match st with | .long x :: st => if (k : Nat) + 1 < nL then some (pc + 2, xs2 k (.long x) lv, st, h, ks) else none | _ => none
  | .dstore k => match st with | .double x :: st => if (k : Nat) + 1 < nL then some (pc + 2, xs2 k (.double x) lv, st, h, ks) else none | _ => none
  | .iinc k n => match xlk k lv with | some (.int x) => if (k : Nat) < nL then some (pc + 3, xs1 k (.int (x + Int32.ofInt n)) lv, st, h, ks) else none | _ => none
  | .iadd => match st with | .int y :: .int x :: st => some (pc + 1, lv, .int (x + y) :: st, h, ks) | _ => none
  | .isub => match st with | .int y :: .int x :: st => some (pc + 1, lv, .int (x - y) :: st, h, ks) | _ => none
  | .imul => match st with | .int y :: .int x :: st => some (pc + 1, lv, .int (x * y) :: st, h, ks) | _ => none
  | .idiv => match st with | .int y :: .int x :: st => if y = 0 then none else some (pc + 1, lv, .int (x / y) :: st, h, ks) | _ => none
  | .irem => match st with | .int y :: .int x :: st => if y = 0 then none else some (pc + 1, lv, .int (x - x / y * y) :: st, h, ks) | _ => none
  | .ineg => match st with | .int x :: st => some (pc + 1, lv, .int (-x) :: st, h, ks) | _ => none
  | .iand => match st with | .int y :: .int x :: st => some (pc + 1, lv, .int (x &&& y) :: st, h, ks) | _ => none
  | .ior => match st with | .int y :: .int x :: st => some (pc + 1, lv, .int (x ||| y) :: st, h, ks) | _ => none
  | .ixor => match st with | .int y :: .int x :: st => some (pc + 1, lv, .int (x ^^^ y) :: st, h, ks) | _ => none
  | .ishl => match st with | .int y :: .int x :: st => some (pc + 1, lv, .int (x <<< (y &&& 31)) :: st, h, ks) | _ => none
  | .ishr => match st with | .int y :: .int x :: st => some (pc + 1, lv, .int (x >>> (y &&& 31)) :: st, h, ks) | _ => none
  | .iushr => match st with | .int y :: .int x :: st => some (pc + 1, lv, .int (x.toUInt32 >>> (y.toUInt32 &&& Int32.toUInt32 31)).toInt32 :: st, h, ks) | _ => none
  | .ladd => match st with | .long y :: .long x :: st => some (pc + 1, lv, .long (x + y) :: st, h, ks) | _ => none
  | .lmul => match st with | .long y :: .long x :: st => some (pc + 1, lv, .long (x * y) :: st, h, ks) | _ => none
  | .lcmp => match st with | .long y :: .long x :: st => some (pc + 1, lv, .int (lg_cmp x y) :: st, h, ks) | _ => none
  | .dcmp op => match st with | .double y :: .double x :: st => some (pc + 1, lv, .int (Op.cmpValue (FP.dcmp x y) op) :: st, h, ks) | _ => none
  | .i2l => match st with | .int x :: st => some (pc + 1, lv, .long x.toInt64 :: st, h, ks) | _ => none
  | .dup => match st with | x :: st => if x.category = 1 then some (pc + 1, lv, x :: x :: st, h, ks) else none | _ => none
  | .pop => match st with | x :: st => if x.category = 1 then some (pc + 1, lv, st, h, ks) else none | _ => none
  | .dup_x1 => match st with | x :: y :: st => if x.category = 1 then if y.category = 1 then some (pc + 1, lv, x :: y :: x :: st, h, ks) else none else none | _ => none
  | .dup2 => match st with | x :: y :: st => if x.category = 1 then if y.category = 1 then some (pc + 1, lv, x :: y :: x :: y :: st, h, ks) else none else none | _ => none
  | .if_icmp c off => match st with
    | .int y :: .int x :: st => match xj pc off with | some t => bif xcmp c x y then some (t, lv, st, h, ks) else some (pc + 3, lv, st, h, ks) | none => none
    | _ => none
  | .ifCond c off => match st with
    | .int x :: st => match xj pc off with | some t => bif xcmp c x 0 then some (t, lv, st, h, ks) else some (pc + 3, lv, st, h, ks) | none => none
    | _ => none
  | .goto off => match xj pc off with | some t => some (t, lv, st, h, ks) | none => none
  | .tableswitch d lo hi offs => match st with
    | .int x :: st => if x.toInt < lo then (match xj pc d with | some t => some (t, lv, st, h, ks) | none => none) else
        if hi < x.toInt then (match xj pc d with | some t => some (t, lv, st, h, ks) | none => none) else
        match offs[(x.toInt - lo).toNat]? with
        | some off => (match xj pc off with | some t => some (t, lv, st, h, ks) | none => none)
        | none => none
    | _ => none
  | .lookupswitch d ps => match st with
    | .int x :: st => bif (ps.toList.zip (ps.toList.drop 1)).all (fun (a, next) => a.1 < next.1) then
        (match xj pc (Op.lookupswitch.offset ps.toList d x.toInt) with | some t => some (t, lv, st, h, ks) | none => none) else none
    | _ => none
  | .getfield x => match st with
    | .ref a :: st => match xfnd (xfldT o) x with
      | some (ci, k, _, _) => match xget h a with
        | some (t, fs) => if t = ci then (match fs[k]? with | some v => some (pc + 3, lv, v :: st, h, ks) | none => none) else none
        | none => none
      | none => none
    | _ => none
  | .putfield x => match st with
    | v :: .ref a :: st => match xfnd (xfldT o) x with
      | some (ci, k, kd, _) => match xget h a with
        | some (t, fs) => match xcl[ci]? with
          | some (_, T, _) => if t = ci ∧ k < fs.length ∧ narrow (xtyf ci k) v = v ∧ fits (xtyf ci k) v = true ∧ ((T k).2.2.2 = false ∨ (ini = true ∧ kd = 0 ∧ (T k).1 = xown o)) then some (pc + 3, lv, st, xset h a (t, fs.set k v), ks) else none
          | none => none
        | none => none
      | none => none
    | _ => none
  | .new x => match xfnd (xnewT o) x with
    | some (ci, _) => match xcl[ci]? with
      | some (_, _, N) => if 0 < N then some (pc + 3, lv, .ref (h.length + 4) :: st, h ++ [(ci, xdef ci)], ks + N) else none
      | none => none
    | none => none
  | .newarray aty => match st with
    | .int n :: st => match xati aty with
      | some t => if n < 0 then none else if n.toNatClampNeg * componentBytes (xtT t) ≤ 536870912 then some (pc + 2, lv, .ref (h.length + 4) :: st, h ++ [(100 + t, List.replicate n.toNatClampNeg (xdv t))], ks + n.toNatClampNeg) else none
      | none => none
    | _ => none
  | .arraylength => match st with
    | .ref a :: st => match xget h a with
      | some (t, vs) => if 100 ≤ t ∧ t < 106 then some (pc + 1, lv, .int (Int32.ofNat vs.length) :: st, h, ks) else none
      | none => match sc with
        | some l => if a = 0 then some (pc + 1, lv, .int (Int32.ofNat l.length) :: st, h, ks) else none
        | none => none
    | _ => none
  | .iaload => match st with
    | .int x :: .ref a :: st => match xget h a with
      | some (t, vs) => if t = 100 then (match xix x vs.length with | some k => (match vs[k]? with | some v => some (pc + 1, lv, v :: st, h, ks) | none => none) | none => none) else none
      | none => match sc with
        | some l => if a = 0 then (match xix x l.length with | some k => some (pc + 1, lv, .int (l.getD k 0) :: st, h, ks) | none => none) else none
        | none => none
    | _ => none
  | .laload => match st with
    | .int x :: .ref a :: st => match xget h a with
      | some (t, vs) => if t = 101 then (match xix x vs.length with | some k => (match vs[k]? with | some v => some (pc + 1, lv, v :: st, h, ks) | none => none) | none => none) else none
      | none => none
    | _ => none
  | .baload => match st with
    | .int x :: .ref a :: st => match xget h a with
      | some (t, vs) => if t = 102 then (match xix x vs.length with | some k => (match vs[k]? with | some v => some (pc + 1, lv, v :: st, h, ks) | none => none) | none => none) else none
      | none => none
    | _ => none
  | .aaload => match st with
    | .int x :: .ref a :: st => match xget h a with
      | some (t, vs) => if 103 ≤ t ∧ t < 106 then (match xix x vs.length with | some k => (match vs[k]? with | some v => some (pc + 1, lv, v :: st, h, ks) | none => none) | none => none) else none
      | none => none
    | _ => none
  | .iastore => match st with
    | .int v :: .int x :: .ref a :: st => match xget h a with
      | some (t, vs) => if t = 100 then (match xix x vs.length with | some k => some (pc + 1, lv, st, xset h a (t, vs.set k (.int v)), ks) | none => none) else none
      | none => none
    | _ => none
  | .lastore => match st with
    | .long v :: .int x :: .ref a :: st => match xget h a with
      | some (t, vs) => if t = 101 then (match xix x vs.length with | some k => some (pc + 1, lv, st, xset h a (t, vs.set k (.long v)), ks) | none => none) else none
      | none => none
    | _ => none
  | .bastore => match st with
    | .int v :: .int x :: .ref a :: st => match xget h a with
      | some (t, vs) => if t = 102 then (match xix x vs.length with | some k => some (pc + 1, lv, st, xset h a (t, vs.set k (narrow .boolean (.int v))), ks) | none => none) else none
      | none => none
    | _ => none
  | .aastore => match st with
    | .ref v :: .int x :: .ref a :: st => match xget h a, xget h v with
      | some (t, vs), some (t2, _) => if (t = 103 ∧ t2 = 100) ∨ (t = 104 ∧ t2 = 103) ∨ (t = 105 ∧ t2 = 102) then (match xix x vs.length with | some k => some (pc + 1, lv, st, xset h a (t, vs.set k (.ref v)), ks) | none => none) else none
      | _, _ => none
    | _ => none
  | _ => none
end XS
end
section
/-! what the tables say, checked by program -/
section XF
def xnwB : Jvm.Cond → Bool
  | .fieldLinkNest _ _ _ _ _ _ => true
  | .methodLinkNest _ _ _ _ => true
  | .castable _ _ => true
  | .declares _ => true
  | .arrayOver _ => true
  | _ => false
def xgw : List Jvm.Cond := lw_tbl.filter goodWord
def xnw : List Jvm.Cond := lw_tbl.filter xnwB
def xin (w : Jvm.Cond) (p : Nat) : Bool := decide (lw_tbl[p]? = some w)
def xig (w : Jvm.Cond) (p : Nat) : Bool := xin w p && goodWord w
def xinw (w : Jvm.Cond) (p : Nat) : Bool := xin w p && xnwB w
theorem xig_mem {w : Jvm.Cond} {p : Nat} (h : xig w p = true) : w ∈ xgw := by
  unfold xig xin at h
  simp only [Bool.and_eq_true, decide_eq_true_eq] at h
  exact List.mem_filter.mpr ⟨List.mem_of_getElem? h.1, h.2⟩
theorem xinw_mem {w : Jvm.Cond} {p : Nat} (h : xinw w p = true) : w ∈ xnw := by
  unfold xinw xin at h
  simp only [Bool.and_eq_true, decide_eq_true_eq] at h
  exact List.mem_filter.mpr ⟨List.mem_of_getElem? h.1, h.2⟩
theorem xgood {w : Jvm.Cond} (h : w ∈ xgw) : goodWord w = true := (List.mem_filter.mp h).2
-- fields
def xfldC (o : Nat) (q : Nat × Nat × Nat × Nat × Nat) : Bool := match xcl[q.2.1]? with
  | none => false
  | some (_, T, N) => decide (q.2.2.1 < N) && (if q.2.2.2.1 = 0 then xig (.fieldLink (xown o) q.1 (T q.2.2.1).1 (T q.2.2.1).2.1 (T q.2.2.1).2.2.1) q.2.2.2.2 else xinw (.fieldLinkNest (xown o) q.1 (T q.2.2.1).1 (T q.2.2.1).2.1 (T q.2.2.1).2.2.1 (xhost o)) q.2.2.2.2)
set_option maxRecDepth 100000 in
theorem xfld_all : ∀ o, o < xNO → (xfldT o).all (xfldC o) = true := by decide +kernel
theorem xfld_out {o : Nat} (h : ¬ o < xNO) : xfldT o = [] := by
  unfold xNO at h
  unfold xfldT
  split <;> first | omega | rfl
theorem xfld_ok {o x ci k kd p : Nat} (h : xfnd (xfldT o) x = some (ci, k, kd, p)) : ∃ (C : String) (T : u_T) (N : Nat), xcl[ci]? = some (C, T, N) ∧ k < N ∧
    (if kd = 0 then Jvm.Cond.fieldLink (xown o) x (T k).1 (T k).2.1 (T k).2.2.1 ∈ xgw else Jvm.Cond.fieldLinkNest (xown o) x (T k).1 (T k).2.1 (T k).2.2.1 (xhost o) ∈ xnw) := by
  have hm := xfnd_mem h
  by_cases ho : o < xNO
  · have h1 := List.all_eq_true.mp (xfld_all o ho) _ hm
    unfold xfldC at h1
    dsimp only at h1
    split at h1
    · cases h1
    · rename_i C T N hc
      simp only [Bool.and_eq_true, decide_eq_true_eq] at h1
      refine ⟨C, T, N, hc, h1.1, ?_⟩
      split
      · rename_i hk
        rw [if_pos hk] at h1
        exact xig_mem h1.2
      · rename_i hk
        rw [if_neg hk] at h1
        exact xinw_mem h1.2
  · rw [xfld_out ho] at hm
    cases hm
-- the classes' layouts
def xclsC (ci : Nat) : Bool := match xcl[ci]? with
  | none => true
  | some (C, T, N) => (List.range N).all (fun k => xlayT.any (fun q => q.1 == ci && q.2.1 == k && xig (u_lay C T k) q.2.2)) && (List.range N).all (fun k => decide (parseFieldDescriptor (T k).2.2.1 = some (xtyf ci k))) && (List.range N).all (fun a => (List.range N).all (fun b => decide (a = b) || decide ((T a).2.1 ≠ (T b).2.1))) && (List.range N).all (fun j => decide (defaultValue (xtyf ci j) = vp_V (xdef ci) j)) && decide ((xdef ci).length = N)
set_option maxRecDepth 100000 in
theorem xcls_all : (List.range xcl.length).all xclsC = true := by decide +kernel
theorem xcls_ok {ci : Nat} {C : String} {T : u_T} {N : Nat} (hc : xcl[ci]? = some (C, T, N)) : (∀ w ∈ u_ws C T N, w ∈ xgw) ∧ (∀ k, k < N → parseFieldDescriptor (T k).2.2.1 = some (xtyf ci k)) ∧ (∀ a, a < N → ∀ b, b < N → a ≠ b → (T a).2.1 ≠ (T b).2.1) ∧ (∀ j, j < N → defaultValue (xtyf ci j) = vp_V (xdef ci) j) ∧ (xdef ci).length = N := by
  have hlt : ci < xcl.length := (List.getElem?_eq_some_iff.mp hc).1
  have h := List.all_eq_true.mp xcls_all ci (List.mem_range.mpr hlt)
  unfold xclsC at h
  rw [hc] at h
  simp only [Bool.and_eq_true, decide_eq_true_eq, List.all_eq_true, List.mem_range, Bool.or_eq_true] at h
  obtain ⟨⟨⟨⟨h1, h2⟩, h3⟩, h4⟩, h5⟩ := h
  refine ⟨fun w hw => ?_, h2, fun a ha b hb hab => ?_, h4, h5⟩
  · obtain ⟨k, hk, rfl⟩ := List.mem_map.mp hw
    obtain ⟨q, -, hq⟩ := List.any_eq_true.mp (h1 k (List.mem_range.mp hk))
    simp only [Bool.and_eq_true] at hq
    exact xig_mem hq.2
  · rcases h3 a ha b hb with e | e
    · exact absurd e hab
    · exact e
-- new
def xnewC (o : Nat) (q : Nat × Nat × Nat × Nat × Nat) : Bool := match xcl[q.2.1]? with
  | none => false
  | some (C, _, N) => decide (N = 0) || (xig (.classLink (xown o) q.1 C) q.2.2.1 && xig (.instantiable C N) q.2.2.2.1 && xig (.initialized C) q.2.2.2.2)
set_option maxRecDepth 100000 in
theorem xnew_all : ∀ o, o < xNO → (xnewT o).all (xnewC o) = true := by decide +kernel
theorem xnew_out {o : Nat} (h : ¬ o < xNO) : xnewT o = [] := by
  unfold xNO at h
  unfold xnewT
  split <;> first | omega | rfl
theorem xnew_ok {o x ci : Nat} {r : Nat × Nat × Nat} {C : String} {T : u_T} {N : Nat} (h : xfnd (xnewT o) x = some (ci, r)) (hc : xcl[ci]? = some (C, T, N)) (hN : 0 < N) :
    Jvm.Cond.classLink (xown o) x C ∈ xgw ∧ Jvm.Cond.instantiable C N ∈ xgw ∧ Jvm.Cond.initialized C ∈ xgw := by
  have hm := xfnd_mem h
  by_cases ho : o < xNO
  · have h1 := List.all_eq_true.mp (xnew_all o ho) _ hm
    unfold xnewC at h1
    dsimp only at h1
    rw [hc] at h1
    simp only [Bool.and_eq_true, Bool.or_eq_true, decide_eq_true_eq] at h1
    rcases h1 with h1 | h1
    · omega
    · exact ⟨xig_mem h1.1.1, xig_mem h1.1.2, xig_mem h1.2⟩
  · rw [xnew_out ho] at hm
    cases hm
-- constants
set_option maxRecDepth 100000 in
theorem xcon_all : ∀ o, o < xNO → (xconT o).all (fun q => xig (.constant (xown o) q.1 q.2.1) q.2.2) = true := by decide +kernel
set_option maxRecDepth 100000 in
theorem xcol_all : ∀ o, o < xNO → (xcolT o).all (fun q => xig (.constantLong (xown o) q.1 q.2.1) q.2.2) = true := by decide +kernel
theorem xcon_ok {o x p : Nat} {v : Int32} (h : xfnd (xconT o) x = some (v, p)) : Jvm.Cond.constant (xown o) x v ∈ xgw := by
  have hm := xfnd_mem h
  by_cases ho : o < xNO
  · exact xig_mem (List.all_eq_true.mp (xcon_all o ho) _ hm)
  · have : xconT o = [] := by
      unfold xNO at ho
      unfold xconT
      split <;> first | omega | rfl
    rw [this] at hm
    cases hm
theorem xcol_ok {o x p : Nat} {v : Int64} (h : xfnd (xcolT o) x = some (v, p)) : Jvm.Cond.constantLong (xown o) x v ∈ xgw := by
  have hm := xfnd_mem h
  by_cases ho : o < xNO
  · exact xig_mem (List.all_eq_true.mp (xcol_all o ho) _ hm)
  · have : xcolT o = [] := by
      unfold xNO at ho
      unfold xcolT
      split <;> first | omega | rfl
    rw [this] at hm
    cases hm
end XF
end
section
section XCW
theorem xcod_ok {μ : Nat} (h : xcod μ = true) : Jvm.Cond.code (xmy μ) (xmb μ) (xml μ) (xmr μ) ∈ xgw := sorry
theorem xcod_lt {μ : Nat} (h : xcod μ = true) : μ < xNM := sorry
end XCW
end
section
/-! what the tables say of calls, checked by program; the words that stay when the tables warm -/
section XCF
def xmetC (μ : Nat) : Bool := plainName (xmy μ).cls && decide ((xmy μ).cls ≠ "java/lang/invoke/MethodHandle") && decide ((xmy μ).cls ≠ "java/lang/invoke/VarHandle") && decide ((parseMethodDescriptor (xmy μ).desc).map (fun d => d.parameters.length) = some (xmn μ)) && decide (xown (xmo μ) = (xmy μ).cls) && (!xini μ || decide ((xmy μ).name = "<init>"))
set_option maxRecDepth 100000 in
theorem xmet_all : (List.range xNM).all (fun μ => !xcod μ || xmetC μ) = true := by decide +kernel
theorem xmet_ok {μ : Nat} (hcd : xcod μ = true) : plainName (xmy μ).cls = true ∧ (xmy μ).cls ≠ "java/lang/invoke/MethodHandle" ∧ (xmy μ).cls ≠ "java/lang/invoke/VarHandle" ∧ (parseMethodDescriptor (xmy μ).desc).map (fun d => d.parameters.length) = some (xmn μ) ∧ xown (xmo μ) = (xmy μ).cls ∧ (xini μ = true → (xmy μ).name = "<init>") := by
  have h1 := List.all_eq_true.mp xmet_all μ (List.mem_range.mpr (xcod_lt hcd))
  rw [hcd] at h1
  unfold xmetC at h1
  simp only [Bool.not_true, Bool.false_or, Bool.and_eq_true, decide_eq_true_eq, Bool.or_eq_true, Bool.not_eq_true'] at h1
  obtain ⟨⟨⟨⟨⟨a, b⟩, c⟩, d⟩, e⟩, f⟩ := h1
  refine ⟨a, b, c, d, e, fun hi => ?_⟩
  rcases f with f | f
  · rw [hi] at f; cases f
  · exact f
def xcalC (o : Nat) (q : Nat × Nat × Nat × Nat × Nat × Nat × Nat) : Bool :=
  let y := xmy q.2.2.1
  match q.2.1 with
  | 0 => xig (.methodLink (xown o) q.1 y) q.2.2.2.1 && xig (.instanceMethod y) q.2.2.2.2.1 && xig (.initialized y.cls) q.2.2.2.2.2.1
  | 1 => xig (.methodLink (xown o) q.1 y) q.2.2.2.1 && xig (.instanceMethod y) q.2.2.2.2.1 && xig (.selects y.cls y y) q.2.2.2.2.2.1 && xig (.initialized y.cls) q.2.2.2.2.2.2
  | 2 => xig (.methodLink (xown o) q.1 y) q.2.2.2.1 && xig (.static y) q.2.2.2.2.1 && xig (.initialized y.cls) q.2.2.2.2.2.1
  | 3 => xinw (.methodLinkNest (xown o) q.1 y (xhost o)) q.2.2.2.1 && xig (.static y) q.2.2.2.2.1 && xig (.initialized y.cls) q.2.2.2.2.2.1
  | 4 => xinw (.methodLinkNest (xown o) q.1 y (xhost o)) q.2.2.2.1 && xig (.instanceMethod y) q.2.2.2.2.1 && xig (.initialized y.cls) q.2.2.2.2.2.1
  | 6 => xig (.methodLink (xown o) q.1 objectInit) q.2.2.2.1 && xig (.instanceMethod objectInit) q.2.2.2.2.1 && xig (.code objectInit ⟨#[0xb1]⟩ 1 none) q.2.2.2.2.2.1
  | 7 => xig (.methodLink (xown o) q.1 Lib.Math.max.name) q.2.2.2.1 && xig (.static Lib.Math.max.name) q.2.2.2.2.1 && xig (.initialized "java/lang/Math") q.2.2.2.2.2.1 && xig (.code Lib.Math.max.name Lib.Math.max.code 2 (some .int)) q.2.2.2.2.2.2
  | 8 => xig (.methodLink (xown o) q.1 Lib.Math.min.name) q.2.2.2.1 && xig (.static Lib.Math.min.name) q.2.2.2.2.1 && xig (.initialized "java/lang/Math") q.2.2.2.2.2.1 && xig (.code Lib.Math.min.name Lib.Math.min.code 2 (some .int)) q.2.2.2.2.2.2
  | 9 => xig (.methodLink (xown o) q.1 Lib.Math.abs.name) q.2.2.2.1 && xig (.static Lib.Math.abs.name) q.2.2.2.2.1 && xig (.initialized "java/lang/Math") q.2.2.2.2.2.1 && xig (.code Lib.Math.abs.name Lib.Math.abs.code 1 (some .int)) q.2.2.2.2.2.2
  | _ => true
set_option maxRecDepth 100000 in
theorem xcal_all : ∀ o, o < xNO → (xcalT o).all (xcalC o) = true := by decide +kernel
theorem xcal_ok {o x : Nat} {r : Nat × Nat × Nat × Nat × Nat × Nat} (h : xfnd (xcalT o) x = some r) : xcalC o (x, r) = true := by
  have hm := xfnd_mem h
  by_cases ho : o < xNO
  · exact List.all_eq_true.mp (xcal_all o ho) _ hm
  · have : xcalT o = [] := by
      unfold xNO at ho
      unfold xcalT
      split <;> first | omega | rfl
    rw [this] at hm
    cases hm
set_option maxRecDepth 100000 in
theorem xcl_all : (List.range xNX).all (fun ci => match xcl[ci]? with | some (C, _, _) => decide (C = xown ci) | none => false) = true := by decide +kernel
theorem xcl_own {ci : Nat} {C : String} {T : u_T} {N : Nat} (hc : xcl[ci]? = some (C, T, N)) (h : ci < xNX) : C = xown ci := by
  have h1 := List.all_eq_true.mp xcl_all ci (List.mem_range.mpr h)
  rw [hc] at h1
  exact of_decide_eq_true h1
-- words that stay
theorem xAO_moved {t : FieldType} {u U : State} (hvm : u.vm.Alike U.vm) (h : va_Nw (.arrayOver (.array t)) u) : va_Nw (.arrayOver (.array t)) U := by
  unfold va_Nw Cond.before Cond.holds at h ⊢
  simp only [Cond.value, beq_iff_eq] at h ⊢
  rw [hvm.findClass]
  cases hc : u.vm.findClass (FieldType.array t).toString with
  | none => rw [hc] at h; simp at h
  | some comp =>
    rw [hc] at h
    simp only [Option.bind_some, Option.bind_eq_some_iff, Option.map_eq_some_iff] at h ⊢
    obtain ⟨c, hi, k, hk, hb⟩ := h
    obtain ⟨k', hk', he⟩ := hvm.2.2 _ _ hk
    refine ⟨c, ?_, k', hk', ?_⟩
    · have e1 := va_idx_bare U.vm comp
      have e2 := va_idx_bare u.vm comp
      have e3 : U.vm.bare = u.vm.bare := by first | exact hvm.bare_eq | exact hvm.bare_eq.symm
      rw [e3] at e1
      exact (e1.symm.trans e2).trans hi
    · rw [he]
      rw [hvm.findClass]
      exact hb
def xnwC (w : Jvm.Cond) : Bool := !xnwB w || (match w with
  | .arrayOver (.object _) => true
  | .arrayOver (.array _) => true
  | .arrayOver _ => false
  | _ => true)
set_option maxRecDepth 100000 in
theorem xnwC_all : lw_tbl.all xnwC = true := by decide +kernel
theorem xAO_only {t : FieldType} (h : Jvm.Cond.arrayOver t ∈ xnw) : (∃ C, t = .object C) ∨ ∃ t', t = .array t' := by
  obtain ⟨h1, h2⟩ := List.mem_filter.mp h
  have h3 := List.all_eq_true.mp xnwC_all _ h1
  cases t with
  | object C => exact Or.inl ⟨C, rfl⟩
  | array t => exact Or.inr ⟨t, rfl⟩
  | _ => cases h3
theorem xnw_warm {w : Jvm.Cond} (hw : w ∈ xnw) {s U : State} (hW : s.WarmedH U.vm) (h : va_Nw w s) : va_Nw w U := by
  have hb := (List.mem_filter.mp hw).2
  cases w with
  | fieldLinkNest => exact va_Nw.warmF hW h
  | methodLinkNest => exact va_Nw.warmM hW h
  | castable => exact va_Nw.warmC hW h
  | declares => exact va_Nw.warmD hW h
  | arrayOver t =>
    cases t with
    | object C => exact va_AO.moved hW.alike h
    | array t => exact xAO_moved hW.alike h
    | _ =>
      rcases xAO_only hw with ⟨_, q⟩ | ⟨_, q⟩ <;> cases q
  | _ => cases hb
end XCF
end
section
/-! one instruction: what the lists say, the machine does -/
section XQ
def xcell (D : va_G) (tA : Nat → ClassId) (ad : Nat → Nat) (a : Nat) (e : xE) (H : Heap) : Prop := if e.1 < 100 then va_at D xcl (a, .inr (e.1, e.2.map (xv ad))) H else H[a]? = some { cls := tA (e.1 - 100), slots := (e.2.map (xv ad)).toArray, vm := .none }
def xP (D : va_G) (tA : Nat → ClassId) (ad : Nat → Nat) (h : xH) (H : Heap) : Prop := ∀ (k : Nat) (e : xE), h[k]? = some e → xcell D tA ad (ad (k + 4)) e H
def xcomp : Nat → Nat
  | 3 => 0
  | 4 => 3
  | 5 => 2
  | _ => 0
def xK (D : va_G) (tA : Nat → ClassId) (U : State) : Prop := va_K D xcl [] U ∧ ∀ t, t < 6 → U.vm.findClass ("[" ++ (xtT t).toString) = some (tA t) ∧ ∃ (k : Class) (comp : ClassId), U.vm.classes[tA t]? = some k ∧ k.kind = .array comp (xtT t) ∧ (3 ≤ t → comp = tA (xcomp t))
def xX (sc : Option (List Int32)) (old : Nat → Nat) (n0 : Nat) (U : State) : Prop := match sc with
  | none => True
  | some l => va_X (old 0) l.length (fun j => l.getD j 0) U U.heap ∧ old 0 < n0
theorem xad_new (old : Nat → Nat) (n0 k : Nat) : xad old n0 (k + 4) = n0 + k := by
  unfold xad
  rw [if_neg (by omega), Nat.add_sub_cancel]
theorem xget_ok {h : xH} {a : Nat} {e : xE} (hg : xget h a = some e) : ∃ k, a = k + 4 ∧ h[k]? = some e := by
  unfold xget at hg
  cases hb : Nat.ble 4 a with
  | true =>
    rw [hb] at hg
    have := Nat.le_of_ble_eq_true hb
    exact ⟨a - 4, by omega, hg⟩
  | false =>
    rw [hb] at hg
    cases hg
theorem xcell_kept {D : va_G} {tA : Nat → ClassId} {ad : Nat → Nat} {a : Nat} {e : xE} {H H1 : Heap} (h : xcell D tA ad a e H) (hq : H1[a]? = H[a]?) : xcell D tA ad a e H1 := by
  unfold xcell at h ⊢
  split
  · rename_i hlt
    rw [if_pos hlt] at h
    exact va_at.kept h hq
  · rename_i hlt
    rw [if_neg hlt] at h
    rw [hq]
    exact h
theorem xP_arr {D : va_G} {tA : Nat → ClassId} {ad : Nat → Nat} {h : xH} {H : Heap} {a t : Nat} {vs : List Value} (hP : xP D tA ad h H) (hg : xget h a = some (t, vs)) (ht : 100 ≤ t) : H[ad a]? = some { cls := tA (t - 100), slots := (vs.map (xv ad)).toArray, vm := .none } := by
  obtain ⟨k, rfl, hk⟩ := xget_ok hg
  have := hP k _ hk
  unfold xcell at this
  rw [if_neg (by show ¬ t < 100; omega)] at this
  exact this
theorem xP_obj {D : va_G} {tA : Nat → ClassId} {ad : Nat → Nat} {h : xH} {H : Heap} {a t : Nat} {vs : List Value} (hP : xP D tA ad h H) (hg : xget h a = some (t, vs)) (ht : t < 100) : va_at D xcl (ad a, .inr (t, vs.map (xv ad))) H := by
  obtain ⟨k, rfl, hk⟩ := xget_ok hg
  have := hP k _ hk
  unfold xcell at this
  rw [if_pos (show t < 100 from ht)] at this
  exact this
theorem xP_set {D : va_G} {tA : Nat → ClassId} {old : Nat → Nat} {n0 a : Nat} {h : xH} {H H1 : Heap} {e e0 : xE} (hP : xP D tA (xad old n0) h H) (hg : xget h a = some e0) (h1 : xcell D tA (xad old n0) (xad old n0 a) e H1) (hq : ∀ q, q ≠ xad old n0 a → H1[q]? = H[q]?) : xP D tA (xad old n0) (xset h a e) H1 := by
  obtain ⟨k, rfl, hk⟩ := xget_ok hg
  intro j e9 hj
  unfold xset at hj
  rw [Nat.add_sub_cancel, List.getElem?_set] at hj
  by_cases hkj : k = j
  · subst hkj
    rw [if_pos rfl] at hj
    split at hj
    · cases hj
      exact h1
    · cases hj
  · rw [if_neg hkj] at hj
    exact xcell_kept (hP j e9 hj) (hq _ (by rw [xad_new, xad_new]; omega))
theorem xP_push {D : va_G} {tA : Nat → ClassId} {old : Nat → Nat} {n0 : Nat} {h : xH} {H H1 : Heap} {e : xE} (hP : xP D tA (xad old n0) h H) (hz : H.size = n0 + h.length) (h1 : xcell D tA (xad old n0) H.size e H1) (hq : ∀ q, q < H.size → H1[q]? = H[q]?) : xP D tA (xad old n0) (h ++ [e]) H1 := by
  intro j e9 hj
  by_cases hlt : j < h.length
  · rw [List.getElem?_append_left hlt] at hj
    exact xcell_kept (hP j e9 hj) (hq _ (by rw [xad_new]; omega))
  · rw [List.getElem?_append_right (by omega)] at hj
    have h0 : j - h.length < 1 := (List.getElem?_eq_some_iff.mp hj).1
    rw [show j - h.length = 0 by omega] at hj
    cases hj
    rw [xad_new, show n0 + j = H.size by omega]
    exact h1
theorem xfit (ty : FieldType) (ad : Nat → Nat) (v : Value) : fits ty (xv ad v) = fits ty v := by cases v <;> cases ty <;> rfl
theorem xnar {ty : FieldType} {ad : Nat → Nat} {v : Value} (h : narrow ty v = v) : narrow ty (xv ad v) = xv ad v := by
  cases v with
  | ref k => cases ty <;> rfl
  | _ => exact h
theorem xdl {cc : ByteArray} {pc n : Nat} {i : Instr} (h : ∃ len, decode cc pc = .ok (i, len) ∧ (xlen i = 0 ∨ len = xlen i)) (hn : xlen i = n + 1) : decode cc pc = .ok (i, n + 1) := by
  obtain ⟨len, h1, h2⟩ := h
  rcases h2 with h2 | h2
  · omega
  · rw [h1, h2, hn]
section
variable {p : Program} {l : Launch} {e : Env} {R : Room} {s : State} {m : MethodId} {args : Array Value} {below : List Frame} {meth : Method} {c : Code} {H : Heap} {locs : List Loc} {cells slots : Nat} {Q : State → Prop}
theorem xIsA {D : va_G} {tA : Nat → ClassId} {t : Nat} {sl : Array Value} (hK : xK D tA s) (ht : t < 6) : s.isArrayOf { cls := tA t, slots := sl, vm := .none } (xtT t) := by
  obtain ⟨-, k, comp, h1, h2, -⟩ := hK.2 t ht
  exact ⟨fun q h => by (cases h), k, h1, comp, h2⟩
/-- a field is written: plain, final in a constructor, or a nest mate's -/
theorem x_put {cc : ByteArray} {pc : Nat} {ls : Array Slot} {rest : List Value} {D : va_G} {tA : Nat → ClassId} {a o x ci k kd pp : Nat} {fs : List Value} {v : Value} {C : String} {T : u_T} {N : Nat}
    (hx : p.tables.exec = Jvm.exec) (hb : c.code = cc) (hown : s.vm.findClass (xown o) = some m.cls) (hts : ∀ w ∈ xgw, w.before args s = true) (hnw : ∀ w ∈ xnw, w.before args s = true) (hK : xK D tA s)
    (hc : xcl[ci]? = some (C, T, N)) (hl : xfnd (xfldT o) x = some (ci, k, kd, pp)) (hat : va_at D xcl (a, .inr (ci, fs)) H) (hkl : k < fs.length) (hn : narrow (xtyf ci k) v = v) (hfit : fits (xtyf ci k) v = true)
    (hfin : (T k).2.2.2 = false ∨ (meth.name = "<init>" ∧ kd = 0 ∧ (T k).1 = xown o)) (hdg : decode cc pc = .ok (.putfield x, 3))
    (kk : ∀ (H1 : Heap) (i : Nat), va_at D xcl (a, .inr (ci, fs.set k v)) H1 → H1.size = H.size → (∀ q, q ≠ a → H1[q]? = H[q]?) → W p l e R s m args below meth c H1 (locs ++ [⟨a, i⟩]) cells slots Q (F0 m (pc + 3) ls rest)) : W p l e R s m args below meth c H locs cells slots Q (F0 m pc ls (v :: .ref a :: rest)) := by
  obtain ⟨hin, hty, hnm, -, -⟩ := xcls_ok hc
  obtain ⟨C', T', N', hc', hk, hlink⟩ := xfld_ok hl
  cases hc.symm.trans hc'
  have hap := va_apart (own := xown o) hts hin (xtyf ci) hty hnm hK.1 hc
  obtain ⟨r, h1, cell, q1, q2, q3, q4⟩ := hat
  have hr : r = (C, T, N) := Option.some.inj (h1.symm.trans hc)
  subst hr
  obtain ⟨hS, hfc, kC, hkC, hkind⟩ := hK.1.1 ci _ hc
  obtain ⟨cf, kf, fi, f, hi, hsl⟩ := hS k hk
  have hlay := hts _ (hin _ (u_in_lay hk))
  unfold u_lay at hlay
  have hst := (u_facts hfc hkC (u_lays hts hin hk) hi).1
  have fin : ∀ H' : Heap, H'[a]? = some (cell.setSlot f.slot v) → H'.size = H.size → (∀ q, q ≠ a → H'[q]? = H[q]?) → W p l e R s m args below meth c H' (locs ++ [⟨a, f.slot⟩]) cells slots Q (F0 m (pc + 3) ls rest) := fun H' e1 e2 e3 => by
    rw [hsl] at e1 ⊢
    exact kk H' _ ⟨_, hc, t_OB.to (V := updV (vp_V fs) k v) ⟨_, e1, q2, q3, t_set q4 hap hk v⟩ (fun j _ => vp_updV_set hkl v j)⟩ e2 e3
  rcases hfin with hfin | ⟨hin2, hkd, hdecl⟩
  · rw [if_neg (by rw [hfin]; decide)] at hlay
    have h6 := u_store hfc hkC hkind hlay hi (hty k hk) hn hfit
    by_cases hkd : kd = 0
    · rw [if_pos hkd] at hlink
      exact W.putK hx hb (f := f) ⟨hown, hts _ hlink, ⟨_, _, _, hi⟩, hst⟩ (by rw [q2]; exact h6) q1 q3 (by rw [hsl]; exact k2_hasslot (q4 k hk)) rfl rfl hdg fin
    · rw [if_neg hkd] at hlink
      exact va_WputK hx hb (f := f) hown (hnw _ hlink) hi hst (by rw [q2]; exact h6) q1 q3 (by rw [hsl]; exact k2_hasslot (q4 k hk)) rfl rfl hdg fin
  · rw [if_pos hkd] at hlink
    by_cases hf : (T k).2.2.2 = true
    · rw [if_pos hf] at hlay
      have hcf : m.cls = cf := by
        obtain ⟨_, _, c', _, _, _, -, -, hf', -, -, -, hown2, -⟩ := Cond.laysFinal_spec hlay
        have e1 : c' = cf := by have := hi.symm.trans hf'; simp at this; exact this.1.symm
        rw [hdecl] at hown2
        rw [← e1]; exact Option.some.inj (hown.symm.trans hown2)
      have h6 := u_fits hfc hkC hkind (Or.inr hlay) hi (hty k hk) hn hfit
      exact W.putFinK hx hb hown (hts _ hlink) hi hst hcf hin2 (by rw [q2]; exact h6) q1 q3 (by rw [hsl]; exact k2_hasslot (q4 k hk)) rfl rfl hdg fin
    · rw [if_neg hf] at hlay
      have h6 := u_store hfc hkC hkind hlay hi (hty k hk) hn hfit
      exact W.putK hx hb (f := f) ⟨hown, hts _ hlink, ⟨_, _, _, hi⟩, hst⟩ (by rw [q2]; exact h6) q1 q3 (by rw [hsl]; exact k2_hasslot (q4 k hk)) rfl rfl hdg fin
/-- a field is read -/
theorem x_gf {cc : ByteArray} {pc : Nat} {ls : Array Slot} {rest : List Value} {D : va_G} {tA : Nat → ClassId} {a o x ci k kd pp : Nat} {fs : List Value} {v : Value}
    (hx : p.tables.exec = Jvm.exec) (hb : c.code = cc) (hown : s.vm.findClass (xown o) = some m.cls) (hts : ∀ w ∈ xgw, w.before args s = true) (hnw : ∀ w ∈ xnw, w.before args s = true) (hK : xK D tA s)
    (hl : xfnd (xfldT o) x = some (ci, k, kd, pp)) (hat : va_at D xcl (a, .inr (ci, fs)) H) (hv : fs[k]? = some v) (hdg : decode cc pc = .ok (.getfield x, 3))
    (kk : W p l e R s m args below meth c H locs cells slots Q (F0 m (pc + 3) ls (v :: rest))) : W p l e R s m args below meth c H locs cells slots Q (F0 m pc ls (.ref a :: rest)) := by
  obtain ⟨C, T, N, hc, hk, hlink⟩ := xfld_ok hl
  obtain ⟨hin, -⟩ := xcls_ok hc
  have hP : va_P D xcl [(a, .inr (ci, fs))] H := fun j q hj => by
    have h0 : j < 1 := (List.getElem?_eq_some_iff.mp hj).1
    rw [show j = 0 by omega] at hj
    cases hj
    exact hat
  by_cases hkd : kd = 0
  · rw [if_pos hkd] at hlink
    exact va_get (D := D) (ci := ci) (v := v) (C := C) (T := T) (N := N) hx hb hts hin hown hK.1 hP 0 rfl hc k hk (hts _ hlink) (fun _ h9 => h9) hv hdg kk
  · rw [if_neg hkd] at hlink
    exact va_getN (D := D) (ci := ci) (v := v) (C := C) (T := T) (N := N) hx hb hts hin hown hK.1 hP 0 rfl hc k hk (hnw _ hlink) (fun _ h9 => h9) hv hdg kk
end
/-- at this point of the lists' run the machine goes to Q -/
def xG (p : Program) (l : Launch) (e : Env) (R : Room) (s : State) (m : MethodId) (args : Array Value) (below : List Frame) (meth : Method) (c : Code) (Q : State → Prop) (D : va_G) (tA : Nat → ClassId) (old : Nat → Nat) (n0 hb kb nL : Nat) (pc : Nat) (lv : xL) (st : List Value) (h : xH) (ks : Nat) : Prop :=
  ∀ (H : Heap) (locs : List Loc) (ls : Array Slot), H.size = n0 + h.length → xP D tA (xad old n0) h H → va_S (fun q => n0 ≤ q) s.heap H locs → lv_has ls nL (xm (xad old n0) lv) →
    W p l e R s m args below meth c H locs (h.length - hb) (ks - kb) Q (F0 m pc ls (st.map (xv (xad old n0))))
end XQ
end
section
section XI0
theorem xdef_map (ci : Nat) (ad : Nat → Nat) : (xdef ci).map (xv ad) = xdef ci := by
  unfold xdef
  split <;> rfl
theorem xati_ok {aty : ArrayType} {t : Nat} (h : xati aty = some t) : newarray.typeOf aty = xtT t := by
  cases aty <;> simp only [xati, reduceCtorEq, Option.some.injEq] at h <;> subst h <;> rfl
theorem xati_lt {aty : ArrayType} {t : Nat} (h : xati aty = some t) : t < 3 := by
  cases aty <;> simp only [xati, reduceCtorEq, Option.some.injEq] at h <;> omega
theorem xdv_ok {t : Nat} (h : t < 3) : defaultValue (xtT t) = xdv t := by
  match t, h with
  | 0, _ => rfl
  | 1, _ => rfl
  | 2, _ => rfl
theorem xdv_map (ad : Nat → Nat) (t : Nat) : xv ad (xdv t) = xdv t := by
  unfold xdv
  split <;> rfl
theorem xget_ge {h : xH} {a : Nat} {e : xE} {old : Nat → Nat} {n0 : Nat} (hg : xget h a = some e) : n0 ≤ xad old n0 a := by
  obtain ⟨k9, e9, -⟩ := xget_ok hg
  rw [e9, xad_new]
  exact Nat.le_add_right _ _
theorem xtoI (n : Nat) : n.toInt32 = Int32.ofNat n := rfl
theorem xtT_ref {t : Nat} (h : 103 ≤ t ∧ t < 106) : (xtT (t - 100)).isReference = true := by
  obtain ⟨h1, h2⟩ := h
  rcases (show t = 103 ∨ t = 104 ∨ t = 105 by omega) with rfl | rfl | rfl <;> rfl
theorem xvI (ad : Nat → Nat) (x : Int32) : xv ad (.int x) = .int x := rfl
theorem xvL (ad : Nat → Nat) (x : Int64) : xv ad (.long x) = .long x := rfl
theorem xvR (ad : Nat → Nat) (x : Nat) : xv ad (.ref x) = .ref (ad x) := rfl
theorem xnarB (ad : Nat → Nat) (x : Int32) : xv ad (narrow .boolean (.int x)) = narrow .boolean (.int x) := rfl
theorem xcomp_ok {t t2 : Nat} (h : (t = 103 ∧ t2 = 100) ∨ (t = 104 ∧ t2 = 103) ∨ (t = 105 ∧ t2 = 102)) : t2 - 100 = xcomp (t - 100) := by
  rcases h with ⟨rfl, rfl⟩ | ⟨rfl, rfl⟩ | ⟨rfl, rfl⟩ <;> rfl
end XI0
/-! one instruction of the machine, out of one on lists -/
section XI
variable {p : Program} {l : Launch} {e : Env} {R : Room} {s : State} {m : MethodId} {args : Array Value} {below : List Frame} {meth : Method} {c : Code} {Q : State → Prop}
set_option maxHeartbeats 4000000 in
set_option maxRecDepth 100000 in
theorem x_step {cc : ByteArray} {D : va_G} {tA : Nat → ClassId} {old : Nat → Nat} {n0 hb kb nL o : Nat} {ini : Bool} {sc : Option (List Int32)} {i : Instr} {pc : Nat} {lv : xL} {st : List Value} {h : xH} {ks : Nat} {pc' : Nat} {lv' : xL} {st' : List Value} {h' : xH} {ks' : Nat}
    (hx : p.tables.exec = Jvm.exec) (hb9 : c.code = cc) (hown : s.vm.findClass (xown o) = some m.cls) (hts : ∀ w ∈ xgw, w.before args s = true) (hnw : ∀ w ∈ xnw, w.before args s = true) (hK : xK D tA s) (hX : xX sc old n0 s)
    (hini : ini = true → meth.name = "<init>") (hac : ∀ t, t < 3 → (Jvm.Cond.arrayClass (xtT t)).before args s = true) (hlb : hb ≤ h.length) (hkb : kb ≤ ks) (hn0 : n0 ≤ s.heap.size)
    (hd : ∃ len, decode cc pc = .ok (i, len) ∧ (xlen i = 0 ∨ len = xlen i))
    (he : xstep o nL ini sc i pc lv st h ks = some (pc', lv', st', h', ks'))
    (hRc : h'.length - hb ≤ R.cells) (hRs : ks' - kb ≤ R.slots)
    (kk : xG p l e R s m args below meth c Q D tA old n0 hb kb nL pc' lv' st' h' ks') : xG p l e R s m args below meth c Q D tA old n0 hb kb nL pc lv st h ks := by
  intro H locs ls hz hP hS hl
  cases i
  case iconst n =>
    have hd1 := xdl hd rfl
    simp only [xstep] at he
    cases he
    exact lv_iconst hx hb9 hd1 rfl (kk H locs ls hz hP hS hl)
  case bipush n =>
    have hd1 := xdl hd rfl
    simp only [xstep] at he
    cases he
    exact lv_bipush hx hb9 hd1 rfl (kk H locs ls hz hP hS hl)
  case sipush n =>
    have hd1 := xdl hd rfl
    simp only [xstep] at he
    cases he
    exact lv_sipush hx hb9 hd1 rfl (kk H locs ls hz hP hS hl)
  case lconst n =>
    have hd1 := xdl hd rfl
    simp only [xstep] at he
    cases he
    exact lv_lconst hx hb9 hd1 rfl (kk H locs ls hz hP hS hl)
  case aconst_null =>
    have hd1 := xdl hd rfl
    simp only [xstep] at he
    cases he
    exact lv_null hx hb9 hd1 (kk H locs ls hz hP hS hl)
  case dconst n =>
    have hd1 := xdl hd rfl
    simp only [xstep] at he
    cases he
    by_cases hn : n = 0
    · subst hn
      exact lv_dconst0 hx hb9 hd1 (kk H locs ls hz hP hS hl)
    · have : n = 1 := by omega
      subst this
      exact lv_dconst1 hx hb9 hd1 (kk H locs ls hz hP hS hl)
  case ldc x =>
    have hd1 := xdl hd rfl
    simp only [xstep] at he
    split at he
    · rename_i hf
      cases he
      exact lv_ldc hx hb9 hown (hts _ (xcon_ok hf)) hd1 (kk H locs ls hz hP hS hl)
    · cases he
  case ldc_w x =>
    have hd1 := xdl hd rfl
    simp only [xstep] at he
    split at he
    · rename_i hf
      cases he
      exact lv_ldcw hx hb9 hown (hts _ (xcon_ok hf)) hd1 (kk H locs ls hz hP hS hl)
    · cases he
  case ldc2_w x =>
    have hd1 := xdl hd rfl
    simp only [xstep] at he
    split at he
    · rename_i hf
      cases he
      exact lv_ldc2 hx hb9 hown (hts _ (xcol_ok hf)) hd1 (kk H locs ls hz hP hS hl)
    · cases he
  case iload_n k =>
    have hd1 := xdl hd rfl
    simp only [xstep] at he
    split at he
    · rename_i hf
      cases he
      exact lv_iload_n hx hb9 hd1 rfl (xlk_has hf hl) (kk H locs ls hz hP hS hl)
    · cases he
  case iload k =>
    have hd1 := xdl hd rfl
    simp only [xstep] at he
    split at he
    · rename_i hf
      cases he
      exact lv_iload hx hb9 hd1 (xlk_has hf hl) (kk H locs ls hz hP hS hl)
    · cases he
  case lload_n k =>
    have hd1 := xdl hd rfl
    simp only [xstep] at he
    split at he
    · rename_i hf
      cases he
      exact lv_lload_n hx hb9 hd1 rfl (xlk_has hf hl) (kk H locs ls hz hP hS hl)
    · cases he
  case lload k =>
    have hd1 := xdl hd rfl
    simp only [xstep] at he
    split at he
    · rename_i hf
      cases he
      exact lv_lload hx hb9 hd1 (xlk_has hf hl) (kk H locs ls hz hP hS hl)
    · cases he
  case dload k =>
    have hd1 := xdl hd rfl
    simp only [xstep] at he
    split at he
    · rename_i hf
      cases he
      exact lv_dload hx hb9 hd1 (xlk_has hf hl) (kk H locs ls hz hP hS hl)
    · cases he
  case aload_n k =>
    have hd1 := xdl hd rfl
    simp only [xstep] at he
    split at he
    · rename_i hf
      cases he
      exact lv_aload_n hx hb9 hd1 rfl (xlk_has hf hl) (kk H locs ls hz hP hS hl)
    · cases he
  case aload k =>
    have hd1 := xdl hd rfl
    simp only [xstep] at he
    split at he
    · rename_i hf
      cases he
      exact lv_aload hx hb9 hd1 (xlk_has hf hl) (kk H locs ls hz hP hS hl)
    · cases he
  case istore_n k =>
    have hd1 := xdl hd rfl
    simp only [xstep] at he
    split at he
    · split at he
      · rename_i hk
        cases he
        exact lv_istore_n hx hb9 hd1 rfl hl hk (xs1_m _ (.int _) lv (xad old n0)) (fun ls' hl' => kk H locs ls' hz hP hS hl')
      · cases he
    · cases he
  case istore k =>
    have hd1 := xdl hd rfl
    simp only [xstep] at he
    split at he
    · split at he
      · rename_i hk
        cases he
        exact lv_istore hx hb9 hd1 hl hk (xs1_m _ (.int _) lv (xad old n0)) (fun ls' hl' => kk H locs ls' hz hP hS hl')
      · cases he
    · cases he
  case astore_n k =>
    have hd1 := xdl hd rfl
    simp only [xstep] at he
    split at he
    · split at he
      · rename_i hk
        cases he
        exact lv_astore_n hx hb9 hd1 rfl hl hk (xs1_m _ (.ref _) lv (xad old n0)) (fun ls' hl' => kk H locs ls' hz hP hS hl')
      · cases he
    · cases he
  case astore k =>
    have hd1 := xdl hd rfl
    simp only [xstep] at he
    split at he
    · split at he
      · rename_i hk
        cases he
        exact lv_astore hx hb9 hd1 hl hk (xs1_m _ (.ref _) lv (xad old n0)) (fun ls' hl' => kk H locs ls' hz hP hS hl')
      · cases he
    · cases he
  case lstore_n k =>
    have hd1 := xdl hd rfl
    simp only [xstep] at he
    split at he
    · split at he
      · rename_i hk
        cases he
        exact lv_lstore_n hx hb9 hd1 rfl hl hk (xs2_m _ (.long _) lv (xad old n0)) (fun ls' hl' => kk H locs ls' hz hP hS hl')
      · cases he
    · cases he
  case lstore k =>
    have hd1 := xdl hd rfl
    simp only [xstep] at he
    split at he
    · split at he
      · rename_i hk
        cases he
        exact lv_lstore hx hb9 hd1 hl hk (xs2_m _ (.long _) lv (xad old n0)) (fun ls' hl' => kk H locs ls' hz hP hS hl')
      · cases he
    · cases he
  case dstore k =>
    have hd1 := xdl hd rfl
    simp only [xstep] at he
    split at he
    · split at he
      · rename_i hk
        cases he
        exact lv_dstore hx hb9 hd1 hl hk (xs2_m _ (.double _) lv (xad old n0)) (fun ls' hl' => kk H locs ls' hz hP hS hl')
      · cases he
    · cases he
  case iinc k n =>
    have hd1 := xdl hd rfl
    simp only [xstep] at he
    split at he
    · rename_i hf
      split at he
      · rename_i hk
        cases he
        obtain ⟨j, hj⟩ := xlk_at (ad := xad old n0) hf
        exact lv_iinc hx hb9 hd1 hl hj rfl hk (xs1_m _ (.int _) lv (xad old n0)) (fun ls' hl' => kk H locs ls' hz hP hS hl')
      · cases he
    · cases he
  case iadd =>
    have hd1 := xdl hd rfl
    simp only [xstep] at he
    split at he
    · cases he
      exact lv_iadd hx hb9 hd1 (kk H locs ls hz hP hS hl)
    · cases he
  case isub =>
    have hd1 := xdl hd rfl
    simp only [xstep] at he
    split at he
    · cases he
      exact lv_isub hx hb9 hd1 (kk H locs ls hz hP hS hl)
    · cases he
  case imul =>
    have hd1 := xdl hd rfl
    simp only [xstep] at he
    split at he
    · cases he
      exact lv_imul hx hb9 hd1 (kk H locs ls hz hP hS hl)
    · cases he
  case ineg =>
    have hd1 := xdl hd rfl
    simp only [xstep] at he
    split at he
    · cases he
      exact lv_ineg hx hb9 hd1 (kk H locs ls hz hP hS hl)
    · cases he
  case iand =>
    have hd1 := xdl hd rfl
    simp only [xstep] at he
    split at he
    · cases he
      exact lv_iand hx hb9 hd1 (kk H locs ls hz hP hS hl)
    · cases he
  case ior =>
    have hd1 := xdl hd rfl
    simp only [xstep] at he
    split at he
    · cases he
      exact lv_ior hx hb9 hd1 (kk H locs ls hz hP hS hl)
    · cases he
  case ixor =>
    have hd1 := xdl hd rfl
    simp only [xstep] at he
    split at he
    · cases he
      exact lv_ixor hx hb9 hd1 (kk H locs ls hz hP hS hl)
    · cases he
  case ishl =>
    have hd1 := xdl hd rfl
    simp only [xstep] at he
    split at he
    · cases he
      exact lv_ishl hx hb9 hd1 (kk H locs ls hz hP hS hl)
    · cases he
  case ishr =>
    have hd1 := xdl hd rfl
    simp only [xstep] at he
    split at he
    · cases he
      exact lv_ishr hx hb9 hd1 (kk H locs ls hz hP hS hl)
    · cases he
  case ladd =>
    have hd1 := xdl hd rfl
    simp only [xstep] at he
    split at he
    · cases he
      exact lv_ladd hx hb9 hd1 (kk H locs ls hz hP hS hl)
    · cases he
  case lmul =>
    have hd1 := xdl hd rfl
    simp only [xstep] at he
    split at he
    · cases he
      exact lv_lmul hx hb9 hd1 (kk H locs ls hz hP hS hl)
    · cases he
  case idiv =>
    have hd1 := xdl hd rfl
    simp only [xstep] at he
    split at he
    · split at he
      · cases he
      · rename_i hne
        cases he
        exact lv_idiv hx hb9 hd1 hne (kk H locs ls hz hP hS hl)
    · cases he
  case irem =>
    have hd1 := xdl hd rfl
    simp only [xstep] at he
    split at he
    · split at he
      · cases he
      · rename_i hne
        cases he
        exact lv_irem hx hb9 hd1 hne (kk H locs ls hz hP hS hl)
    · cases he
  case iushr =>
    have hd1 := xdl hd rfl
    simp only [xstep] at he
    split at he
    · cases he
      exact lv_iushr hx hb9 hd1 rfl (kk H locs ls hz hP hS hl)
    · cases he
  case i2l =>
    have hd1 := xdl hd rfl
    simp only [xstep] at he
    split at he
    · cases he
      exact lv_i2l hx hb9 hd1 rfl (kk H locs ls hz hP hS hl)
    · cases he
  case lcmp =>
    have hd1 := xdl hd rfl
    simp only [xstep] at he
    split at he
    · cases he
      exact W.lcmp hx hb9 hd1 (kk H locs ls hz hP hS hl)
    · cases he
  case dcmp op =>
    have hd1 := xdl hd rfl
    simp only [xstep] at he
    split at he
    · cases he
      exact lv_dcmp hx hb9 hd1 (kk H locs ls hz hP hS hl)
    · cases he
  case dup =>
    have hd1 := xdl hd rfl
    simp only [xstep] at he
    split at he
    · split at he
      · rename_i hc
        cases he
        exact lv_dup hx hb9 hd1 (by rw [xv_cat]; exact hc) (kk H locs ls hz hP hS hl)
      · cases he
    · cases he
  case pop =>
    have hd1 := xdl hd rfl
    simp only [xstep] at he
    split at he
    · split at he
      · rename_i hc
        cases he
        exact lv_pop hx hb9 hd1 (by rw [xv_cat]; exact hc) (kk H locs ls hz hP hS hl)
      · cases he
    · cases he
  case dup_x1 =>
    have hd1 := xdl hd rfl
    simp only [xstep] at he
    split at he
    · split at he
      · rename_i hc
        split at he
        · rename_i hc2
          cases he
          exact lv_dup_x1 hx hb9 hd1 (by rw [xv_cat]; exact hc) (by rw [xv_cat]; exact hc2) (kk H locs ls hz hP hS hl)
        · cases he
      · cases he
    · cases he
  case dup2 =>
    have hd1 := xdl hd rfl
    simp only [xstep] at he
    split at he
    · split at he
      · rename_i hc
        split at he
        · rename_i hc2
          cases he
          exact lv_dup2_11 hx hb9 hd1 (by rw [xv_cat]; exact hc) (by rw [xv_cat]; exact hc2) (kk H locs ls hz hP hS hl)
        · cases he
      · cases he
    · cases he
  case if_icmp cd off =>
    have hd1 := xdl hd rfl
    simp only [xstep] at he
    split at he
    · split at he
      · rename_i ht
        cases cd
        case eq =>
          refine lv_icmp_eq hx hb9 hd1 (xj_eq ht) (fun hc => ?_) (fun hc => ?_)
          · simp only [xcmp, hc, decide_true, decide_false, Bool.not_false, Bool.not_true, not_false_eq_true, cond_true, cond_false] at he
            cases he
            exact kk H locs ls hz hP hS hl
          · simp only [xcmp, hc, decide_true, decide_false, Bool.not_false, Bool.not_true, not_false_eq_true, cond_true, cond_false] at he
            cases he
            exact kk H locs ls hz hP hS hl
        case ne =>
          refine lv_icmp_ne hx hb9 hd1 (xj_eq ht) (fun hc => ?_) (fun hc => ?_)
          · simp only [xcmp, hc, decide_true, decide_false, Bool.not_false, Bool.not_true, not_false_eq_true, cond_true, cond_false] at he
            cases he
            exact kk H locs ls hz hP hS hl
          · simp only [xcmp, hc, decide_true, decide_false, Bool.not_false, Bool.not_true, not_false_eq_true, cond_true, cond_false] at he
            cases he
            exact kk H locs ls hz hP hS hl
        case lt =>
          refine lv_icmp_lt hx hb9 hd1 (xj_eq ht) (fun hc => ?_) (fun hc => ?_)
          · simp only [xcmp, hc, decide_true, decide_false, Bool.not_false, Bool.not_true, not_false_eq_true, cond_true, cond_false] at he
            cases he
            exact kk H locs ls hz hP hS hl
          · simp only [xcmp, hc, decide_true, decide_false, Bool.not_false, Bool.not_true, not_false_eq_true, cond_true, cond_false] at he
            cases he
            exact kk H locs ls hz hP hS hl
        case ge =>
          refine lv_icmp_ge hx hb9 hd1 (xj_eq ht) (fun hc => ?_) (fun hc => ?_)
          · simp only [xcmp, hc, decide_true, decide_false, Bool.not_false, Bool.not_true, not_false_eq_true, cond_true, cond_false] at he
            cases he
            exact kk H locs ls hz hP hS hl
          · simp only [xcmp, hc, decide_true, decide_false, Bool.not_false, Bool.not_true, not_false_eq_true, cond_true, cond_false] at he
            cases he
            exact kk H locs ls hz hP hS hl
        case gt =>
          refine lv_icmp_gt hx hb9 hd1 (xj_eq ht) (fun hc => ?_) (fun hc => ?_)
          · simp only [xcmp, hc, decide_true, decide_false, Bool.not_false, Bool.not_true, not_false_eq_true, cond_true, cond_false] at he
            cases he
            exact kk H locs ls hz hP hS hl
          · simp only [xcmp, hc, decide_true, decide_false, Bool.not_false, Bool.not_true, not_false_eq_true, cond_true, cond_false] at he
            cases he
            exact kk H locs ls hz hP hS hl
        case le =>
          refine lv_icmp_le hx hb9 hd1 (xj_eq ht) (fun hc => ?_) (fun hc => ?_)
          · simp only [xcmp, hc, decide_true, decide_false, Bool.not_false, Bool.not_true, not_false_eq_true, cond_true, cond_false] at he
            cases he
            exact kk H locs ls hz hP hS hl
          · simp only [xcmp, hc, decide_true, decide_false, Bool.not_false, Bool.not_true, not_false_eq_true, cond_true, cond_false] at he
            cases he
            exact kk H locs ls hz hP hS hl
      · cases he
    · cases he
  case ifCond cd off =>
    have hd1 := xdl hd rfl
    simp only [xstep] at he
    split at he
    · split at he
      · rename_i ht
        cases cd
        case eq =>
          refine lv_if_eq hx hb9 hd1 (xj_eq ht) (fun hc => ?_) (fun hc => ?_)
          · simp only [xcmp, hc, decide_true, decide_false, Bool.not_false, Bool.not_true, not_false_eq_true, cond_true, cond_false] at he
            cases he
            exact kk H locs ls hz hP hS hl
          · simp only [xcmp, hc, decide_true, decide_false, Bool.not_false, Bool.not_true, not_false_eq_true, cond_true, cond_false] at he
            cases he
            exact kk H locs ls hz hP hS hl
        case ne =>
          refine lv_if_ne hx hb9 hd1 (xj_eq ht) (fun hc => ?_) (fun hc => ?_)
          · simp only [xcmp, hc, decide_true, decide_false, Bool.not_false, Bool.not_true, not_false_eq_true, cond_true, cond_false] at he
            cases he
            exact kk H locs ls hz hP hS hl
          · simp only [xcmp, hc, decide_true, decide_false, Bool.not_false, Bool.not_true, not_false_eq_true, cond_true, cond_false] at he
            cases he
            exact kk H locs ls hz hP hS hl
        case lt =>
          refine lv_if_lt hx hb9 hd1 (xj_eq ht) (fun hc => ?_) (fun hc => ?_)
          · simp only [xcmp, hc, decide_true, decide_false, Bool.not_false, Bool.not_true, not_false_eq_true, cond_true, cond_false] at he
            cases he
            exact kk H locs ls hz hP hS hl
          · simp only [xcmp, hc, decide_true, decide_false, Bool.not_false, Bool.not_true, not_false_eq_true, cond_true, cond_false] at he
            cases he
            exact kk H locs ls hz hP hS hl
        case ge =>
          refine lv_if_ge hx hb9 hd1 (xj_eq ht) (fun hc => ?_) (fun hc => ?_)
          · simp only [xcmp, hc, decide_true, decide_false, Bool.not_false, Bool.not_true, not_false_eq_true, cond_true, cond_false] at he
            cases he
            exact kk H locs ls hz hP hS hl
          · simp only [xcmp, hc, decide_true, decide_false, Bool.not_false, Bool.not_true, not_false_eq_true, cond_true, cond_false] at he
            cases he
            exact kk H locs ls hz hP hS hl
        case gt =>
          refine lv_if_gt hx hb9 hd1 (xj_eq ht) (fun hc => ?_) (fun hc => ?_)
          · simp only [xcmp, hc, decide_true, decide_false, Bool.not_false, Bool.not_true, not_false_eq_true, cond_true, cond_false] at he
            cases he
            exact kk H locs ls hz hP hS hl
          · simp only [xcmp, hc, decide_true, decide_false, Bool.not_false, Bool.not_true, not_false_eq_true, cond_true, cond_false] at he
            cases he
            exact kk H locs ls hz hP hS hl
        case le =>
          refine lv_if_le hx hb9 hd1 (xj_eq ht) (fun hc => ?_) (fun hc => ?_)
          · simp only [xcmp, hc, decide_true, decide_false, Bool.not_false, Bool.not_true, not_false_eq_true, cond_true, cond_false] at he
            cases he
            exact kk H locs ls hz hP hS hl
          · simp only [xcmp, hc, decide_true, decide_false, Bool.not_false, Bool.not_true, not_false_eq_true, cond_true, cond_false] at he
            cases he
            exact kk H locs ls hz hP hS hl
      · cases he
    · cases he
  case goto off =>
    have hd1 := xdl hd rfl
    simp only [xstep] at he
    split at he
    · rename_i ht
      cases he
      exact lv_goto hx hb9 hd1 (xj_eq ht) (kk H locs ls hz hP hS hl)
    · cases he
  case tableswitch d lo hi offs =>
    obtain ⟨len, hd1, -⟩ := hd
    simp only [xstep] at he
    split at he
    · split at he
      · rename_i hlo
        split at he
        · rename_i ht
          cases he
          exact lv_tableOut hx hb9 hd1 (Or.inl hlo) (xj_eq ht) (kk H locs ls hz hP hS hl)
        · cases he
      · rename_i hlo
        split at he
        · rename_i hhi
          split at he
          · rename_i ht
            cases he
            exact lv_tableOut hx hb9 hd1 (Or.inr hhi) (xj_eq ht) (kk H locs ls hz hP hS hl)
          · cases he
        · rename_i hhi
          split at he
          · rename_i ho
            split at he
            · rename_i ht
              cases he
              exact lv_tableIn hx hb9 hd1 hlo hhi ho (xj_eq ht) (kk H locs ls hz hP hS hl)
            · cases he
          · cases he
    · cases he
  case lookupswitch d ps =>
    obtain ⟨len, hd1, -⟩ := hd
    simp only [xstep] at he
    split at he
    · cases hq : (ps.toList.zip (ps.toList.drop 1)).all (fun (a, next) => a.1 < next.1) with
      | false => rw [hq] at he; cases he
      | true =>
        rw [hq] at he
        simp only [cond_true] at he
        split at he
        · rename_i ht
          cases he
          exact lv_lookup hx hb9 hd1 hq rfl (xj_eq ht) (kk H locs ls hz hP hS hl)
        · cases he
    · cases he
  case getfield x =>
    have hd1 := xdl hd rfl
    simp only [xstep] at he
    split at he
    · split at he
      · rename_i hf
        split at he
        · rename_i hg
          split at he
          · rename_i hci
            split at he
            · rename_i hv
              cases he
              subst hci
              obtain ⟨C, T, N, hc, -, -⟩ := xfld_ok hf
              have hlt : _ < 100 := Nat.lt_of_lt_of_le (List.getElem?_eq_some_iff.mp hc).1 (by decide)
              exact x_gf hx hb9 hown hts hnw hK hf (xP_obj hP hg hlt) (by rw [List.getElem?_map, hv]; rfl) hd1 (kk H locs ls hz hP hS hl)
            · cases he
          · cases he
        · cases he
      · cases he
    · cases he
  case putfield x =>
    have hd1 := xdl hd rfl
    simp only [xstep] at he
    split at he
    · split at he
      · rename_i hf
        split at he
        · rename_i hg
          split at he
          · rename_i hc
            split at he
            · rename_i hcnd
              obtain ⟨hci, hkl, hn, hfit, hfin⟩ := hcnd
              cases he
              subst hci
              have hlt : _ < 100 := Nat.lt_of_lt_of_le (List.getElem?_eq_some_iff.mp hc).1 (by decide)
              refine x_put hx hb9 hown hts hnw hK hc hf (xP_obj hP hg hlt) (by rw [List.length_map]; exact hkl) (xnar hn) (by rw [xfit]; exact hfit) (hfin.imp id (fun q => ⟨hini q.1, q.2⟩)) hd1 (fun H1 i9 h1 h2 h3 => ?_)
              have hge := xget_ge (old := old) (n0 := n0) hg
              have hk := kk H1 (locs ++ [⟨_, i9⟩]) ls (by rw [h2, hz]; unfold xset; rw [List.length_set]) (xP_set hP hg (by unfold xcell; rw [if_pos hlt]; rw [← List.map_set] at h1; exact h1) h3) (hS.put h2 h3 hge) hl
              unfold xset at hk
              rw [List.length_set] at hk
              exact hk
            · cases he
          · cases he
        · cases he
      · cases he
    · cases he
  case new x =>
    have hd1 := xdl hd rfl
    simp only [xstep] at he
    split at he
    · rename_i ci r hf
      split at he
      · rename_i C T N hc
        split at he
        · rename_i hN
          cases he
          obtain ⟨w1, w2, w3⟩ := xnew_ok hf hc hN
          obtain ⟨hin, hty, -, hdf, hdl⟩ := xcls_ok hc
          have hKn := hK.1.1 _ _ hc
          have hlt : _ < 100 := Nat.lt_of_lt_of_le (List.getElem?_eq_some_iff.mp hc).1 (by decide)
          rw [List.length_append, List.length_singleton] at hRc
          refine W.newcK hx hb9 hown (hts _ w1) (hts _ w2) (hts _ w3) rfl hd1 (by omega) (by omega) hKn.2.1 rfl fun H1 kC hkC e1 z1 o1 => ?_
          have hk := kk H1 locs ls (by rw [z1, hz, List.length_append, List.length_singleton]; omega) (xP_push hP hz (by
              unfold xcell
              rw [if_pos hlt]
              show va_at D xcl (H.size, .inr (ci, (xdef ci).map (xv (xad old n0)))) H1
              rw [xdef_map]
              exact ⟨_, hc, (u_born _ hts hin hKn hkC e1 hty).to hdf⟩) o1) ⟨Nat.le_trans hS.1 (by omega), fun q h1 h2 => (o1 q (Nat.lt_of_lt_of_le h1 hS.1)).trans (hS.2.1 q h1 h2), hS.2.2⟩ hl
          rw [List.length_append, List.length_singleton, show h.length + 1 - hb = h.length - hb + 1 by omega, show ks + N - kb = ks - kb + N by omega] at hk
          simp only [List.map_cons, xv] at hk
          rw [xad_new, ← hz] at hk
          exact hk
        · cases he
      · cases he
    · cases he
  case newarray aty =>
    have hd1 := xdl hd rfl
    simp only [xstep] at he
    split at he
    · rename_i n st1
      split at he
      · rename_i t hf
        split at he
        · cases he
        · rename_i hn
          split at he
          · rename_i hby
            cases he
            rw [List.length_append, List.length_singleton] at hRc
            have hty := xati_ok hf
            have ht3 := xati_lt hf
            refine W.newa hx hb9 (by rw [hty]; exact hac _ ht3) rfl hd1 rfl hn (by rw [hty]; exact hby) (by omega) (by omega) fun cA kA comp f1 f2 f3 => ?_
            have ecA : cA = tA t := by
              have := (hK.2 t (by omega)).1
              rw [hty] at f1
              exact Option.some.inj (f1.symm.trans this)
            have hk := kk (H.push { cls := cA, slots := Array.replicate n.toNatClampNeg (defaultValue (newarray.typeOf aty)), vm := .none }) locs ls (by rw [Array.size_push, hz, List.length_append, List.length_singleton]; omega) (xP_push hP hz (by
                unfold xcell
                rw [if_neg (by omega), Nat.add_sub_cancel_left, ← ecA, hty, xdv_ok ht3, List.map_replicate, xdv_map, List.toArray_replicate]
                simp) (fun q hq => by rw [Array.getElem?_push, if_neg (Nat.ne_of_lt hq)])) ⟨Nat.le_trans hS.1 (by rw [Array.size_push]; omega), fun q h1 h2 => by rw [Array.getElem?_push, if_neg (by have := hS.1; omega)]; exact hS.2.1 q h1 h2, hS.2.2⟩ hl
            rw [List.length_append, List.length_singleton, show h.length + 1 - hb = h.length - hb + 1 by omega, show ks + n.toNatClampNeg - kb = ks - kb + n.toNatClampNeg by omega] at hk
            simp only [List.map_cons, xv] at hk
            rw [xad_new, ← hz] at hk
            exact hk
          · cases he
      · cases he
    · cases he
  case arraylength =>
    have hd1 := xdl hd rfl
    simp only [xstep] at he
    split at he
    · split at he
      · rename_i hg
        split at he
        · rename_i ht
          cases he
          exact W.alen hx hb9 (xP_arr hP hg ht.1) (xIsA hK (by omega)) (by simp [xtoI]) rfl rfl hd1 (kk H locs ls hz hP hS hl)
        · cases he
      · split at he
        · rename_i hg
          split at he
          · rename_i ha
            cases he
            subst ha
            exact va_slen hx hb9 hX.1 (Nat.lt_of_lt_of_le hX.2 hn0) (Nat.not_le.mpr hX.2) hS hd1 (kk H locs ls hz hP hS hl)
          · cases he
        · cases he
    · cases he
  case iaload =>
    have hd1 := xdl hd rfl
    simp only [xstep] at he
    split at he
    · split at he
      · rename_i hg
        split at he
        · rename_i ht
          subst ht
          split at he
          · rename_i hi
            split at he
            · rename_i hv
              cases he
              obtain ⟨hin, hik⟩ := xix_in hi
              exact W.iald hx hb9 (xP_arr hP hg (by omega)) (xIsA (t := 0) hK (by omega)) (by intro q; cases q) (by simpa using hin) (by simp [hik, hv]) rfl rfl hd1 (kk H locs ls hz hP hS hl)
            · cases he
          · cases he
        · cases he
      · split at he
        · split at he
          · rename_i ha
            split at he
            · rename_i hi
              cases he
              subst ha
              obtain ⟨hin, hik⟩ := xix_in hi
              subst hik
              exact va_sld hx hb9 hX.1 (Nat.lt_of_lt_of_le hX.2 hn0) (Nat.not_le.mpr hX.2) hS hin hd1 (kk H locs ls hz hP hS hl)
            · cases he
          · cases he
        · cases he
    · cases he
  case laload =>
    have hd1 := xdl hd rfl
    simp only [xstep] at he
    split at he
    · split at he
      · rename_i hg
        split at he
        · rename_i ht
          subst ht
          split at he
          · rename_i hi
            split at he
            · rename_i hv
              cases he
              obtain ⟨hin, hik⟩ := xix_in hi
              exact W.lald hx hb9 (xP_arr hP hg (by omega)) (xIsA (t := 1) hK (by omega)) (by intro q; cases q) (by simpa using hin) (by simp [hik, hv]) rfl rfl hd1 (kk H locs ls hz hP hS hl)
            · cases he
          · cases he
        · cases he
      · cases he
    · cases he
  case baload =>
    have hd1 := xdl hd rfl
    simp only [xstep] at he
    split at he
    · split at he
      · rename_i hg
        split at he
        · rename_i ht
          subst ht
          split at he
          · rename_i hi
            split at he
            · rename_i hv
              cases he
              obtain ⟨hin, hik⟩ := xix_in hi
              exact W.zald hx hb9 (xP_arr hP hg (by omega)) (xIsA (t := 2) hK (by omega)) (by intro q; cases q) (by simpa using hin) (by simp [hik, hv]) rfl rfl hd1 (kk H locs ls hz hP hS hl)
            · cases he
          · cases he
        · cases he
      · cases he
    · cases he
  case aaload =>
    have hd1 := xdl hd rfl
    simp only [xstep] at he
    split at he
    · split at he
      · rename_i hg
        split at he
        · rename_i ht
          split at he
          · rename_i hi
            split at he
            · rename_i hv
              cases he
              obtain ⟨hin, hik⟩ := xix_in hi
              exact W.aald hx hb9 (xP_arr hP hg (by omega)) (xIsA hK (by omega)) (xtT_ref ht) (by intro q; cases q) (by simpa using hin) (by simp [hik, hv]) rfl rfl hd1 (kk H locs ls hz hP hS hl)
            · cases he
          · cases he
        · cases he
      · cases he
    · cases he
  case iastore =>
    have hd1 := xdl hd rfl
    simp only [xstep] at he
    split at he
    · rename_i v x a st1
      split at he
      · rename_i hg
        split at he
        · rename_i ht
          subst ht
          split at he
          · rename_i hi
            cases he
            obtain ⟨hin, hik⟩ := xix_in hi
            have hge := xget_ge (old := old) (n0 := n0) hg
            refine W.iast hx hb9 (xP_arr hP hg (by omega)) (xIsA (t := 0) hK (by omega)) (by intro q; cases q) (by simpa using hin) rfl rfl hd1 fun H1 h1 h2 h3 => ?_
            have hk := kk H1 (locs ++ [⟨_, x.toNatClampNeg⟩]) ls (by rw [h2, hz]; unfold xset; rw [List.length_set]) (xP_set hP hg (by
              unfold xcell
              rw [if_neg (by show ¬ (100 : Nat) < 100; omega), h1]
              simp only [List.map_set, xnarB, xvI, xvL]
              simp [Cell.setSlot, hik]) h3) (hS.put h2 h3 hge) hl
            unfold xset at hk
            rw [List.length_set] at hk
            exact hk
          · cases he
        · cases he
      · cases he
    · cases he
  case lastore =>
    have hd1 := xdl hd rfl
    simp only [xstep] at he
    split at he
    · rename_i v x a st1
      split at he
      · rename_i hg
        split at he
        · rename_i ht
          subst ht
          split at he
          · rename_i hi
            cases he
            obtain ⟨hin, hik⟩ := xix_in hi
            have hge := xget_ge (old := old) (n0 := n0) hg
            refine W.last hx hb9 (xP_arr hP hg (by omega)) (xIsA (t := 1) hK (by omega)) (by intro q; cases q) (by simpa using hin) rfl rfl hd1 fun H1 h1 h2 h3 => ?_
            have hk := kk H1 (locs ++ [⟨_, x.toNatClampNeg⟩]) ls (by rw [h2, hz]; unfold xset; rw [List.length_set]) (xP_set hP hg (by
              unfold xcell
              rw [if_neg (by show ¬ (101 : Nat) < 100; omega), h1]
              simp only [List.map_set, xnarB, xvI, xvL]
              simp [Cell.setSlot, hik]) h3) (hS.put h2 h3 hge) hl
            unfold xset at hk
            rw [List.length_set] at hk
            exact hk
          · cases he
        · cases he
      · cases he
    · cases he
  case bastore =>
    have hd1 := xdl hd rfl
    simp only [xstep] at he
    split at he
    · rename_i v x a st1
      split at he
      · rename_i hg
        split at he
        · rename_i ht
          subst ht
          split at he
          · rename_i hi
            cases he
            obtain ⟨hin, hik⟩ := xix_in hi
            have hge := xget_ge (old := old) (n0 := n0) hg
            refine W.zast hx hb9 (xP_arr hP hg (by omega)) (xIsA (t := 2) hK (by omega)) (by intro q; cases q) (by simpa using hin) rfl rfl hd1 fun H1 h1 h2 h3 => ?_
            have hk := kk H1 (locs ++ [⟨_, x.toNatClampNeg⟩]) ls (by rw [h2, hz]; unfold xset; rw [List.length_set]) (xP_set hP hg (by
              unfold xcell
              rw [if_neg (by show ¬ (102 : Nat) < 100; omega), h1]
              simp only [List.map_set, xnarB, xvI, xvL]
              simp [Cell.setSlot, hik]) h3) (hS.put h2 h3 hge) hl
            unfold xset at hk
            rw [List.length_set] at hk
            exact hk
          · cases he
        · cases he
      · cases he
    · cases he
  case aastore =>
    have hd1 := xdl hd rfl
    simp only [xstep] at he
    split at he
    · rename_i v x a st1
      split at he
      · rename_i t vs t2 vs2 hg hg2
        split at he
        · rename_i ht
          split at he
          · rename_i hi
            cases he
            obtain ⟨hin, hik⟩ := xix_in hi
            have hge := xget_ge (old := old) (n0 := n0) hg
            have ht1 : 103 ≤ t ∧ t < 106 := ⟨by omega, by omega⟩
            obtain ⟨-, kA, comp, k1, k2, k3⟩ := hK.2 (t - 100) (by omega)
            have hcomp := k3 (by omega)
            obtain ⟨-, kB, compB, b1, -, -⟩ := hK.2 (xcomp (t - 100)) (by unfold xcomp; split <;> omega)
            have he2 : t2 - 100 = xcomp (t - 100) := xcomp_ok ht
            refine W.aast hx hb9 (xP_arr hP hg (by omega)) (by intro q h; cases h) (by intro h; cases h) k1 k2 (xtT_ref ht1) (by rw [hcomp]; exact b1) ⟨fun q => hin (Or.inl q), by have := fun q => hin (Or.inr q); simpa using this⟩ (xP_arr hP hg2 (by omega)) (by intro q h; cases h) (by rw [he2]; exact b1) (by rw [hcomp, he2]; exact va_asg _ _) rfl rfl hd1 fun H1 h1 h2 h3 => ?_
            have hk := kk H1 (locs ++ [⟨_, x.toNatClampNeg⟩]) ls (by rw [h2, hz]; unfold xset; rw [List.length_set]) (xP_set hP hg (by
              unfold xcell
              rw [if_neg (by show ¬ t < 100; omega), h1]
              simp only [List.map_set, xvR]
              simp [Cell.setSlot, hik]) h3) (hS.put h2 h3 hge) hl
            unfold xset at hk
            rw [List.length_set] at hk
            exact hk
          · cases he
        · cases he
      · cases he
    · cases he
  all_goals (simp only [xstep, reduceCtorEq] at he)
end XI
end
section
/-! a run on lists: instruction by instruction, call by call -/
section XO
/-- how a run ends: the class thrown, if one was; the answer; the cells; how many slots were made -/
abbrev xO : Type := Option Nat × Option Value × xH × Nat
def xexit (μ : Nat) (i : Instr) (st : List Value) : Option (Option Value) := match i, st with
  | .ireturn, [.int v] => match xmr μ with
    | some t => if narrow t (.int v) = .int v then some (some (.int v)) else none
    | none => none
  | .lreturn, [.long v] => if xmr μ = some .long then some (some (.long v)) else none
  | .dreturn, [.double v] => if xmr μ = some .double then some (some (.double v)) else none
  | .areturn, [.ref a] => match xmr μ with
    | some (.object _) => some (some (.ref a))
    | some (.array _) => some (some (.ref a))
    | _ => none
  | .return_, [] => if xmr μ = none then some none else none
  | _, _ => none
def xinv (o μ x : Nat) (st : List Value) : Option (Nat × Nat × List Value × List Value) := match xfnd (xcalT o) x with
  | some (k, μ', _) =>
    if xmn μ' ≤ st.length then
      if k = 2 ∨ k = 3 then
        if ((st.drop (xmn μ')).map fun v => v.category).sum ≤ 8 ∧ xmf μ' + 1 ≤ xmf μ ∧ 8 + (xml μ' + 11) + xmlo μ' ≤ xmlo μ then some (k, μ', (st.take (xmn μ')).reverse, st.drop (xmn μ')) else none
      else match st.drop (xmn μ') with
        | .ref b :: rest => if (rest.map fun v => v.category).sum ≤ 8 ∧ xmf μ' + 1 ≤ xmf μ ∧ 8 + (xml μ' + 11) + xmlo μ' ≤ xmlo μ then some (k, μ', .ref b :: (st.take (xmn μ')).reverse, rest) else none
        | _ => none
    else none
  | none => none
/-- Math's own -/
def xmath (o μ x : Nat) (st : List Value) : Option (Int32 × List Value) := match xfnd (xcalT o) x with
  | some (7, _) => match st with
    | .int y :: .int x :: rest => if (rest.map fun v => v.category).sum + 13 ≤ xmlo μ ∧ 1 ≤ xmf μ then some (if x < y then y else x, rest) else none
    | _ => none
  | some (8, _) => match st with
    | .int y :: .int x :: rest => if (rest.map fun v => v.category).sum + 13 ≤ xmlo μ ∧ 1 ≤ xmf μ then some (if y < x then y else x, rest) else none
    | _ => none
  | some (9, _) => match st with
    | .int x :: rest => if (rest.map fun v => v.category).sum + 13 ≤ xmlo μ ∧ 1 ≤ xmf μ then some (if 0 ≤ x then x else 0 - x, rest) else none
    | _ => none
  | _ => none
/-- the rows of outer arrays -/
def xmk2 (t n k lab : Nat) : xH := (100 + (if t = 0 then 3 else 5), (List.range n).map (fun i => Value.ref (lab + 1 + i))) :: List.replicate n (100 + t, List.replicate k (xdv t))
def xmk3 (n k r lab : Nat) : xH := (104, (List.range n).map (fun i => Value.ref (lab + 1 + i * (1 + k)))) :: (List.range n).flatMap (fun i => xmk2 0 k r (lab + 1 + i * (1 + k)))
def xmul (o x dm : Nat) (st : List Value) (lab : Nat) : Option (List Value × xH × Nat) := match xfnd (xmulT o) x with
  | some (t, _) =>
    if dm = 2 ∧ (t = 3 ∨ t = 5) then match st with
      | .int k :: .int n :: rest => if n < 0 ∨ k < 0 ∨ 1000 < n ∨ 1000 < k then none else some (rest, xmk2 (xcomp t) n.toNatClampNeg k.toNatClampNeg lab, n.toNatClampNeg + n.toNatClampNeg * k.toNatClampNeg)
      | _ => none
    else if dm = 3 ∧ t = 4 then match st with
      | .int r :: .int k :: .int n :: rest => if n < 0 ∨ k < 0 ∨ r < 0 ∨ 1000 < n ∨ 1000 < k ∨ 1000 < r then none else some (rest, xmk3 n.toNatClampNeg k.toNatClampNeg r.toNatClampNeg lab, n.toNatClampNeg + n.toNatClampNeg * (k.toNatClampNeg + k.toNatClampNeg * r.toNatClampNeg))
      | _ => none
    else none
  | none => none
def xrecv (μ' : Nat) (as : List Value) (h : xH) : Bool := match as with
  | .ref b :: _ => match xget h b with
    | some (ci, _) => decide (ci = xmo μ') && Nat.blt ci xNX
    | none => false
  | _ => false
/-- the run of one method, by fuel; 'call' runs the others -/
def xloop (call : Nat → List Value → xH → Nat → Option xO) (sc : Option (List Int32)) (μ o nL : Nat) (ini : Bool) (cod : List (Option Instr)) : Nat → Nat → xL → List Value → xH → Nat → Option xO
  | 0, _, _, _, _, _ => none
  | n + 1, pc, lv, st, h, ks => match cod[pc]? with
    | some (some i) => match i with
      | .ireturn => match xexit μ .ireturn st with | some r => some (none, r, h, ks) | none => none
      | .lreturn => match xexit μ .lreturn st with | some r => some (none, r, h, ks) | none => none
      | .dreturn => match xexit μ .dreturn st with | some r => some (none, r, h, ks) | none => none
      | .areturn => match xexit μ .areturn st with | some r => some (none, r, h, ks) | none => none
      | .return_ => match xexit μ .return_ st with | some r => some (none, r, h, ks) | none => none
      | .invokestatic x => match xmath o μ x st with
        | some (v, rest) => xloop call sc μ o nL ini cod n (pc + 3) lv (.int v :: rest) h ks
        | none => match xinv o μ x st with
          | some (k, μ', as, rest) => if k = 2 then (match call μ' as h ks with
              | some (none, r, h', ks') => xloop call sc μ o nL ini cod n (pc + 3) lv (r.toList ++ rest) h' ks'
              | some (some t, _, h', ks') => some (some t, none, h', ks')
              | none => none) else if k = 3 then (match call μ' as h ks with
              | some (none, r, h', ks') => xloop call sc μ o nL ini cod n (pc + 3) lv (r.toList ++ rest) h' ks'
              | _ => none) else none
          | none => none
      | .invokevirtual x => match xinv o μ x st with
        | some (k, μ', as, rest) => if k = 1 ∧ xrecv μ' as h = true then (match call μ' as h ks with
            | some (none, r, h', ks') => xloop call sc μ o nL ini cod n (pc + 3) lv (r.toList ++ rest) h' ks'
            | some (some t, _, h', ks') => some (some t, none, h', ks')
            | none => none) else none
        | none => none
      | .invokespecial x => match xfnd (xcalT o) x with
        | some (6, _) => match st with
          | .ref _ :: rest => if (rest.map fun v => v.category).sum + 12 ≤ xmlo μ ∧ 1 ≤ xmf μ then xloop call sc μ o nL ini cod n (pc + 3) lv rest h ks else none
          | _ => none
        | _ => match xinv o μ x st with
          | some (k, μ', as, rest) => if (k = 0 ∨ k = 4) ∧ xmr μ' = none ∧ xini μ' = true then (match call μ' as h ks with
              | some (none, r, h', ks') => xloop call sc μ o nL ini cod n (pc + 3) lv (r.toList ++ rest) h' ks'
              | _ => none) else none
          | none => none
      | .multianewarray x dm => match xmul o x dm st (h.length + 4) with
        | some (rest, es, sl) => xloop call sc μ o nL ini cod n (pc + 4) lv (.ref (h.length + 4) :: rest) (h ++ es) (ks + sl)
        | none => none
      | .new x => match xfnd (xthrT μ) pc with
        | some (ci, _) => (match st with
          | [] => some (some ci, none, h ++ [(ci, [])], ks + 6)
          | _ => none)
        | none => match xstep o nL ini sc (.new x) pc lv st h ks with
          | some (pc', lv', st', h', ks') => xloop call sc μ o nL ini cod n pc' lv' st' h' ks'
          | none => none
      | i => match xstep o nL ini sc i pc lv st h ks with
        | some (pc', lv', st', h', ks') => xloop call sc μ o nL ini cod n pc' lv' st' h' ks'
        | none => none
    | _ => none
/-- a call, by the depth of calls; 'F' is the fuel of each -/
def xcall (F : Nat) (sc : Option (List Int32)) : Nat → Nat → List Value → xH → Nat → Option xO
  | 0, _, _, _, _ => none
  | d + 1, μ, as, h, ks => if xcod μ = true ∧ (lg_sl as).length ≤ xml μ then xloop (xcall F sc d) sc μ (xmo μ) (xml μ) (xini μ) (xmc μ) F 0 (lv_args 0 as) [] h ks else none
end XO
end
section
/-! a run on lists grows -/
section XMO
set_option maxHeartbeats 4000000 in
theorem xstep_mono {o nL : Nat} {ini : Bool} {sc : Option (List Int32)} {i : Instr} {pc : Nat} {lv : xL} {st : List Value} {h : xH} {ks : Nat} {pc' : Nat} {lv' : xL} {st' : List Value} {h' : xH} {ks' : Nat}
    (he : xstep o nL ini sc i pc lv st h ks = some (pc', lv', st', h', ks')) : h.length ≤ h'.length ∧ ks ≤ ks' := by
  unfold xstep at he
  simp only [Bool.cond_eq_ite] at he
  repeat' split at he
  all_goals first
    | (cases he; exact ⟨Nat.le_refl _, Nat.le_refl _⟩)
    | (cases he; simp only [xset, List.length_set, List.length_append, List.length_singleton]; omega)
    | cases he
theorem xloop_mono {call : Nat → List Value → xH → Nat → Option xO} (hcall : ∀ μ as h ks out, call μ as h ks = some out → h.length ≤ out.2.2.1.length ∧ ks ≤ out.2.2.2) {sc : Option (List Int32)} {μ o nL : Nat} {ini : Bool} {cod : List (Option Instr)} :
    ∀ (n pc : Nat) (lv : xL) (st : List Value) (h : xH) (ks : Nat) (out : xO), xloop call sc μ o nL ini cod n pc lv st h ks = some out → h.length ≤ out.2.2.1.length ∧ ks ≤ out.2.2.2 := by
  intro n
  induction n with
  | zero => intro pc lv st h ks out he; cases he
  | succ n ih =>
    intro pc lv st h ks out he
    have down : ∀ (pc' : Nat) (lv' : xL) (st' : List Value) (h' : xH) (ks' : Nat), h.length ≤ h'.length → ks ≤ ks' → xloop call sc μ o nL ini cod n pc' lv' st' h' ks' = some out → h.length ≤ out.2.2.1.length ∧ ks ≤ out.2.2.2 := fun pc' lv' st' h' ks' a b q => by
      have := ih pc' lv' st' h' ks' out q
      exact ⟨Nat.le_trans a this.1, Nat.le_trans b this.2⟩
    unfold xloop at he
    split at he
    · split at he
      · split at he
        · cases he; exact ⟨Nat.le_refl _, Nat.le_refl _⟩
        · cases he
      · split at he
        · cases he; exact ⟨Nat.le_refl _, Nat.le_refl _⟩
        · cases he
      · split at he
        · cases he; exact ⟨Nat.le_refl _, Nat.le_refl _⟩
        · cases he
      · split at he
        · cases he; exact ⟨Nat.le_refl _, Nat.le_refl _⟩
        · cases he
      · split at he
        · cases he; exact ⟨Nat.le_refl _, Nat.le_refl _⟩
        · cases he
      · split at he
        · exact down _ _ _ _ _ (Nat.le_refl _) (Nat.le_refl _) he
        · split at he
          · split at he
            · split at he
              · rename_i hc
                have := hcall _ _ _ _ _ hc
                exact down _ _ _ _ _ this.1 this.2 he
              · rename_i hc
                have := hcall _ _ _ _ _ hc
                cases he
                exact this
              · cases he
            · split at he
              · split at he
                · rename_i hc
                  have := hcall _ _ _ _ _ hc
                  exact down _ _ _ _ _ this.1 this.2 he
                · cases he
              · cases he
          · cases he
      · split at he
        · split at he
          · split at he
            · rename_i hc
              have := hcall _ _ _ _ _ hc
              exact down _ _ _ _ _ this.1 this.2 he
            · rename_i hc
              have := hcall _ _ _ _ _ hc
              cases he
              exact this
            · cases he
          · cases he
        · cases he
      · split at he
        · split at he
          · split at he
            · exact down _ _ _ _ _ (Nat.le_refl _) (Nat.le_refl _) he
            · cases he
          · cases he
        · split at he
          · split at he
            · split at he
              · rename_i hc
                have := hcall _ _ _ _ _ hc
                exact down _ _ _ _ _ this.1 this.2 he
              · cases he
            · cases he
          · cases he
      · split at he
        · exact down _ _ _ _ _ (by rw [List.length_append]; exact Nat.le_add_right _ _) (Nat.le_add_right _ _) he
        · cases he
      · split at he
        · split at he
          · cases he
            exact ⟨by rw [List.length_append]; exact Nat.le_add_right _ _, Nat.le_add_right _ _⟩
          · cases he
        · split at he
          · rename_i hs
            have := xstep_mono hs
            exact down _ _ _ _ _ this.1 this.2 he
          · cases he
      · split at he
        · rename_i hs
          have := xstep_mono hs
          exact down _ _ _ _ _ this.1 this.2 he
        · cases he
    · cases he
theorem xcall_mono {F : Nat} {sc : Option (List Int32)} : ∀ (d μ : Nat) (as : List Value) (h : xH) (ks : Nat) (out : xO), xcall F sc d μ as h ks = some out → h.length ≤ out.2.2.1.length ∧ ks ≤ out.2.2.2 := by
  intro d
  induction d with
  | zero => intro μ as h ks out he; cases he
  | succ d ih =>
    intro μ as h ks out he
    unfold xcall at he
    split at he
    · exact xloop_mono ih _ _ _ _ _ _ _ he
    · cases he
end XMO
end
section
/-! the code lists are the bytes -/
section XDC
def xchk (b : ByteArray) : Nat → List (Option Instr) → Bool
  | _, [] => true
  | pc, none :: r => xchk b (pc + 1) r
  | pc, some i :: r => (match decode b pc with
    | .ok (j, n) => decide (j = i) && (decide (xlen i = 0) || decide (n = xlen i))
    | .error _ => false) && xchk b (pc + 1) r
theorem xchk_ok {b : ByteArray} : ∀ {l : List (Option Instr)} {pc k : Nat} {i : Instr}, xchk b pc l = true → l[k]? = some (some i) → ∃ len, decode b (pc + k) = .ok (i, len) ∧ (xlen i = 0 ∨ len = xlen i)
  | [], _, _, _, _, h => by simp at h
  | none :: r, pc, 0, i, _, h => by simp at h
  | none :: r, pc, k + 1, i, hc, h => by
    have := xchk_ok (l := r) (pc := pc + 1) (k := k) hc (by simpa using h)
    rw [show pc + (k + 1) = pc + 1 + k by omega]
    exact this
  | some j :: r, pc, 0, i, hc, h => by
    simp only [List.getElem?_cons_zero, Option.some.injEq] at h
    subst h
    unfold xchk at hc
    rw [Bool.and_eq_true] at hc
    have hc := hc.1
    split at hc
    · rename_i j2 n hd
      simp only [Bool.and_eq_true, Bool.or_eq_true, decide_eq_true_eq] at hc
      obtain ⟨rfl, h2⟩ := hc
      exact ⟨n, hd, h2⟩
    · cases hc
  | some j :: r, pc, k + 1, i, hc, h => by
    unfold xchk at hc
    rw [Bool.and_eq_true] at hc
    have := xchk_ok (l := r) (pc := pc + 1) (k := k) hc.2 (by simpa using h)
    rw [show pc + (k + 1) = pc + 1 + k by omega]
    exact this
theorem xchk_app {b : ByteArray} : ∀ {l1 l2 : List (Option Instr)} {pc : Nat}, xchk b pc l1 = true → xchk b (pc + l1.length) l2 = true → xchk b pc (l1 ++ l2) = true
  | [], _, pc, _, h => h
  | none :: r, l2, pc, h1, h2 => xchk_app (l1 := r) (pc := pc + 1) h1 (by rw [List.length_cons] at h2; rw [show pc + 1 + r.length = pc + (r.length + 1) by omega]; exact h2)
  | some i :: r, l2, pc, h1, h2 => by
    rw [List.cons_append]
    unfold xchk at h1 ⊢
    rw [Bool.and_eq_true] at h1 ⊢
    exact ⟨h1.1, xchk_app (l1 := r) (pc := pc + 1) h1.2 (by rw [List.length_cons] at h2; rw [show pc + 1 + r.length = pc + (r.length + 1) by omega]; exact h2)⟩
end XDC
end
section
/-! a method: what its run on lists says, the machine does -/
section XLP
/-- the statics that a throw reads, the texts it takes -/
def xZ (n0 : Nat) (U : State) : Prop := vx_Zq Bundle.tN "UNASSIGNED_STACK" Bundle.steD (fun q => n0 ≤ q) U U.heap ∧ vx_Zq Bundle.tN "SUPPRESSED_SENTINEL" Bundle.listD (fun q => n0 ≤ q) U U.heap ∧ ∀ q ∈ xstrT, ∃ sa, vk_R (xown q.1) q.2.1 q.2.2 sa U
def xPc (D : va_G) (tA : Nat → ClassId) (old : Nat → Nat) (n0 : Nat) (sc : Option (List Int32)) (h : xH) (U : State) : Prop :=
  U.heap.size = n0 + h.length ∧ xP D tA (xad old n0) h U.heap ∧ xK D tA U ∧ (∀ w ∈ xnw, va_Nw w U) ∧ xX sc old n0 U ∧ xZ n0 U
def xQc (D : va_G) (tA : Nat → ClassId) (old : Nat → Nat) (n0 : Nat) (out : xO) : Array Value → State → Outcome → State → Prop := fun _ st oc t =>
  (out.1 = none ∧ oc = .returned (out.2.1.map (xv (xad old n0))) ∧ t.heap.size = n0 + out.2.2.1.length ∧ xP D tA (xad old n0) out.2.2.1 t.heap) ∧ va_F (fun q => n0 ≤ q) st t
def xXc (D : va_G) (tA : Nat → ClassId) (old : Nat → Nat) (n0 : Nat) (out : xO) : String → State → State → Prop := fun E st t =>
  ((∃ (ci : Nat) (C : String) (T : u_T) (N : Nat), out.1 = some ci ∧ xcl[ci]? = some (C, T, N) ∧ E = C) ∧ t.heap.size = n0 + out.2.2.1.length ∧ xP D tA (xad old n0) out.2.2.1 t.heap) ∧ va_F (fun q => n0 ≤ q) st t
def xws (μ : Nat) : List Jvm.Cond := .code (xmy μ) (xmb μ) (xml μ) (xmr μ) :: xgw
def xMet (l : Launch) (D : va_G) (tA : Nat → ClassId) (old : Nat → Nat) (n0 : Nat) (sc : Option (List Int32)) (μ : Nat) (as : List Value) (h : xH) (ks : Nat) (out : xO) : Prop :=
  vx_Met l (xmy μ) (xws μ) ({ frames := xmf μ, cells := out.2.2.1.length - h.length, slots := out.2.2.2 - ks, locals := xmlo μ } : Room) (va_Pc (as.map (xv (xad old n0))) (xPc D tA old n0 sc h)) (xQc D tA old n0 out) (xXc D tA old n0 out) (out.2.2.1.length - h.length) (out.2.2.2 - ks) (fun q => n0 ≤ q)
theorem xnw_of {w : Jvm.Cond} (hw : w ∈ xnw) {A : Array Value} {U : State} (h : w.before A U = true) : va_Nw w U := by
  have hb := (List.mem_filter.mp hw).2
  cases w with
  | fieldLinkNest => exact va_Nw.of rfl h
  | methodLinkNest => exact va_Nw.of rfl h
  | castable => exact va_Nw.of rfl h
  | declares => exact va_Nw.of rfl h
  | arrayOver t => exact h
  | _ => cases hb
theorem xnw_use {w : Jvm.Cond} (hw : w ∈ xnw) {A : Array Value} {U : State} (h : va_Nw w U) : w.before A U = true := by
  have hb := (List.mem_filter.mp hw).2
  cases w with
  | fieldLinkNest => exact va_Nw.use rfl h
  | methodLinkNest => exact va_Nw.use rfl h
  | castable => exact va_Nw.use rfl h
  | declares => exact va_Nw.use rfl h
  | arrayOver t => exact h
  | _ => cases hb
theorem xGood {L : List Jvm.Cond} (h : ∀ w ∈ L, w ∈ xgw) : GoodIn xgw L := fun w hw => ⟨h w hw, good_of_word (xgood (h w hw))⟩
theorem xws_in {μ : Nat} (h : xcod μ = true) : ∀ w ∈ xws μ, w ∈ xgw := fun w hw => (List.mem_cons.mp hw).elim (fun e => e ▸ xcod_ok h) id
theorem xK_moved {D : va_G} {tA : Nat → ClassId} {u U : State} (hvm : u.vm.Alike U.vm) (h : xK D tA u) : xK D tA U := by
  refine ⟨va_K.moved hvm h.1, fun t ht => ?_⟩
  obtain ⟨h1, k, comp, h2, h3, h4⟩ := h.2 t ht
  obtain ⟨k', hk', he⟩ := hvm.2.2 _ _ h2
  exact ⟨by rw [hvm.findClass]; exact h1, k', comp, hk', by rw [he]; exact h3, h4⟩
theorem xX_moved {sc : Option (List Int32)} {old : Nat → Nat} {n0 : Nat} {u U : State} (hvm : u.vm.Alike U.vm) (hq : ∀ q : Nat, q < n0 → U.heap[q]? = u.heap[q]?) (h : xX sc old n0 u) : xX sc old n0 U := by
  cases sc with
  | none => trivial
  | some l => exact ⟨va_X.moved hvm (va_X.kept h.1 (hq _ h.2)), h.2⟩
theorem xZ_moved {n0 : Nat} {u U : State} (hW : u.WarmedH U.vm) (hq : ∀ q : Nat, q < u.heap.size → ¬ n0 ≤ q → U.heap[q]? = u.heap[q]?) (h : xZ n0 u) : xZ n0 U :=
  ⟨vx_Zq.moved hW.alike (h.1.kept hq), vx_Zq.moved hW.alike (h.2.1.kept hq), fun q hm => (h.2.2 q hm).imp fun sa hs => vk_R.warm hW hs⟩
theorem xPc_blind {D : va_G} {tA : Nat → ClassId} {old : Nat → Nat} {n0 : Nat} {sc : Option (List Int32)} {h : xH} {av : List Value} : FrameBlind (va_Pc av (xPc D tA old n0 sc h)) := by
  intro a U g mk q
  obtain ⟨q0, q1, q2, q3, q4, q5, q6⟩ := q
  exact ⟨q0, q1, q2, xK_moved (u := U) (U := U.calling g mk a) (Vm.Alike.refl U.vm) q3, fun w hw => xnw_warm hw (s := U) (U := U.calling g mk a) (State.WarmedH.refl U) (q4 w hw), xX_moved (u := U) (U := U.calling g mk a) (Vm.Alike.refl U.vm) (fun _ _ => rfl) q5, xZ_moved (u := U) (U := U.calling g mk a) (State.WarmedH.refl U) (fun _ _ _ => rfl) q6⟩
theorem xcat_m (ad : Nat → Nat) (l : List Value) : ((l.map (xv ad)).map fun v => v.category).sum = (l.map fun v => v.category).sum := by
  rw [List.map_map]
  congr 1
  exact List.map_congr_left fun v _ => xv_cat ad v
theorem xstk {st r : List Value} {n : Nat} {f : Value → Value} (h : st.drop n = r) : st.map f = (((st.take n).reverse).map f).reverse ++ r.map f := by
  rw [← h, List.map_reverse, List.reverse_reverse, ← List.map_append, List.take_append_drop]
section
variable {p : Program} {l : Launch} {e : Env} {R : Room} {s : State} {m : MethodId} {args : Array Value} {below : List Frame} {meth : Method} {c : Code} {H : Heap} {locs : List Loc} {cells slots : Nat} {Q : State → Prop}
/-- the callee's start, out of the caller's -/
theorem xPc_at {D : va_G} {tA : Nat → ClassId} {old : Nat → Nat} {n0 : Nat} {sc : Option (List Int32)} {h : xH} (hnw : ∀ w ∈ xnw, w.before args s = true) (hK : xK D tA s) (hX : xX sc old n0 s) (hZ : xZ n0 s) (hn0 : n0 ≤ s.heap.size)
    (hz : H.size = n0 + h.length) (hP : xP D tA (xad old n0) h H) (hS : va_S (fun q => n0 ≤ q) s.heap H locs) (U : State) (hU : U.heap = H) (hW : s.WarmedH U.vm) : xPc D tA old n0 sc h U := by
  subst hU
  refine ⟨hz, hP, xK_moved hW.alike hK, fun w hw => xnw_warm hw hW ?_, xX_moved hW.alike (fun q hq => hS.2.1 q (Nat.lt_of_lt_of_le hq hn0) (Nat.not_le.mpr hq)) hX, xZ_moved hW hS.2.1 hZ⟩
  exact xnw_of hw (hnw w hw)
/-- a call that returns -/
theorem x_cret {D : va_G} {tA : Nat → ClassId} {old : Nat → Nat} {n0 mc ms pc : Nat} {ls : Array Slot} {st0 rest : List Value} {a : Array Value} {out : xO} {h' : xH} {ks' : Nat} {r : Option Value}
    (hr : vx_Run p l e R s m args below meth c H locs cells slots mc ms (F0 m pc ls st0) rest (xQc D tA old n0 out a) (xXc D tA old n0 out) (fun q => n0 ≤ q)) (ho : out = (none, r, h', ks')) (hS : va_S (fun q => n0 ≤ q) s.heap H locs)
    (kk : ∀ (H1 : Heap) (locs1 : List Loc), H1.size = n0 + h'.length → xP D tA (xad old n0) h' H1 → va_S (fun q => n0 ≤ q) s.heap H1 locs1 → W p l e R s m args below meth c H1 locs1 (cells + mc) (slots + ms) Q (F0 m (pc + 3) ls ((r.toList ++ []).map (xv (xad old n0)) ++ rest))) : W p l e R s m args below meth c H locs cells slots Q (F0 m pc ls st0) := by
  subst ho
  intro T hT X
  rcases hr T hT X with ⟨v, st₀, t, T', L, h0, X', hL, e1, e2, ⟨⟨-, hv, hsz, hp⟩, hF⟩, st⟩ | ⟨q, st₀, t, T', L, E, ce, h0, X', hL, e1, e2, ⟨⟨⟨ci, C, T9, N, hx1, -⟩, -⟩, -⟩, -⟩
  · obtain ⟨k1, k2, k3⟩ := vx_keep h0 e1 hS (fun _ _ h => h) (fun _ h => h) hL hF
    obtain ⟨t2, a1, b1⟩ := kk T'.heap (locs ++ L) (by rw [e1]; exact hsz) (by rw [e1]; exact hp) k3 T' rfl X'
    refine ⟨t2, st t2 ?_, b1⟩
    have hv : v = r.map (xv (xad old n0)) := Outcome.returned.inj hv
    subst hv
    have e : (r.toList ++ []).map (xv (xad old n0)) ++ rest = (r.map (xv (xad old n0))).toList ++ rest := by cases r <;> rfl
    rw [e] at a1
    exact a1
  · cases hx1
/-- a call that throws: it goes on to the caller -/
theorem x_cthr {D : va_G} {tA : Nat → ClassId} {old : Nat → Nat} {n0 mc ms mc2 ms2 pc : Nat} {ls : Array Slot} {st0 rest : List Value} {a : Array Value} {out : xO} {h' : xH} {ks' ci : Nat} {r : Option Value}
    (hr : vx_Run p l e R s m args below meth c H locs cells slots mc ms (F0 m pc ls st0) rest (xQc D tA old n0 out a) (xXc D tA old n0 out) (fun q => n0 ≤ q)) (ho : out = (some ci, r, h', ks')) (hS : va_S (fun q => n0 ≤ q) s.heap H locs)
    (hnoh : ∀ x ∈ c.exceptionTable.toList, False) (hlocks : meth.locks = false) (hc : cells + mc ≤ mc2) (hs : slots + ms ≤ ms2) :
    W p l e R s m args below meth c H locs cells slots (vx_MQ below (xQc D tA old n0 (some ci, none, h', ks')) (xXc D tA old n0 (some ci, none, h', ks')) args s mc2 ms2 (fun q => n0 ≤ q)) (F0 m pc ls st0) := by
  subst ho
  intro T hT X
  rcases hr T hT X with ⟨v, st₀, t, T', L, h0, X', hL, e1, e2, ⟨⟨hv, -⟩, -⟩, -⟩ | ⟨q, st₀, t, T', L, E, ce, h0, X', hL, e1, e2, ⟨⟨⟨ci2, C, T9, N, hx1, hx2, hx3⟩, hsz, hp⟩, hF⟩, hce, hcv, hcl, st⟩
  · cases hv
  · obtain ⟨k1, k2, k3⟩ := vx_keep h0 e1 hS (fun _ _ h => h) (fun _ h => h) hL hF
    have hw := vx_out (p := p) (l := l) (e := e) (R := R) (s := s) (m := m) (args := args) (below := below) (meth := meth) (c := c) (H := T'.heap) (locs := locs ++ L) (cells := cells + mc) (slots := slots + ms) (pc := pc) (ls := ls) (rest := rest) (Qc := xQc D tA old n0 (some ci, none, h', ks')) (XC := xXc D tA old n0 (some ci, none, h', ks')) (free := fun q => n0 ≤ q) (E := E) (ce := ce) (q := q) (mc := mc2) (ms := ms2)
      (fun x hx => (hnoh x hx).elim) hlocks (by rw [e1]; exact hce) hcv hcl (fun t9 ht9 hal => ⟨⟨⟨ci2, C, T9, N, hx1, hx2, hx3⟩, by rw [ht9, e1]; exact hsz, by rw [ht9, e1]; exact hp⟩, va_S.F k3 ht9⟩) k3.2.2 hc hs
    obtain ⟨t2, a1, b1⟩ := hw T' rfl X'
    exact ⟨t2, st.trans a1, b1⟩
end
/-- a callee that throws nothing -/
theorem xMet_plain {l : Launch} {D : va_G} {tA : Nat → ClassId} {old : Nat → Nat} {n0 : Nat} {sc : Option (List Int32)} {μ : Nat} {as : List Value} {h : xH} {ks : Nat} {r : Option Value} {h' : xH} {ks' : Nat} (hm : xMet l D tA old n0 sc μ as h ks (none, r, h', ks')) :
    Met l (xmy μ) (xws μ) ({ frames := xmf μ, cells := h'.length - h.length, slots := ks' - ks, locals := xmlo μ } : Room) (va_Pc (as.map (xv (xad old n0))) (xPc D tA old n0 sc h)) (xQc D tA old n0 (none, r, h', ks')) (h'.length - h.length) (ks' - ks) (fun q => n0 ≤ q) := by
  intro p e ha hc hk s m args below hf happ hP hK
  obtain ⟨n, o, h1, h2, h3, h4⟩ := hm p e ha hc hk s m args below hf happ hP hK
  rcases h4 with h4 | ⟨q, -, E, ce, L, ⟨⟨⟨ci, C, T, N, hx, -⟩, -⟩, -⟩, -⟩
  · exact ⟨n, o, h1, h2, h3, h4⟩
  · cases hx
end XLP
end
section
section XDCs
theorem xdec (μ : Nat) : xchk (xmb μ) 0 (xmc μ) = true := sorry
end XDCs
section XLA
set_option maxRecDepth 100000 in
theorem xarr_all : (List.range 3).all (fun t => lw_tbl.any (fun w => decide (w = Jvm.Cond.arrayClass (xtT t)))) = true := by decide +kernel
theorem xarr_ok {t : Nat} (ht : t < 3) : Jvm.Cond.arrayClass (xtT t) ∈ xgw := by
  obtain ⟨w, hw, he⟩ := List.any_eq_true.mp (List.all_eq_true.mp xarr_all t (List.mem_range.mpr ht))
  have := of_decide_eq_true he
  subst this
  exact List.mem_filter.mpr ⟨hw, rfl⟩
end XLA
end
section
/-! arrays of arrays, two and three deep -/
section XMA
theorem x_outE (c : ClassId) (N h0 : Nat) : ∀ i, Jvm.Free.Multi.outerC c N h0 i = { cls := c, slots := (Jvm.Free.Multi.outerC c N h0 i).slots, vm := .none }
  | 0 => rfl
  | i + 1 => by
    show (Jvm.Free.Multi.outerC c N h0 i).setSlot i _ = _
    rw [x_outE c N h0 i]
    rfl
theorem x_out (c : ClassId) (N h0 : Nat) : Jvm.Free.Multi.outerC c N h0 N = { cls := c, slots := ((List.range N).map (fun j => Value.ref (h0 + 1 + j))).toArray, vm := .none } := by
  rw [x_outE]
  congr 1
  refine Array.ext_getElem? fun j => ?_
  by_cases hj : j < N
  · rw [Jvm.Free.Multi.outerC_slot c N h0 N j hj, if_pos hj]
    simp [hj]
  · rw [Array.getElem?_eq_none (by rw [(Jvm.Free.Multi.outerC_facts c N h0 N).2.2]; omega)]
    simp [hj]
def x_o3 (c : ClassId) (N h0 K : Nat) : Nat → Cell
  | 0 => { cls := c, slots := Array.replicate N .null, vm := .none }
  | i + 1 => (x_o3 c N h0 K i).setSlot i (.ref (h0 + 1 + i * (1 + K)))
def x_f3 (s : State) (c comp cc : ClassId) (N K M : Nat) (dv : Value) : Nat → State
  | 0 => s.pushCell (x_o3 c N s.heap.size K 0)
  | i + 1 => (Jvm.Free.Multi.fill (x_f3 s c comp cc N K M dv i) comp cc K M dv K).setCell s.heap.size (x_o3 c N s.heap.size K (i + 1))
theorem x_o3_facts (c : ClassId) (N h0 K : Nat) : ∀ i, (x_o3 c N h0 K i).cls = c ∧ (x_o3 c N h0 K i).vm = .none ∧ (x_o3 c N h0 K i).slots.size = N
  | 0 => ⟨rfl, rfl, by simp [x_o3]⟩
  | i + 1 => by
    obtain ⟨a, b, d⟩ := x_o3_facts c N h0 K i
    exact ⟨by simp [x_o3, Cell.setSlot, a], by simp [x_o3, Cell.setSlot, b], by simp [x_o3, Cell.setSlot, d]⟩
theorem x_f3_facts (s : State) (c comp cc : ClassId) (N K M : Nat) (dv : Value) : ∀ i, (x_f3 s c comp cc N K M dv i).heap.size = s.heap.size + 1 + i * (1 + K) ∧ (x_f3 s c comp cc N K M dv i).heap[s.heap.size]? = some (x_o3 c N s.heap.size K i) ∧
    (x_f3 s c comp cc N K M dv i).vm = s.vm ∧ (x_f3 s c comp cc N K M dv i).slotsUsed = s.slotsUsed + N + i * (K + K * M)
  | 0 => ⟨by simp [x_f3], by simp [x_f3], rfl, by simp [x_f3, x_o3]⟩
  | i + 1 => by
    obtain ⟨a, b, d, u⟩ := x_f3_facts s c comp cc N K M dv i
    obtain ⟨f1, f2, f3, f4⟩ := Jvm.Free.Multi.fill_facts (x_f3 s c comp cc N K M dv i) comp cc K M dv K
    have hlt : s.heap.size < (x_f3 s c comp cc N K M dv i).heap.size := by omega
    have hb' : (Jvm.Free.Multi.fill (x_f3 s c comp cc N K M dv i) comp cc K M dv K).heap[s.heap.size]? = some (x_o3 c N s.heap.size K i) := by rw [Jvm.Free.Multi.fill_old _ _ _ _ _ _ hlt]; exact b
    have e1 : (i + 1) * (1 + K) = i * (1 + K) + (1 + K) := Nat.succ_mul _ _
    have e2 : (i + 1) * (K + K * M) = i * (K + K * M) + (K + K * M) := Nat.succ_mul _ _
    refine ⟨?_, State.heap_setCell_self hb', by simp [x_f3, f3, d], ?_⟩
    · have e3 : (x_f3 s c comp cc N K M dv (i + 1)).heap.size = (Jvm.Free.Multi.fill (x_f3 s c comp cc N K M dv i) comp cc K M dv K).heap.size := by simp [x_f3, State.setCell]
      rw [e3, f1, a, e1]
      omega
    · have e4 : (x_f3 s c comp cc N K M dv (i + 1)).slotsUsed = (Jvm.Free.Multi.fill (x_f3 s c comp cc N K M dv i) comp cc K M dv K).slotsUsed := by simp [x_f3]
      rw [e4, f4, u, e2]
      omega
theorem x_f3_setTop (s : State) (f : JFrame) (c comp cc : ClassId) (N K M : Nat) (dv : Value) : ∀ i, x_f3 (s.setTop f) c comp cc N K M dv i = (x_f3 s c comp cc N K M dv i).setTop f
  | 0 => rfl
  | i + 1 => by simp only [x_f3, x_f3_setTop s f c comp cc N K M dv i, Jvm.Free.Multi.fill_setTop, State.heap_setTop, State.setCell_setTop]
theorem x_f3_old (s : State) (c comp cc : ClassId) (N K M : Nat) (dv : Value) {a : Addr} (ha : a < s.heap.size) : ∀ i, (x_f3 s c comp cc N K M dv i).heap[a]? = s.heap[a]?
  | 0 => State.heap_pushCell_of_lt _ _ ha
  | i + 1 => by
    have f1 := (x_f3_facts s c comp cc N K M dv i).1
    show ((Jvm.Free.Multi.fill (x_f3 s c comp cc N K M dv i) comp cc K M dv K).setCell s.heap.size _).heap[a]? = _
    rw [State.heap_setCell_other (Nat.ne_of_gt ha), Jvm.Free.Multi.fill_old _ _ _ _ _ _ (Nat.lt_of_lt_of_le ha (by rw [f1, Nat.add_assoc]; exact Nat.le_add_right _ _))]
    exact x_f3_old s c comp cc N K M dv ha i
/-- the middle one number j, and its rows -/
theorem x_f3_mid (s : State) (c comp cc : ClassId) (N K M : Nat) (dv : Value) : ∀ i j, j < i → (x_f3 s c comp cc N K M dv i).heap[s.heap.size + 1 + j * (1 + K)]? = some (Jvm.Free.Multi.outerC comp K (s.heap.size + 1 + j * (1 + K)) K) ∧
    ∀ q, q < K → (x_f3 s c comp cc N K M dv i).heap[s.heap.size + 1 + j * (1 + K) + 1 + q]? = some (Jvm.Free.Multi.innerC cc M dv)
  | 0, _, h => absurd h (Nat.not_lt_zero _)
  | i + 1, j, h => by
    have f1 := (x_f3_facts s c comp cc N K M dv i).1
    have hne : ∀ z : Nat, s.heap.size ≠ s.heap.size + 1 + z := fun z h => by
      have h : (s.heap.size : Nat) = s.heap.size + 1 + z := h
      omega
    have hne2 : ∀ z q : Nat, s.heap.size ≠ s.heap.size + 1 + z + 1 + q := fun z q h => by
      have h : (s.heap.size : Nat) = s.heap.size + 1 + z + 1 + q := h
      omega
    rcases Nat.lt_or_ge j i with hj | hj
    · obtain ⟨h1, h2⟩ := x_f3_mid s c comp cc N K M dv i j hj
      have hle : (j + 1) * (1 + K) ≤ i * (1 + K) := Nat.mul_le_mul_right _ hj
      rw [Nat.succ_mul] at hle
      have b1 : s.heap.size + 1 + j * (1 + K) < (x_f3 s c comp cc N K M dv i).heap.size := by
        rw [f1]
        generalize j * (1 + K) = A at hle ⊢
        generalize i * (1 + K) = B at hle ⊢
        omega
      have b2 : ∀ q, q < K → s.heap.size + 1 + j * (1 + K) + 1 + q < (x_f3 s c comp cc N K M dv i).heap.size := fun q hq => by
        rw [f1]
        generalize j * (1 + K) = A at hle ⊢
        generalize i * (1 + K) = B at hle ⊢
        omega
      refine ⟨?_, fun q hq => ?_⟩
      · show ((Jvm.Free.Multi.fill (x_f3 s c comp cc N K M dv i) comp cc K M dv K).setCell s.heap.size _).heap[_]? = _
        rw [State.heap_setCell_other (hne _), Jvm.Free.Multi.fill_old _ _ _ _ _ _ b1]
        exact h1
      · show ((Jvm.Free.Multi.fill (x_f3 s c comp cc N K M dv i) comp cc K M dv K).setCell s.heap.size _).heap[_]? = _
        rw [State.heap_setCell_other (hne2 _ _), Jvm.Free.Multi.fill_old _ _ _ _ _ _ (b2 q hq)]
        exact h2 q hq
    · have e : j = i := by omega
      subst e
      obtain ⟨-, g2, -, -⟩ := Jvm.Free.Multi.fill_facts (x_f3 s c comp cc N K M dv j) comp cc K M dv K
      refine ⟨?_, fun q hq => ?_⟩
      · show ((Jvm.Free.Multi.fill (x_f3 s c comp cc N K M dv j) comp cc K M dv K).setCell s.heap.size _).heap[_]? = _
        rw [State.heap_setCell_other (hne _), ← f1]
        exact g2
      · show ((Jvm.Free.Multi.fill (x_f3 s c comp cc N K M dv j) comp cc K M dv K).setCell s.heap.size _).heap[_]? = _
        rw [State.heap_setCell_other (hne2 _ _), ← f1]
        exact Jvm.Free.Multi.fill_inner _ _ _ _ _ _ _ _ hq
theorem x_o3_slot (c : ClassId) (N h0 K : Nat) : ∀ i j, j < N → (x_o3 c N h0 K i).slots[j]? = some (if j < i then .ref (h0 + 1 + j * (1 + K)) else .null)
  | 0, j, h => by simp [x_o3, h]
  | i + 1, j, h => by
    have ih := x_o3_slot c N h0 K i j h
    have hs := (x_o3_facts c N h0 K i).2.2
    show ((x_o3 c N h0 K i).setSlot i (.ref (h0 + 1 + i * (1 + K)))).slots[j]? = _
    simp only [Cell.setSlot, Array.getElem?_setIfInBounds]
    by_cases e : i = j
    · subst e; simp [hs, h]
    · rw [if_neg e, ih]
      by_cases hj : j < i
      · rw [if_pos hj, if_pos (by omega)]
      · rw [if_neg hj, if_neg (by omega)]
theorem x_o3E (c : ClassId) (N h0 K : Nat) : ∀ i, x_o3 c N h0 K i = { cls := c, slots := (x_o3 c N h0 K i).slots, vm := .none }
  | 0 => rfl
  | i + 1 => by
    show (x_o3 c N h0 K i).setSlot i _ = _
    rw [x_o3E c N h0 K i]
    rfl
theorem x_o3o (c : ClassId) (N h0 K : Nat) : x_o3 c N h0 K N = { cls := c, slots := ((List.range N).map (fun j => Value.ref (h0 + 1 + j * (1 + K)))).toArray, vm := .none } := by
  rw [x_o3E]
  congr 1
  refine Array.ext_getElem? fun j => ?_
  by_cases hj : j < N
  · rw [x_o3_slot c N h0 K N j hj, if_pos hj]
    simp [hj]
  · rw [Array.getElem?_eq_none (by rw [(x_o3_facts c N h0 K N).2.2]; omega)]
    simp [hj]
section
variable {E : CtlPost} {e : Env} {d : Bool} {acts : List Action} {s : State}
theorem x_make3 {c comp cc cd : ClassId} {k kc kd : Class} {t0 t1 type : FieldType} {n m r : Int32} (hk : s.vm.classes[c]? = some k) (hkind : k.kind = .array comp t0) (href : t0.isReference = true)
    (hkc : s.vm.classes[comp]? = some kc) (hkindc : kc.kind = .array cc t1) (href1 : t1.isReference = true) (hkd : s.vm.classes[cc]? = some kd) (hkindd : kd.kind = .array cd type) (hn : ¬ n < 0) (hm : ¬ m < 0) (hr : ¬ r < 0)
    (hl1 : ¬ n.toNatClampNeg > e.platform.arrayLengthLimit) (hh1 : ¬ n.toNatClampNeg * componentBytes t0 > e.platform.maxHeapBytes)
    (hl2 : ¬ m.toNatClampNeg > e.platform.arrayLengthLimit) (hh2 : ¬ m.toNatClampNeg * componentBytes t1 > e.platform.maxHeapBytes)
    (hl3 : ¬ r.toNatClampNeg > e.platform.arrayLengthLimit) (hh3 : ¬ r.toNatClampNeg * componentBytes type > e.platform.maxHeapBytes)
    (hdf : fits type (defaultValue type) = true) (hdd : (defaultValue type).isDefault = true)
    (hc : s.heap.size + 1 + n.toNatClampNeg * (1 + m.toNatClampNeg) ≤ e.platform.maxCells) (hs : s.slotsUsed + n.toNatClampNeg + n.toNatClampNeg * (m.toNatClampNeg + m.toNatClampNeg * r.toNatClampNeg) ≤ e.platform.maxSlots)
    {Q : Addr → Pre} (hq : ∀ d' acts', Q s.heap.size d' acts' (x_f3 s c comp cc n.toNatClampNeg m.toNatClampNeg r.toNatClampNeg (defaultValue type) n.toNatClampNeg)) :
    wp (multianewarray.make c [n, m, r]) Q E e d acts s := by
  have hfind : ([m, r].find? (· < 0)) = none := by simp [hm, hr]
  rw [multianewarray.make]
  simp only [wp_bind', W.ite, hn, if_false, wp_pure', W.theClass, hk, hkind, Option.some.injEq, exists_eq_left']
  refine Jvm.Free.Multi.wp_newArray hk hkind hl1 hh1 (Jvm.Free.Multi.refFits href _ (Or.inl rfl)) rfl (by have := Nat.zero_le (n.toNatClampNeg * (1 + m.toNatClampNeg)); omega) (by have := Nat.zero_le (n.toNatClampNeg * (m.toNatClampNeg + m.toNatClampNeg * r.toNatClampNeg)); omega) ?_
  simp only [hfind]
  rw [ite_self, wp_bind', Std.Legacy.Range.forIn_eq_forIn_range']
  have hsz : ([:n.toNatClampNeg] : Std.Legacy.Range).size = n.toNatClampNeg := by simp [Std.Legacy.Range.size]
  rw [hsz]
  show wp (forIn (List.range' 0 n.toNatClampNeg 1) PUnit.unit _) _ E e d acts _
  refine wp_forIn_inv (fun rest s' => ∃ i, i ≤ n.toNatClampNeg ∧ rest = List.range' i (n.toNatClampNeg - i) ∧ s' = x_f3 s c comp cc n.toNatClampNeg m.toNatClampNeg r.toNatClampNeg (defaultValue type) i) _ _ ⟨0, Nat.zero_le _, rfl, rfl⟩ ?_ ?_
  · rintro x rest s' d' acts' Q' ⟨i, hi, hl, rfl⟩ hnext
    have hlt : i < n.toNatClampNeg := by
      rcases Nat.lt_or_ge i n.toNatClampNeg with h | h
      · exact h
      · rw [show n.toNatClampNeg - i = 0 from by omega] at hl; simp at hl
    obtain ⟨rfl, hrest⟩ : x = i ∧ rest = List.range' (i + 1) (n.toNatClampNeg - (i + 1)) := by
      rw [show n.toNatClampNeg - i = (n.toNatClampNeg - (i + 1)) + 1 from by omega, List.range'_succ] at hl
      exact ⟨(List.cons.inj hl).1, (List.cons.inj hl).2⟩
    obtain ⟨f1, f2, f3, f4⟩ := x_f3_facts s c comp cc n.toNatClampNeg m.toNatClampNeg r.toNatClampNeg (defaultValue type) x
    obtain ⟨o1, o2, o3⟩ := x_o3_facts c n.toNatClampNeg s.heap.size m.toNatClampNeg x
    have hmul : x * (1 + m.toNatClampNeg) + (1 + m.toNatClampNeg) ≤ n.toNatClampNeg * (1 + m.toNatClampNeg) := by
      have := Nat.mul_le_mul_right (1 + m.toNatClampNeg) (show x + 1 ≤ n.toNatClampNeg from hlt)
      rw [Nat.succ_mul] at this; exact this
    have hmul2 : x * (m.toNatClampNeg + m.toNatClampNeg * r.toNatClampNeg) + (m.toNatClampNeg + m.toNatClampNeg * r.toNatClampNeg) ≤ n.toNatClampNeg * (m.toNatClampNeg + m.toNatClampNeg * r.toNatClampNeg) := by
      have := Nat.mul_le_mul_right (m.toNatClampNeg + m.toNatClampNeg * r.toNatClampNeg) (show x + 1 ≤ n.toNatClampNeg from hlt)
      rw [Nat.succ_mul] at this; exact this
    simp only [wp_bind']
    refine Jvm.Free.Multi.wp_make2 (k := kc) (kc := kd) (comp := cc) (cc := cd) (t0 := t1) (type := type) (by rw [f3]; exact hkc) hkindc href1 (by rw [f3]; exact hkd) hkindd hm hr hl2 hh2 hl3 hh3 hdf hdd (by rw [f1]; omega) (by rw [f4]; omega) (fun d9 acts9 => ?_)
    have hlt0 : s.heap.size < (x_f3 s c comp cc n.toNatClampNeg m.toNatClampNeg r.toNatClampNeg (defaultValue type) x).heap.size := by rw [f1]; omega
    have g3 := (Jvm.Free.Multi.fill_facts (x_f3 s c comp cc n.toNatClampNeg m.toNatClampNeg r.toNatClampNeg (defaultValue type) x) comp cc m.toNatClampNeg r.toNatClampNeg (defaultValue type) m.toNatClampNeg).2.2.1
    simp only [wp_bind', W.writeLoc, wp_pure']
    refine ⟨x_o3 c n.toNatClampNeg s.heap.size m.toNatClampNeg x, by rw [Jvm.Free.Multi.fill_old _ _ _ _ _ _ hlt0]; exact f2, by rw [o2]; simp, by rw [o3]; exact hlt, ?_, hnext _ _ _ ⟨x + 1, hlt, hrest, ?_⟩⟩
    · rw [o1, o2]
      simp [State.fitsSlot, State.slotType?, g3, f3, hk, hkind, Jvm.Free.Multi.refFits href _ (Or.inr ⟨_, rfl⟩)]
    · rw [f1]; rfl
  · rintro s' d' acts' ⟨i, hi, hl, rfl⟩
    have hiN : i = n.toNatClampNeg := by
      rcases Nat.lt_or_ge i n.toNatClampNeg with h | h
      · rw [show n.toNatClampNeg - i = (n.toNatClampNeg - (i + 1)) + 1 from by omega, List.range'_succ] at hl; cases hl
      · omega
    subst hiN
    simp only [wp_pure']
    exact hq _ _
end
end XMA
end
section
section XMB
variable {p : Program} {l : Launch} {e : Env} {R : Room} {s : State} {m : MethodId} {args : Array Value} {below : List Frame} {meth : Method} {c : Code} {T : State} {locs : List Loc} {cells slots : Nat} {H : Heap} {Q : State → Prop}
theorem x_filled3 (X : Stand p l e R s m args below meth c T locs cells slots) (cA comp cc : ClassId) (N K M : Nat) (dv : Value) :
    ∀ i, ∃ L : List Loc, (∀ q ∈ L, T.heap.size ≤ q.base) ∧ Stand p l e R s m args below meth c (x_f3 T cA comp cc N K M dv i) (locs ++ L) (cells + 1 + i * (1 + K)) (slots + N + i * (K + K * M))
  | 0 => by
    have h := X.pushed (x_o3 cA N T.heap.size K 0)
    rw [(x_o3_facts cA N T.heap.size K 0).2.2] at h
    refine ⟨[], fun q hq => (nomatch hq), ?_⟩
    simpa [x_f3] using h
  | i + 1 => by
    obtain ⟨L, hL, Xi⟩ := x_filled3 X cA comp cc N K M dv i
    obtain ⟨f1, f2, f3, f4⟩ := x_f3_facts T cA comp cc N K M dv i
    have hlt0 : T.heap.size < (x_f3 T cA comp cc N K M dv i).heap.size := by rw [f1, Nat.add_assoc]; exact Nat.lt_of_lt_of_le (Nat.lt_succ_self _) (by rw [← Nat.add_assoc]; exact Nat.le_add_right _ _)
    have hcell : (Jvm.Free.Multi.fill (x_f3 T cA comp cc N K M dv i) comp cc K M dv K).heap[T.heap.size]? = some (x_o3 cA N T.heap.size K i) := by rw [Jvm.Free.Multi.fill_old _ _ _ _ _ _ hlt0]; exact f2
    have h := (Xi.filled comp cc K M dv K).stored hcell i (.ref (T.heap.size + 1 + i * (1 + K)))
    refine ⟨L ++ (List.range K).map (fun j => ⟨(x_f3 T cA comp cc N K M dv i).heap.size, j⟩) ++ [⟨T.heap.size, i⟩], fun q hq => ?_, ?_⟩
    · rcases List.mem_append.mp hq with hq | hq
      · rcases List.mem_append.mp hq with hq | hq
        · exact hL q hq
        · obtain ⟨j, -, rfl⟩ := List.mem_map.mp hq
          exact Nat.le_of_lt hlt0
      · rw [List.mem_singleton.mp hq]
        exact Nat.le_refl _
    · have e3 : slots + N + (i + 1) * (K + K * M) = slots + N + i * (K + K * M) + K + K * M := by rw [Nat.succ_mul]; omega
      have e4 : cells + 1 + (i + 1) * (1 + K) = cells + 1 + i * (1 + K) + 1 + K := by rw [Nat.succ_mul]; omega
      rw [e3, e4]
      simpa only [x_f3, x_o3, List.append_assoc] using h
/-- new T[n][k], at W -/
theorem x_mna2 {cc : ByteArray} {pc : Nat} {ls : Array Slot} {rest : List Value} (hexec : p.tables.exec = Jvm.exec) (hb : c.code = cc) {own : String} {index : Nat} {ty : FieldType} (hown : s.vm.findClass own = some m.cls) (hclink : (Jvm.Cond.classLink own index ("[" ++ (FieldType.array ty).toString)).before args s = true)
    (hover : (Jvm.Cond.arrayOver (.array ty)).before args s = true) (harr : (Jvm.Cond.arrayClass ty).before args s = true) {n k : Int32} (hn : ¬ n < 0) (hk : ¬ k < 0)
    (hb1 : n.toNatClampNeg * 4 ≤ 536870912) (hb2 : k.toNatClampNeg * componentBytes ty ≤ 536870912) (hb3 : k.toNatClampNeg ≤ 536870912) (hdf : fits ty (defaultValue ty) = true) (hdd : (defaultValue ty).isDefault = true)
    (hcells : cells + (1 + n.toNatClampNeg) ≤ R.cells) (hslots : slots + (n.toNatClampNeg + n.toNatClampNeg * k.toNatClampNeg) ≤ R.slots) (hdg : decode cc pc = .ok (.multianewarray index 2, 4))
    (kk : ∀ (H1 : Heap) (cA comp : ClassId), s.vm.findClass ("[" ++ (FieldType.array ty).toString) = some cA → s.vm.findClass (FieldType.array ty).toString = some comp → H1.size = H.size + 1 + n.toNatClampNeg → (∀ q, q < H.size → H1[q]? = H[q]?) →
      H1[H.size]? = some { cls := cA, slots := ((List.range n.toNatClampNeg).map (fun j => Value.ref (H.size + 1 + j))).toArray, vm := .none } → (∀ j, j < n.toNatClampNeg → H1[H.size + 1 + j]? = some { cls := comp, slots := Array.replicate k.toNatClampNeg (defaultValue ty), vm := .none }) →
      W p l e R s m args below meth c H1 locs (cells + 1 + n.toNatClampNeg) (slots + n.toNatClampNeg + n.toNatClampNeg * k.toNatClampNeg) Q (F0 m (pc + 4) ls (.ref H.size :: rest))) : W p l e R s m args below meth c H locs cells slots Q (F0 m pc ls (.int k :: .int n :: rest)) := by
  intro T hT X
  obtain ⟨vm₁, cA, comp, -, fA, fC, -, -, X', step⟩ := X.multianewarray2F hexec hown hclink hover harr (g := F0 m pc ls (.int k :: .int n :: rest)) rfl (by rw [hb]; exact hdg) rfl hn hk hb1 hb2 hb3 hdf hdd hcells hslots
  have hTh : (T.setVm vm₁).heap = H := hT
  obtain ⟨f1, f2, -, -⟩ := Jvm.Free.Multi.fill_facts (T.setVm vm₁) cA comp n.toNatClampNeg k.toNatClampNeg (defaultValue ty) n.toNatClampNeg
  rw [hTh] at f1 f2
  rw [x_out] at f2
  obtain ⟨t, a1, b1⟩ := kk _ cA comp fA fC f1 (fun q hq => by
    have := Jvm.Free.Multi.fill_old (T.setVm vm₁) cA comp n.toNatClampNeg k.toNatClampNeg (defaultValue ty) (a := q) (by rw [hTh]; exact hq) n.toNatClampNeg
    rw [hTh] at this
    exact this) f2 (fun j hj => by
    have := Jvm.Free.Multi.fill_inner (T.setVm vm₁) cA comp n.toNatClampNeg k.toNatClampNeg (defaultValue ty) n.toNatClampNeg j hj
    rw [hTh] at this
    exact this) _ rfl X'
  refine ⟨t, step t ?_, b1⟩
  have e : T.heap.size = H.size := by rw [hT]
  rw [e]
  exact a1
/-- new T[n][k][r], at W -/
theorem x_mna3 {cc : ByteArray} {pc : Nat} {ls : Array Slot} {rest : List Value} (hexec : p.tables.exec = Jvm.exec) (hb : c.code = cc) {own : String} {index : Nat} {ty : FieldType} (hown : s.vm.findClass own = some m.cls) (hclink : (Jvm.Cond.classLink own index ("[" ++ (FieldType.array (.array ty)).toString)).before args s = true)
    (hover1 : (Jvm.Cond.arrayOver (.array (.array ty))).before args s = true) (hover2 : (Jvm.Cond.arrayOver (.array ty)).before args s = true) (harr : (Jvm.Cond.arrayClass ty).before args s = true) {n k r : Int32} (hn : ¬ n < 0) (hk : ¬ k < 0) (hr : ¬ r < 0)
    (hb1 : n.toNatClampNeg * 4 ≤ 536870912) (hb2 : k.toNatClampNeg * 4 ≤ 536870912) (hb3 : r.toNatClampNeg * componentBytes ty ≤ 536870912) (hb4 : r.toNatClampNeg ≤ 536870912) (hdf : fits ty (defaultValue ty) = true) (hdd : (defaultValue ty).isDefault = true)
    (hcells : cells + (1 + n.toNatClampNeg * (1 + k.toNatClampNeg)) ≤ R.cells) (hslots : slots + (n.toNatClampNeg + n.toNatClampNeg * (k.toNatClampNeg + k.toNatClampNeg * r.toNatClampNeg)) ≤ R.slots) (hdg : decode cc pc = .ok (.multianewarray index 3, 4))
    (kk : ∀ (H1 : Heap) (cA comp cd : ClassId), s.vm.findClass ("[" ++ (FieldType.array (.array ty)).toString) = some cA → s.vm.findClass ("[" ++ (FieldType.array ty).toString) = some comp → s.vm.findClass (FieldType.array ty).toString = some cd → H1.size = H.size + 1 + n.toNatClampNeg * (1 + k.toNatClampNeg) → (∀ q, q < H.size → H1[q]? = H[q]?) →
      H1[H.size]? = some { cls := cA, slots := ((List.range n.toNatClampNeg).map (fun j => Value.ref (H.size + 1 + j * (1 + k.toNatClampNeg)))).toArray, vm := .none } →
      (∀ j, j < n.toNatClampNeg → H1[H.size + 1 + j * (1 + k.toNatClampNeg)]? = some { cls := comp, slots := ((List.range k.toNatClampNeg).map (fun q => Value.ref (H.size + 1 + j * (1 + k.toNatClampNeg) + 1 + q))).toArray, vm := .none } ∧
        ∀ q, q < k.toNatClampNeg → H1[H.size + 1 + j * (1 + k.toNatClampNeg) + 1 + q]? = some { cls := cd, slots := Array.replicate r.toNatClampNeg (defaultValue ty), vm := .none }) →
      W p l e R s m args below meth c H1 locs (cells + 1 + n.toNatClampNeg * (1 + k.toNatClampNeg)) (slots + n.toNatClampNeg + n.toNatClampNeg * (k.toNatClampNeg + k.toNatClampNeg * r.toNatClampNeg)) Q (F0 m (pc + 4) ls (.ref H.size :: rest))) : W p l e R s m args below meth c H locs cells slots Q (F0 m pc ls (.int r :: .int k :: .int n :: rest)) := by
  intro T hT X
  have hpl : e.platform.magicAccessors = ({} : Platform).magicAccessors := by rw [X.admits.platform]
  obtain ⟨comp, cA, kA, hcomp, hkA, hkindA, hnameA⟩ := Cond.arrayOver_specA hover1
  obtain ⟨cd, c2, kB, hcd, hkB, hkindB, hnameB⟩ := Cond.arrayOver_specA hover2
  obtain ⟨cd', kC, ce, hcd', hkC, hkindC⟩ := Cond.arrayClass_spec harr
  have ecd : cd' = cd := Option.some.inj (hcd'.symm.trans hcd)
  subst ecd
  have ecomp : c2 = comp := Option.some.inj (hnameB.symm.trans hcomp)
  subst ecomp
  obtain ⟨c0, hfc0, hcl⟩ := Cond.classLink_spec hown hclink e.platform hpl
  cases hnameA.symm.trans hfc0
  obtain ⟨hg₁, hwarm₁, hready₁⟩ := State.classEntry (e := e) X.warmed hcl
  generalize T.vm.noted m.cls index (.cls cA) = vm₁ at hg₁ hwarm₁ hready₁
  have hal : s.vm.Alike vm₁ := hwarm₁.alike
  obtain ⟨kA₁, hkA₁, heA⟩ := hal.2.2 _ _ hkA
  obtain ⟨kB₁, hkB₁, heB⟩ := hal.2.2 _ _ hkB
  obtain ⟨kC₁, hkC₁, heC⟩ := hal.2.2 _ _ hkC
  have hkindA₁ : kA₁.kind = .array c2 (.array (.array ty)) := by rw [heA]; exact hkindA
  have hkindB₁ : kB₁.kind = .array cd' (.array ty) := by rw [heB]; exact hkindB
  have hkindC₁ : kC₁.kind = .array ce ty := by rw [heC]; exact hkindC
  have X₁ := X.noted hwarm₁
  obtain ⟨hr1, hr2⟩ := X.roomAbove hcells hslots
  obtain ⟨L, hL, XF0⟩ := x_filled3 X₁ cA c2 cd' n.toNatClampNeg k.toNatClampNeg r.toNatClampNeg (defaultValue ty) n.toNatClampNeg
  have XF := XF0.dropFresh (fun x hx => Nat.le_trans X.heapGrown (hL x hx))
  have hTh : (T.setVm vm₁).heap = H := hT
  obtain ⟨f1, f2, -, -⟩ := x_f3_facts (T.setVm vm₁) cA c2 cd' n.toNatClampNeg k.toNatClampNeg r.toNatClampNeg (defaultValue ty) n.toNatClampNeg
  rw [hTh] at f1 f2
  rw [x_o3o] at f2
  obtain ⟨t, a1, b1⟩ := kk _ cA c2 cd' hnameA hnameB hcd f1 (fun q hq => by
    have := x_f3_old (T.setVm vm₁) cA c2 cd' n.toNatClampNeg k.toNatClampNeg r.toNatClampNeg (defaultValue ty) (a := q) (by rw [hTh]; exact hq) n.toNatClampNeg
    rw [hTh] at this
    exact this) f2 (fun j hj => by
    obtain ⟨g1, g2⟩ := x_f3_mid (T.setVm vm₁) cA c2 cd' n.toNatClampNeg k.toNatClampNeg r.toNatClampNeg (defaultValue ty) n.toNatClampNeg j hj
    rw [hTh] at g1 g2
    rw [x_out] at g1
    exact ⟨g1, g2⟩) _ rfl XF
  refine ⟨t, ?_, b1⟩
  have hl1 : ¬ n.toNatClampNeg > e.platform.arrayLengthLimit := by rw [Launch.admits_arrayLengthLimit X.admits]; omega
  have hh1 : ¬ n.toNatClampNeg * componentBytes (.array (.array ty)) > e.platform.maxHeapBytes := by
    rw [Launch.admits_maxHeapBytes X.admits]; show ¬ n.toNatClampNeg * 4 > 536870912; omega
  have hl2 : ¬ k.toNatClampNeg > e.platform.arrayLengthLimit := by rw [Launch.admits_arrayLengthLimit X.admits]; omega
  have hh2 : ¬ k.toNatClampNeg * componentBytes (.array ty) > e.platform.maxHeapBytes := by
    rw [Launch.admits_maxHeapBytes X.admits]; show ¬ k.toNatClampNeg * 4 > 536870912; omega
  have hl3 : ¬ r.toNatClampNeg > e.platform.arrayLengthLimit := by rw [Launch.admits_arrayLengthLimit X.admits]; omega
  have hh3 : ¬ r.toNatClampNeg * componentBytes ty > e.platform.maxHeapBytes := by rw [Launch.admits_maxHeapBytes X.admits]; omega
  have hdg' : decode c.code pc = .ok (.multianewarray index 3, 4) := by rw [hb]; exact hdg
  jvm_step X.here [hexec, hdg']
  simp only [multianewarray.sem, wp_bind', W.resolveClassAt_links (State.method?_setTop (F0 m pc ls (.int r :: .int k :: .int n :: rest)) X.here.top) hg₁]
  rw [W.popN, if_neg (by decide)]
  refine ⟨F0 m pc ls (.int r :: .int k :: .int n :: rest), State.topJava?_setTop' (s := T.setVm vm₁) _ X.here.top, [.int n, .int k, .int r], rest, rfl, rfl, ?_⟩
  simp only [List.mapM_cons, List.mapM_nil, wp_bind', wp_pure']
  refine x_make3 (k := kA₁) (kc := kB₁) (kd := kC₁) (comp := c2) (cc := cd') (cd := ce) (t0 := .array (.array ty)) (t1 := .array ty) (type := ty) hkA₁ hkindA₁ rfl hkB₁ hkindB₁ rfl hkC₁ hkindC₁ hn hk hr hl1 hh1 hl2 hh2 hl3 hh3 hdf hdd (by show T.heap.size + 1 + _ ≤ _; omega) (by show T.slotsUsed + _ + _ ≤ _; omega) (fun d' acts' => ?_)
  have eS : ((T.setTop (F0 m pc ls (.int r :: .int k :: .int n :: rest))).setVm vm₁).setTop { F0 m pc ls (.int r :: .int k :: .int n :: rest) with stack := rest } = (T.setVm vm₁).setTop { F0 m pc ls (.int r :: .int k :: .int n :: rest) with stack := rest } := by
    show ((T.setVm vm₁).setTop _).setTop _ = _
    rw [State.setTop_setTop]
  rw [eS, x_f3_setTop]
  simp only [wp_bind', W.mark, W.pushRef, State.topJava?_setTop' _ XF.here.top, Option.some.injEq, exists_eq_left', State.setTop_setTop, State.heap_setTop]
  intro acts
  simp [jvm, XF.here.top]
  have e9 : T.heap.size = H.size := by rw [hT]
  rw [e9]
  exact a1
end XMB
end
