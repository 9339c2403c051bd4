-- ===== PART A: goes FIRST, ahead of the names: the tables' words, and 'selects' of the private methods out of them =====
/-- a private method of a class that the tables say can be made, by its rows of tables_1 -/
def lw_okq (q : MethodName × Nat) : Prop := (q.1.cls ≠ "java/lang/invoke/MethodHandle" ∧ q.1.cls ≠ "java/lang/invoke/VarHandle") ∧ Cond.instantiable q.1.cls q.2 ∈ tables_1 ∧ Cond.privateMethod q.1 ∈ tables_1 ∧ Cond.instanceMethod q.1 ∈ tables_1
theorem lw_p0 : lw_okq (⟨"ItchParish", "placeStatus", "(II)I"⟩, 18) := ⟨⟨by decide +kernel, by decide +kernel⟩, List.mem_of_getElem? (i := 22) (by decide +kernel), List.mem_of_getElem? (i := 420) (by decide +kernel), List.mem_of_getElem? (i := 421) (by decide +kernel)⟩
theorem lw_p1 : lw_okq (⟨"ItchParish$Rows", "cut", "(IJ)J"⟩, 3) := ⟨⟨by decide +kernel, by decide +kernel⟩, List.mem_of_getElem? (i := 30) (by decide +kernel), List.mem_of_getElem? (i := 438) (by decide +kernel), List.mem_of_getElem? (i := 439) (by decide +kernel)⟩
theorem lw_p2 : lw_okq (⟨"ItchParish$Tape", "takeToken", "(II)I"⟩, 10) := ⟨⟨by decide +kernel, by decide +kernel⟩, List.mem_of_getElem? (i := 48) (by decide +kernel), List.mem_of_getElem? (i := 500) (by decide +kernel), List.mem_of_getElem? (i := 501) (by decide +kernel)⟩
theorem lw_p3 : lw_okq (⟨"ItchParish$Tape", "takeWord", "(II)I"⟩, 10) := ⟨⟨by decide +kernel, by decide +kernel⟩, List.mem_of_getElem? (i := 48) (by decide +kernel), List.mem_of_getElem? (i := 507) (by decide +kernel), List.mem_of_getElem? (i := 508) (by decide +kernel)⟩
theorem lw_p4 : lw_okq (⟨"ItchParish$Tape", "add", "(IIJ)V"⟩, 10) := ⟨⟨by decide +kernel, by decide +kernel⟩, List.mem_of_getElem? (i := 48) (by decide +kernel), List.mem_of_getElem? (i := 512) (by decide +kernel), List.mem_of_getElem? (i := 513) (by decide +kernel)⟩
theorem lw_p5 : lw_okq (⟨"ItchParish$Tape", "takeDigits", "(II)I"⟩, 10) := ⟨⟨by decide +kernel, by decide +kernel⟩, List.mem_of_getElem? (i := 48) (by decide +kernel), List.mem_of_getElem? (i := 519) (by decide +kernel), List.mem_of_getElem? (i := 520) (by decide +kernel)⟩
theorem lw_p6 : lw_okq (⟨"ItchParish$DistrictReader", "takePart", "()Z"⟩, 3) := ⟨⟨by decide +kernel, by decide +kernel⟩, List.mem_of_getElem? (i := 228) (by decide +kernel), List.mem_of_getElem? (i := 539) (by decide +kernel), List.mem_of_getElem? (i := 540) (by decide +kernel)⟩
theorem lw_p7 : lw_okq (⟨"ItchParish$DistrictReader", "takeRule", "(II)Z"⟩, 3) := ⟨⟨by decide +kernel, by decide +kernel⟩, List.mem_of_getElem? (i := 228) (by decide +kernel), List.mem_of_getElem? (i := 544) (by decide +kernel), List.mem_of_getElem? (i := 545) (by decide +kernel)⟩
theorem lw_p8 : lw_okq (⟨"ItchParish$Tape", "valueHere", "()J"⟩, 10) := ⟨⟨by decide +kernel, by decide +kernel⟩, List.mem_of_getElem? (i := 48) (by decide +kernel), List.mem_of_getElem? (i := 560) (by decide +kernel), List.mem_of_getElem? (i := 561) (by decide +kernel)⟩
theorem lw_p9 : lw_okq (⟨"ItchParish$DistrictReader", "takeKind", "()Z"⟩, 3) := ⟨⟨by decide +kernel, by decide +kernel⟩, List.mem_of_getElem? (i := 228) (by decide +kernel), List.mem_of_getElem? (i := 574) (by decide +kernel), List.mem_of_getElem? (i := 575) (by decide +kernel)⟩
theorem lw_p10 : lw_okq (⟨"ItchParish$DistrictReader", "takePerhaps", "(II)I"⟩, 3) := ⟨⟨by decide +kernel, by decide +kernel⟩, List.mem_of_getElem? (i := 228) (by decide +kernel), List.mem_of_getElem? (i := 586) (by decide +kernel), List.mem_of_getElem? (i := 587) (by decide +kernel)⟩
theorem lw_p11 : lw_okq (⟨"ItchParish$DistrictReader", "takePerson", "()Z"⟩, 3) := ⟨⟨by decide +kernel, by decide +kernel⟩, List.mem_of_getElem? (i := 228) (by decide +kernel), List.mem_of_getElem? (i := 594) (by decide +kernel), List.mem_of_getElem? (i := 595) (by decide +kernel)⟩
theorem lw_p12 : lw_okq (⟨"ItchParish$DistrictReader", "takeReach", "()I"⟩, 3) := ⟨⟨by decide +kernel, by decide +kernel⟩, List.mem_of_getElem? (i := 228) (by decide +kernel), List.mem_of_getElem? (i := 611) (by decide +kernel), List.mem_of_getElem? (i := 612) (by decide +kernel)⟩
theorem lw_p13 : lw_okq (⟨"ItchParish$DistrictReader", "takeThing", "()Z"⟩, 3) := ⟨⟨by decide +kernel, by decide +kernel⟩, List.mem_of_getElem? (i := 228) (by decide +kernel), List.mem_of_getElem? (i := 629) (by decide +kernel), List.mem_of_getElem? (i := 630) (by decide +kernel)⟩
theorem lw_p14 : lw_okq (⟨"ItchParish$PlanReader", "takeEnd", "()Z"⟩, 5) := ⟨⟨by decide +kernel, by decide +kernel⟩, List.mem_of_getElem? (i := 244) (by decide +kernel), List.mem_of_getElem? (i := 676) (by decide +kernel), List.mem_of_getElem? (i := 677) (by decide +kernel)⟩
theorem lw_p15 : lw_okq (⟨"ItchParish$Plan", "addLine", "(IIII)Z"⟩, 7) := ⟨⟨by decide +kernel, by decide +kernel⟩, List.mem_of_getElem? (i := 200) (by decide +kernel), List.mem_of_getElem? (i := 686) (by decide +kernel), List.mem_of_getElem? (i := 687) (by decide +kernel)⟩
def lw_privs_1 : List (MethodName × Nat) := [(⟨"ItchParish", "placeStatus", "(II)I"⟩, 18), (⟨"ItchParish$Rows", "cut", "(IJ)J"⟩, 3), (⟨"ItchParish$Tape", "takeToken", "(II)I"⟩, 10), (⟨"ItchParish$Tape", "takeWord", "(II)I"⟩, 10), (⟨"ItchParish$Tape", "add", "(IIJ)V"⟩, 10), (⟨"ItchParish$Tape", "takeDigits", "(II)I"⟩, 10), (⟨"ItchParish$DistrictReader", "takePart", "()Z"⟩, 3), (⟨"ItchParish$DistrictReader", "takeRule", "(II)Z"⟩, 3), (⟨"ItchParish$Tape", "valueHere", "()J"⟩, 10), (⟨"ItchParish$DistrictReader", "takeKind", "()Z"⟩, 3), (⟨"ItchParish$DistrictReader", "takePerhaps", "(II)I"⟩, 3), (⟨"ItchParish$DistrictReader", "takePerson", "()Z"⟩, 3), (⟨"ItchParish$DistrictReader", "takeReach", "()I"⟩, 3), (⟨"ItchParish$DistrictReader", "takeThing", "()Z"⟩, 3), (⟨"ItchParish$PlanReader", "takeEnd", "()Z"⟩, 5), (⟨"ItchParish$Plan", "addLine", "(IIII)Z"⟩, 7)]
theorem lw_r1 : ∀ q ∈ lw_privs_1, lw_okq q := List.forall_mem_cons.mpr ⟨lw_p0, List.forall_mem_cons.mpr ⟨lw_p1, List.forall_mem_cons.mpr ⟨lw_p2, List.forall_mem_cons.mpr ⟨lw_p3, List.forall_mem_cons.mpr ⟨lw_p4, List.forall_mem_cons.mpr ⟨lw_p5, List.forall_mem_cons.mpr ⟨lw_p6, List.forall_mem_cons.mpr ⟨lw_p7, List.forall_mem_cons.mpr ⟨lw_p8, List.forall_mem_cons.mpr ⟨lw_p9, List.forall_mem_cons.mpr ⟨lw_p10, List.forall_mem_cons.mpr ⟨lw_p11, List.forall_mem_cons.mpr ⟨lw_p12, List.forall_mem_cons.mpr ⟨lw_p13, List.forall_mem_cons.mpr ⟨lw_p14, List.forall_mem_cons.mpr ⟨lw_p15, fun _ h => absurd h List.not_mem_nil⟩⟩⟩⟩⟩⟩⟩⟩⟩⟩⟩⟩⟩⟩⟩⟩
theorem lw_p16 : lw_okq (⟨"ItchParish$PlanReader", "takeStep", "()Z"⟩, 5) := ⟨⟨by decide +kernel, by decide +kernel⟩, List.mem_of_getElem? (i := 244) (by decide +kernel), List.mem_of_getElem? (i := 690) (by decide +kernel), List.mem_of_getElem? (i := 691) (by decide +kernel)⟩
theorem lw_p17 : lw_okq (⟨"ItchParish$PlanReader", "takeRest", "(I)Z"⟩, 5) := ⟨⟨by decide +kernel, by decide +kernel⟩, List.mem_of_getElem? (i := 244) (by decide +kernel), List.mem_of_getElem? (i := 705) (by decide +kernel), List.mem_of_getElem? (i := 706) (by decide +kernel)⟩
theorem lw_p18 : lw_okq (⟨"ItchParish$PlanReader", "takeCount", "(I)Z"⟩, 5) := ⟨⟨by decide +kernel, by decide +kernel⟩, List.mem_of_getElem? (i := 244) (by decide +kernel), List.mem_of_getElem? (i := 709) (by decide +kernel), List.mem_of_getElem? (i := 710) (by decide +kernel)⟩
theorem lw_p19 : lw_okq (⟨"ItchParish$PlanReader", "takeDeedOf", "(II)Z"⟩, 5) := ⟨⟨by decide +kernel, by decide +kernel⟩, List.mem_of_getElem? (i := 244) (by decide +kernel), List.mem_of_getElem? (i := 719) (by decide +kernel), List.mem_of_getElem? (i := 720) (by decide +kernel)⟩
theorem lw_p20 : lw_okq (⟨"ItchParish$PlanReader", "takeTest", "(I)Z"⟩, 5) := ⟨⟨by decide +kernel, by decide +kernel⟩, List.mem_of_getElem? (i := 244) (by decide +kernel), List.mem_of_getElem? (i := 724) (by decide +kernel), List.mem_of_getElem? (i := 725) (by decide +kernel)⟩
theorem lw_p21 : lw_okq (⟨"ItchParish", "coupleStatus", "(II)I"⟩, 18) := ⟨⟨by decide +kernel, by decide +kernel⟩, List.mem_of_getElem? (i := 22) (by decide +kernel), List.mem_of_getElem? (i := 904) (by decide +kernel), List.mem_of_getElem? (i := 905) (by decide +kernel)⟩
theorem lw_p22 : lw_okq (⟨"ItchParish$Work", "mostFrom", "(II)I"⟩, 3) := ⟨⟨by decide +kernel, by decide +kernel⟩, List.mem_of_getElem? (i := 302) (by decide +kernel), List.mem_of_getElem? (i := 1008) (by decide +kernel), List.mem_of_getElem? (i := 1009) (by decide +kernel)⟩
theorem lw_p23 : lw_okq (⟨"ItchParish$Work", "mostBehind", "(II)I"⟩, 3) := ⟨⟨by decide +kernel, by decide +kernel⟩, List.mem_of_getElem? (i := 302) (by decide +kernel), List.mem_of_getElem? (i := 1012) (by decide +kernel), List.mem_of_getElem? (i := 1013) (by decide +kernel)⟩
theorem lw_p24 : lw_okq (⟨"ItchParish$Work", "bestWorker", "(II)I"⟩, 3) := ⟨⟨by decide +kernel, by decide +kernel⟩, List.mem_of_getElem? (i := 302) (by decide +kernel), List.mem_of_getElem? (i := 1017) (by decide +kernel), List.mem_of_getElem? (i := 1018) (by decide +kernel)⟩
theorem lw_p25 : lw_okq (⟨"ItchParish$Arrows", "clear", "()V"⟩, 2) := ⟨⟨by decide +kernel, by decide +kernel⟩, List.mem_of_getElem? (i := 318) (by decide +kernel), List.mem_of_getElem? (i := 1037) (by decide +kernel), List.mem_of_getElem? (i := 1038) (by decide +kernel)⟩
theorem lw_p26 : lw_okq (⟨"ItchParish$Arrows", "draw", "(II)V"⟩, 2) := ⟨⟨by decide +kernel, by decide +kernel⟩, List.mem_of_getElem? (i := 318) (by decide +kernel), List.mem_of_getElem? (i := 1045) (by decide +kernel), List.mem_of_getElem? (i := 1046) (by decide +kernel)⟩
theorem lw_p27 : lw_okq (⟨"ItchParish$Arrows", "fromAll", "(I)I"⟩, 2) := ⟨⟨by decide +kernel, by decide +kernel⟩, List.mem_of_getElem? (i := 318) (by decide +kernel), List.mem_of_getElem? (i := 1061) (by decide +kernel), List.mem_of_getElem? (i := 1062) (by decide +kernel)⟩
theorem lw_p28 : lw_okq (⟨"ItchParish", "tell", "(JJ)V"⟩, 18) := ⟨⟨by decide +kernel, by decide +kernel⟩, List.mem_of_getElem? (i := 22) (by decide +kernel), List.mem_of_getElem? (i := 1127) (by decide +kernel), List.mem_of_getElem? (i := 1128) (by decide +kernel)⟩
theorem lw_p29 : lw_okq (⟨"ItchParish", "lawStatus", "(II)I"⟩, 18) := ⟨⟨by decide +kernel, by decide +kernel⟩, List.mem_of_getElem? (i := 22) (by decide +kernel), List.mem_of_getElem? (i := 1135) (by decide +kernel), List.mem_of_getElem? (i := 1136) (by decide +kernel)⟩
theorem lw_p30 : lw_okq (⟨"ItchParish$Arrows", "nextOnWay", "(II)I"⟩, 2) := ⟨⟨by decide +kernel, by decide +kernel⟩, List.mem_of_getElem? (i := 318) (by decide +kernel), List.mem_of_getElem? (i := 1178) (by decide +kernel), List.mem_of_getElem? (i := 1179) (by decide +kernel)⟩
theorem lw_p31 : lw_okq (⟨"ItchParish", "gameStatus", "(IIII)I"⟩, 18) := ⟨⟨by decide +kernel, by decide +kernel⟩, List.mem_of_getElem? (i := 22) (by decide +kernel), List.mem_of_getElem? (i := 1239) (by decide +kernel), List.mem_of_getElem? (i := 1240) (by decide +kernel)⟩
def lw_privs_2 : List (MethodName × Nat) := [(⟨"ItchParish$PlanReader", "takeStep", "()Z"⟩, 5), (⟨"ItchParish$PlanReader", "takeRest", "(I)Z"⟩, 5), (⟨"ItchParish$PlanReader", "takeCount", "(I)Z"⟩, 5), (⟨"ItchParish$PlanReader", "takeDeedOf", "(II)Z"⟩, 5), (⟨"ItchParish$PlanReader", "takeTest", "(I)Z"⟩, 5), (⟨"ItchParish", "coupleStatus", "(II)I"⟩, 18), (⟨"ItchParish$Work", "mostFrom", "(II)I"⟩, 3), (⟨"ItchParish$Work", "mostBehind", "(II)I"⟩, 3), (⟨"ItchParish$Work", "bestWorker", "(II)I"⟩, 3), (⟨"ItchParish$Arrows", "clear", "()V"⟩, 2), (⟨"ItchParish$Arrows", "draw", "(II)V"⟩, 2), (⟨"ItchParish$Arrows", "fromAll", "(I)I"⟩, 2), (⟨"ItchParish", "tell", "(JJ)V"⟩, 18), (⟨"ItchParish", "lawStatus", "(II)I"⟩, 18), (⟨"ItchParish$Arrows", "nextOnWay", "(II)I"⟩, 2), (⟨"ItchParish", "gameStatus", "(IIII)I"⟩, 18)]
theorem lw_r2 : ∀ q ∈ lw_privs_2, lw_okq q := List.forall_mem_cons.mpr ⟨lw_p16, List.forall_mem_cons.mpr ⟨lw_p17, List.forall_mem_cons.mpr ⟨lw_p18, List.forall_mem_cons.mpr ⟨lw_p19, List.forall_mem_cons.mpr ⟨lw_p20, List.forall_mem_cons.mpr ⟨lw_p21, List.forall_mem_cons.mpr ⟨lw_p22, List.forall_mem_cons.mpr ⟨lw_p23, List.forall_mem_cons.mpr ⟨lw_p24, List.forall_mem_cons.mpr ⟨lw_p25, List.forall_mem_cons.mpr ⟨lw_p26, List.forall_mem_cons.mpr ⟨lw_p27, List.forall_mem_cons.mpr ⟨lw_p28, List.forall_mem_cons.mpr ⟨lw_p29, List.forall_mem_cons.mpr ⟨lw_p30, List.forall_mem_cons.mpr ⟨lw_p31, fun _ h => absurd h List.not_mem_nil⟩⟩⟩⟩⟩⟩⟩⟩⟩⟩⟩⟩⟩⟩⟩⟩
theorem lw_p32 : lw_okq (⟨"ItchParish$Plan", "hasLine", "(I)Z"⟩, 7) := ⟨⟨by decide +kernel, by decide +kernel⟩, List.mem_of_getElem? (i := 200) (by decide +kernel), List.mem_of_getElem? (i := 1290) (by decide +kernel), List.mem_of_getElem? (i := 1291) (by decide +kernel)⟩
theorem lw_p33 : lw_okq (⟨"ItchParish$Life", "behindEnd", "(LItchParish$Plan;I)I"⟩, 9) := ⟨⟨by decide +kernel, by decide +kernel⟩, List.mem_of_getElem? (i := 268) (by decide +kernel), List.mem_of_getElem? (i := 1294) (by decide +kernel), List.mem_of_getElem? (i := 1295) (by decide +kernel)⟩
theorem lw_p34 : lw_okq (⟨"ItchParish$Life", "behindStep", "(LItchParish$Plan;LItchParish$Parish;I)I"⟩, 9) := ⟨⟨by decide +kernel, by decide +kernel⟩, List.mem_of_getElem? (i := 268) (by decide +kernel), List.mem_of_getElem? (i := 1302) (by decide +kernel), List.mem_of_getElem? (i := 1303) (by decide +kernel)⟩
theorem lw_p35 : lw_okq (⟨"ItchParish$Life", "draw", "(I)I"⟩, 9) := ⟨⟨by decide +kernel, by decide +kernel⟩, List.mem_of_getElem? (i := 268) (by decide +kernel), List.mem_of_getElem? (i := 1316) (by decide +kernel), List.mem_of_getElem? (i := 1317) (by decide +kernel)⟩
theorem lw_p36 : lw_okq (⟨"ItchParish$Life", "holds", "(LItchParish$Parish;II)Z"⟩, 9) := ⟨⟨by decide +kernel, by decide +kernel⟩, List.mem_of_getElem? (i := 268) (by decide +kernel), List.mem_of_getElem? (i := 1322) (by decide +kernel), List.mem_of_getElem? (i := 1323) (by decide +kernel)⟩
theorem lw_p37 : lw_okq (⟨"ItchParish$Life", "intoLoop", "(LItchParish$Plan;II)I"⟩, 9) := ⟨⟨by decide +kernel, by decide +kernel⟩, List.mem_of_getElem? (i := 268) (by decide +kernel), List.mem_of_getElem? (i := 1329) (by decide +kernel), List.mem_of_getElem? (i := 1330) (by decide +kernel)⟩
theorem lw_p38 : lw_okq (⟨"ItchParish$Life", "isDone", "(LItchParish$Parish;III)Z"⟩, 9) := ⟨⟨by decide +kernel, by decide +kernel⟩, List.mem_of_getElem? (i := 268) (by decide +kernel), List.mem_of_getElem? (i := 1333) (by decide +kernel), List.mem_of_getElem? (i := 1334) (by decide +kernel)⟩
theorem lw_p39 : lw_okq (⟨"ItchParishModel", "empties", "(I)V"⟩, 40) := ⟨⟨by decide +kernel, by decide +kernel⟩, List.mem_of_getElem? (i := 1370) (by decide +kernel), List.mem_of_getElem? (i := 1376) (by decide +kernel), List.mem_of_getElem? (i := 1377) (by decide +kernel)⟩
theorem lw_p40 : lw_okq (⟨"ItchParishModel", "no", "(I)Z"⟩, 40) := ⟨⟨by decide +kernel, by decide +kernel⟩, List.mem_of_getElem? (i := 1370) (by decide +kernel), List.mem_of_getElem? (i := 1517) (by decide +kernel), List.mem_of_getElem? (i := 1518) (by decide +kernel)⟩
theorem lw_p41 : lw_okq (⟨"ItchParishModel", "placed", "(II)I"⟩, 40) := ⟨⟨by decide +kernel, by decide +kernel⟩, List.mem_of_getElem? (i := 1370) (by decide +kernel), List.mem_of_getElem? (i := 1525) (by decide +kernel), List.mem_of_getElem? (i := 1526) (by decide +kernel)⟩
theorem lw_p42 : lw_okq (⟨"ItchParishModel", "trayed", "(I)I"⟩, 40) := ⟨⟨by decide +kernel, by decide +kernel⟩, List.mem_of_getElem? (i := 1370) (by decide +kernel), List.mem_of_getElem? (i := 1529) (by decide +kernel), List.mem_of_getElem? (i := 1530) (by decide +kernel)⟩
theorem lw_p43 : lw_okq (⟨"ItchParishModel", "lay", "(I)V"⟩, 40) := ⟨⟨by decide +kernel, by decide +kernel⟩, List.mem_of_getElem? (i := 1370) (by decide +kernel), List.mem_of_getElem? (i := 1549) (by decide +kernel), List.mem_of_getElem? (i := 1550) (by decide +kernel)⟩
theorem lw_p44 : lw_okq (⟨"ItchParishModel", "starts", "(II)Z"⟩, 40) := ⟨⟨by decide +kernel, by decide +kernel⟩, List.mem_of_getElem? (i := 1370) (by decide +kernel), List.mem_of_getElem? (i := 1561) (by decide +kernel), List.mem_of_getElem? (i := 1562) (by decide +kernel)⟩
theorem lw_p45 : lw_okq (⟨"ItchParishModel", "advance", "()V"⟩, 40) := ⟨⟨by decide +kernel, by decide +kernel⟩, List.mem_of_getElem? (i := 1370) (by decide +kernel), List.mem_of_getElem? (i := 1565) (by decide +kernel), List.mem_of_getElem? (i := 1566) (by decide +kernel)⟩
theorem lw_p46 : lw_okq (⟨"ItchParishModel", "look2", "(I)I"⟩, 40) := ⟨⟨by decide +kernel, by decide +kernel⟩, List.mem_of_getElem? (i := 1370) (by decide +kernel), List.mem_of_getElem? (i := 1569) (by decide +kernel), List.mem_of_getElem? (i := 1570) (by decide +kernel)⟩
theorem lw_p47 : lw_okq (⟨"ItchParishModel", "isSignByte", "(I)Z"⟩, 40) := ⟨⟨by decide +kernel, by decide +kernel⟩, List.mem_of_getElem? (i := 1370) (by decide +kernel), List.mem_of_getElem? (i := 1581) (by decide +kernel), List.mem_of_getElem? (i := 1582) (by decide +kernel)⟩
def lw_privs_3 : List (MethodName × Nat) := [(⟨"ItchParish$Plan", "hasLine", "(I)Z"⟩, 7), (⟨"ItchParish$Life", "behindEnd", "(LItchParish$Plan;I)I"⟩, 9), (⟨"ItchParish$Life", "behindStep", "(LItchParish$Plan;LItchParish$Parish;I)I"⟩, 9), (⟨"ItchParish$Life", "draw", "(I)I"⟩, 9), (⟨"ItchParish$Life", "holds", "(LItchParish$Parish;II)Z"⟩, 9), (⟨"ItchParish$Life", "intoLoop", "(LItchParish$Plan;II)I"⟩, 9), (⟨"ItchParish$Life", "isDone", "(LItchParish$Parish;III)Z"⟩, 9), (⟨"ItchParishModel", "empties", "(I)V"⟩, 40), (⟨"ItchParishModel", "no", "(I)Z"⟩, 40), (⟨"ItchParishModel", "placed", "(II)I"⟩, 40), (⟨"ItchParishModel", "trayed", "(I)I"⟩, 40), (⟨"ItchParishModel", "lay", "(I)V"⟩, 40), (⟨"ItchParishModel", "starts", "(II)Z"⟩, 40), (⟨"ItchParishModel", "advance", "()V"⟩, 40), (⟨"ItchParishModel", "look2", "(I)I"⟩, 40), (⟨"ItchParishModel", "isSignByte", "(I)Z"⟩, 40)]
theorem lw_r3 : ∀ q ∈ lw_privs_3, lw_okq q := List.forall_mem_cons.mpr ⟨lw_p32, List.forall_mem_cons.mpr ⟨lw_p33, List.forall_mem_cons.mpr ⟨lw_p34, List.forall_mem_cons.mpr ⟨lw_p35, List.forall_mem_cons.mpr ⟨lw_p36, List.forall_mem_cons.mpr ⟨lw_p37, List.forall_mem_cons.mpr ⟨lw_p38, List.forall_mem_cons.mpr ⟨lw_p39, List.forall_mem_cons.mpr ⟨lw_p40, List.forall_mem_cons.mpr ⟨lw_p41, List.forall_mem_cons.mpr ⟨lw_p42, List.forall_mem_cons.mpr ⟨lw_p43, List.forall_mem_cons.mpr ⟨lw_p44, List.forall_mem_cons.mpr ⟨lw_p45, List.forall_mem_cons.mpr ⟨lw_p46, List.forall_mem_cons.mpr ⟨lw_p47, fun _ h => absurd h List.not_mem_nil⟩⟩⟩⟩⟩⟩⟩⟩⟩⟩⟩⟩⟩⟩⟩⟩
theorem lw_p48 : lw_okq (⟨"ItchParishModel", "readPart", "()V"⟩, 40) := ⟨⟨by decide +kernel, by decide +kernel⟩, List.mem_of_getElem? (i := 1370) (by decide +kernel), List.mem_of_getElem? (i := 1585) (by decide +kernel), List.mem_of_getElem? (i := 1586) (by decide +kernel)⟩
theorem lw_p49 : lw_okq (⟨"ItchParishModel", "isOdds", "()Z"⟩, 40) := ⟨⟨by decide +kernel, by decide +kernel⟩, List.mem_of_getElem? (i := 1370) (by decide +kernel), List.mem_of_getElem? (i := 1589) (by decide +kernel), List.mem_of_getElem? (i := 1590) (by decide +kernel)⟩
theorem lw_p50 : lw_okq (⟨"ItchParishModel", "isWord", "(J)Z"⟩, 40) := ⟨⟨by decide +kernel, by decide +kernel⟩, List.mem_of_getElem? (i := 1370) (by decide +kernel), List.mem_of_getElem? (i := 1596) (by decide +kernel), List.mem_of_getElem? (i := 1597) (by decide +kernel)⟩
theorem lw_p51 : lw_okq (⟨"ItchParishModel", "readOnce", "(II)V"⟩, 40) := ⟨⟨by decide +kernel, by decide +kernel⟩, List.mem_of_getElem? (i := 1370) (by decide +kernel), List.mem_of_getElem? (i := 1600) (by decide +kernel), List.mem_of_getElem? (i := 1601) (by decide +kernel)⟩
theorem lw_p52 : lw_okq (⟨"ItchParishModel", "fail", "(II)V"⟩, 40) := ⟨⟨by decide +kernel, by decide +kernel⟩, List.mem_of_getElem? (i := 1370) (by decide +kernel), List.mem_of_getElem? (i := 1607) (by decide +kernel), List.mem_of_getElem? (i := 1608) (by decide +kernel)⟩
theorem lw_p53 : lw_okq (⟨"ItchParishModel", "must", "(Z)V"⟩, 40) := ⟨⟨by decide +kernel, by decide +kernel⟩, List.mem_of_getElem? (i := 1370) (by decide +kernel), List.mem_of_getElem? (i := 1611) (by decide +kernel), List.mem_of_getElem? (i := 1612) (by decide +kernel)⟩
theorem lw_p54 : lw_okq (⟨"ItchParishModel", "amiss", "()V"⟩, 40) := ⟨⟨by decide +kernel, by decide +kernel⟩, List.mem_of_getElem? (i := 1370) (by decide +kernel), List.mem_of_getElem? (i := 1615) (by decide +kernel), List.mem_of_getElem? (i := 1616) (by decide +kernel)⟩
theorem lw_p55 : lw_okq (⟨"ItchParishModel", "count", "(II)I"⟩, 40) := ⟨⟨by decide +kernel, by decide +kernel⟩, List.mem_of_getElem? (i := 1370) (by decide +kernel), List.mem_of_getElem? (i := 1619) (by decide +kernel), List.mem_of_getElem? (i := 1620) (by decide +kernel)⟩
theorem lw_p56 : lw_okq (⟨"ItchParishModel", "isArm", "()Z"⟩, 40) := ⟨⟨by decide +kernel, by decide +kernel⟩, List.mem_of_getElem? (i := 1370) (by decide +kernel), List.mem_of_getElem? (i := 1626) (by decide +kernel), List.mem_of_getElem? (i := 1627) (by decide +kernel)⟩
theorem lw_p57 : lw_okq (⟨"ItchParishModel", "isKindWord", "()Z"⟩, 40) := ⟨⟨by decide +kernel, by decide +kernel⟩, List.mem_of_getElem? (i := 1370) (by decide +kernel), List.mem_of_getElem? (i := 1630) (by decide +kernel), List.mem_of_getElem? (i := 1631) (by decide +kernel)⟩
theorem lw_p58 : lw_okq (⟨"ItchParishModel", "readKind", "()V"⟩, 40) := ⟨⟨by decide +kernel, by decide +kernel⟩, List.mem_of_getElem? (i := 1370) (by decide +kernel), List.mem_of_getElem? (i := 1634) (by decide +kernel), List.mem_of_getElem? (i := 1635) (by decide +kernel)⟩
theorem lw_p59 : lw_okq (⟨"ItchParishModel", "another", "(II)I"⟩, 40) := ⟨⟨by decide +kernel, by decide +kernel⟩, List.mem_of_getElem? (i := 1370) (by decide +kernel), List.mem_of_getElem? (i := 1638) (by decide +kernel), List.mem_of_getElem? (i := 1639) (by decide +kernel)⟩
theorem lw_p60 : lw_okq (⟨"ItchParishModel", "isStepWord", "()Z"⟩, 40) := ⟨⟨by decide +kernel, by decide +kernel⟩, List.mem_of_getElem? (i := 1370) (by decide +kernel), List.mem_of_getElem? (i := 1642) (by decide +kernel), List.mem_of_getElem? (i := 1643) (by decide +kernel)⟩
theorem lw_p61 : lw_okq (⟨"ItchParishModel", "behindWord", "(ZII)I"⟩, 40) := ⟨⟨by decide +kernel, by decide +kernel⟩, List.mem_of_getElem? (i := 1370) (by decide +kernel), List.mem_of_getElem? (i := 1646) (by decide +kernel), List.mem_of_getElem? (i := 1647) (by decide +kernel)⟩
theorem lw_p62 : lw_okq (⟨"ItchParishModel", "isSpotWord", "()Z"⟩, 40) := ⟨⟨by decide +kernel, by decide +kernel⟩, List.mem_of_getElem? (i := 1370) (by decide +kernel), List.mem_of_getElem? (i := 1650) (by decide +kernel), List.mem_of_getElem? (i := 1651) (by decide +kernel)⟩
theorem lw_p63 : lw_okq (⟨"ItchParishModel", "isWeight", "()Z"⟩, 40) := ⟨⟨by decide +kernel, by decide +kernel⟩, List.mem_of_getElem? (i := 1370) (by decide +kernel), List.mem_of_getElem? (i := 1654) (by decide +kernel), List.mem_of_getElem? (i := 1655) (by decide +kernel)⟩
def lw_privs_4 : List (MethodName × Nat) := [(⟨"ItchParishModel", "readPart", "()V"⟩, 40), (⟨"ItchParishModel", "isOdds", "()Z"⟩, 40), (⟨"ItchParishModel", "isWord", "(J)Z"⟩, 40), (⟨"ItchParishModel", "readOnce", "(II)V"⟩, 40), (⟨"ItchParishModel", "fail", "(II)V"⟩, 40), (⟨"ItchParishModel", "must", "(Z)V"⟩, 40), (⟨"ItchParishModel", "amiss", "()V"⟩, 40), (⟨"ItchParishModel", "count", "(II)I"⟩, 40), (⟨"ItchParishModel", "isArm", "()Z"⟩, 40), (⟨"ItchParishModel", "isKindWord", "()Z"⟩, 40), (⟨"ItchParishModel", "readKind", "()V"⟩, 40), (⟨"ItchParishModel", "another", "(II)I"⟩, 40), (⟨"ItchParishModel", "isStepWord", "()Z"⟩, 40), (⟨"ItchParishModel", "behindWord", "(ZII)I"⟩, 40), (⟨"ItchParishModel", "isSpotWord", "()Z"⟩, 40), (⟨"ItchParishModel", "isWeight", "()Z"⟩, 40)]
theorem lw_r4 : ∀ q ∈ lw_privs_4, lw_okq q := List.forall_mem_cons.mpr ⟨lw_p48, List.forall_mem_cons.mpr ⟨lw_p49, List.forall_mem_cons.mpr ⟨lw_p50, List.forall_mem_cons.mpr ⟨lw_p51, List.forall_mem_cons.mpr ⟨lw_p52, List.forall_mem_cons.mpr ⟨lw_p53, List.forall_mem_cons.mpr ⟨lw_p54, List.forall_mem_cons.mpr ⟨lw_p55, List.forall_mem_cons.mpr ⟨lw_p56, List.forall_mem_cons.mpr ⟨lw_p57, List.forall_mem_cons.mpr ⟨lw_p58, List.forall_mem_cons.mpr ⟨lw_p59, List.forall_mem_cons.mpr ⟨lw_p60, List.forall_mem_cons.mpr ⟨lw_p61, List.forall_mem_cons.mpr ⟨lw_p62, List.forall_mem_cons.mpr ⟨lw_p63, fun _ h => absurd h List.not_mem_nil⟩⟩⟩⟩⟩⟩⟩⟩⟩⟩⟩⟩⟩⟩⟩⟩
theorem lw_p64 : lw_okq (⟨"ItchParishModel", "perhaps", "(Z)Z"⟩, 40) := ⟨⟨by decide +kernel, by decide +kernel⟩, List.mem_of_getElem? (i := 1370) (by decide +kernel), List.mem_of_getElem? (i := 1658) (by decide +kernel), List.mem_of_getElem? (i := 1659) (by decide +kernel)⟩
theorem lw_p65 : lw_okq (⟨"ItchParishModel", "isPerson", "()Z"⟩, 40) := ⟨⟨by decide +kernel, by decide +kernel⟩, List.mem_of_getElem? (i := 1370) (by decide +kernel), List.mem_of_getElem? (i := 1662) (by decide +kernel), List.mem_of_getElem? (i := 1663) (by decide +kernel)⟩
theorem lw_p66 : lw_okq (⟨"ItchParishModel", "readPerson", "()V"⟩, 40) := ⟨⟨by decide +kernel, by decide +kernel⟩, List.mem_of_getElem? (i := 1370) (by decide +kernel), List.mem_of_getElem? (i := 1666) (by decide +kernel), List.mem_of_getElem? (i := 1667) (by decide +kernel)⟩
theorem lw_p67 : lw_okq (⟨"ItchParishModel", "isName", "()Z"⟩, 40) := ⟨⟨by decide +kernel, by decide +kernel⟩, List.mem_of_getElem? (i := 1370) (by decide +kernel), List.mem_of_getElem? (i := 1670) (by decide +kernel), List.mem_of_getElem? (i := 1671) (by decide +kernel)⟩
theorem lw_p68 : lw_okq (⟨"ItchParishModel", "isKept", "()Z"⟩, 40) := ⟨⟨by decide +kernel, by decide +kernel⟩, List.mem_of_getElem? (i := 1370) (by decide +kernel), List.mem_of_getElem? (i := 1674) (by decide +kernel), List.mem_of_getElem? (i := 1675) (by decide +kernel)⟩
theorem lw_p69 : lw_okq (⟨"ItchParishModel", "isHome", "()Z"⟩, 40) := ⟨⟨by decide +kernel, by decide +kernel⟩, List.mem_of_getElem? (i := 1370) (by decide +kernel), List.mem_of_getElem? (i := 1678) (by decide +kernel), List.mem_of_getElem? (i := 1679) (by decide +kernel)⟩
theorem lw_p70 : lw_okq (⟨"ItchParishModel", "isReach", "()Z"⟩, 40) := ⟨⟨by decide +kernel, by decide +kernel⟩, List.mem_of_getElem? (i := 1370) (by decide +kernel), List.mem_of_getElem? (i := 1682) (by decide +kernel), List.mem_of_getElem? (i := 1683) (by decide +kernel)⟩
theorem lw_p71 : lw_okq (⟨"ItchParishModel", "isThing", "()Z"⟩, 40) := ⟨⟨by decide +kernel, by decide +kernel⟩, List.mem_of_getElem? (i := 1370) (by decide +kernel), List.mem_of_getElem? (i := 1686) (by decide +kernel), List.mem_of_getElem? (i := 1687) (by decide +kernel)⟩
theorem lw_p72 : lw_okq (⟨"ItchParishModel", "isWorth", "()Z"⟩, 40) := ⟨⟨by decide +kernel, by decide +kernel⟩, List.mem_of_getElem? (i := 1370) (by decide +kernel), List.mem_of_getElem? (i := 1690) (by decide +kernel), List.mem_of_getElem? (i := 1691) (by decide +kernel)⟩
theorem lw_p73 : lw_okq (⟨"ItchParishModel", "stepWord", "()I"⟩, 40) := ⟨⟨by decide +kernel, by decide +kernel⟩, List.mem_of_getElem? (i := 1370) (by decide +kernel), List.mem_of_getElem? (i := 1694) (by decide +kernel), List.mem_of_getElem? (i := 1695) (by decide +kernel)⟩
theorem lw_p74 : lw_okq (⟨"ItchParishModel", "testWord", "()I"⟩, 40) := ⟨⟨by decide +kernel, by decide +kernel⟩, List.mem_of_getElem? (i := 1370) (by decide +kernel), List.mem_of_getElem? (i := 1699) (by decide +kernel), List.mem_of_getElem? (i := 1700) (by decide +kernel)⟩
theorem lw_p75 : lw_okq (⟨"ItchParishModel", "isEnd", "()Z"⟩, 40) := ⟨⟨by decide +kernel, by decide +kernel⟩, List.mem_of_getElem? (i := 1370) (by decide +kernel), List.mem_of_getElem? (i := 1703) (by decide +kernel), List.mem_of_getElem? (i := 1704) (by decide +kernel)⟩
theorem lw_p76 : lw_okq (⟨"ItchParishModel", "named", "(I)I"⟩, 40) := ⟨⟨by decide +kernel, by decide +kernel⟩, List.mem_of_getElem? (i := 1370) (by decide +kernel), List.mem_of_getElem? (i := 1707) (by decide +kernel), List.mem_of_getElem? (i := 1708) (by decide +kernel)⟩
theorem lw_p77 : lw_okq (⟨"ItchParishModel", "readThing", "()V"⟩, 40) := ⟨⟨by decide +kernel, by decide +kernel⟩, List.mem_of_getElem? (i := 1370) (by decide +kernel), List.mem_of_getElem? (i := 1712) (by decide +kernel), List.mem_of_getElem? (i := 1713) (by decide +kernel)⟩
theorem lw_p78 : lw_okq (⟨"ItchParishModel", "readTold", "(I)I"⟩, 40) := ⟨⟨by decide +kernel, by decide +kernel⟩, List.mem_of_getElem? (i := 1370) (by decide +kernel), List.mem_of_getElem? (i := 1716) (by decide +kernel), List.mem_of_getElem? (i := 1717) (by decide +kernel)⟩
theorem lw_p79 : lw_okq (⟨"ItchParishModel", "loses", "(IIII)V"⟩, 40) := ⟨⟨by decide +kernel, by decide +kernel⟩, List.mem_of_getElem? (i := 1370) (by decide +kernel), List.mem_of_getElem? (i := 1721) (by decide +kernel), List.mem_of_getElem? (i := 1722) (by decide +kernel)⟩
def lw_privs_5 : List (MethodName × Nat) := [(⟨"ItchParishModel", "perhaps", "(Z)Z"⟩, 40), (⟨"ItchParishModel", "isPerson", "()Z"⟩, 40), (⟨"ItchParishModel", "readPerson", "()V"⟩, 40), (⟨"ItchParishModel", "isName", "()Z"⟩, 40), (⟨"ItchParishModel", "isKept", "()Z"⟩, 40), (⟨"ItchParishModel", "isHome", "()Z"⟩, 40), (⟨"ItchParishModel", "isReach", "()Z"⟩, 40), (⟨"ItchParishModel", "isThing", "()Z"⟩, 40), (⟨"ItchParishModel", "isWorth", "()Z"⟩, 40), (⟨"ItchParishModel", "stepWord", "()I"⟩, 40), (⟨"ItchParishModel", "testWord", "()I"⟩, 40), (⟨"ItchParishModel", "isEnd", "()Z"⟩, 40), (⟨"ItchParishModel", "named", "(I)I"⟩, 40), (⟨"ItchParishModel", "readThing", "()V"⟩, 40), (⟨"ItchParishModel", "readTold", "(I)I"⟩, 40), (⟨"ItchParishModel", "loses", "(IIII)V"⟩, 40)]
theorem lw_r5 : ∀ q ∈ lw_privs_5, lw_okq q := List.forall_mem_cons.mpr ⟨lw_p64, List.forall_mem_cons.mpr ⟨lw_p65, List.forall_mem_cons.mpr ⟨lw_p66, List.forall_mem_cons.mpr ⟨lw_p67, List.forall_mem_cons.mpr ⟨lw_p68, List.forall_mem_cons.mpr ⟨lw_p69, List.forall_mem_cons.mpr ⟨lw_p70, List.forall_mem_cons.mpr ⟨lw_p71, List.forall_mem_cons.mpr ⟨lw_p72, List.forall_mem_cons.mpr ⟨lw_p73, List.forall_mem_cons.mpr ⟨lw_p74, List.forall_mem_cons.mpr ⟨lw_p75, List.forall_mem_cons.mpr ⟨lw_p76, List.forall_mem_cons.mpr ⟨lw_p77, List.forall_mem_cons.mpr ⟨lw_p78, List.forall_mem_cons.mpr ⟨lw_p79, fun _ h => absurd h List.not_mem_nil⟩⟩⟩⟩⟩⟩⟩⟩⟩⟩⟩⟩⟩⟩⟩⟩
theorem lw_p80 : lw_okq (⟨"ItchParishModel", "isSign", "(I)Z"⟩, 40) := ⟨⟨by decide +kernel, by decide +kernel⟩, List.mem_of_getElem? (i := 1370) (by decide +kernel), List.mem_of_getElem? (i := 1725) (by decide +kernel), List.mem_of_getElem? (i := 1726) (by decide +kernel)⟩
theorem lw_p81 : lw_okq (⟨"ItchParishModel", "isWell", "()Z"⟩, 40) := ⟨⟨by decide +kernel, by decide +kernel⟩, List.mem_of_getElem? (i := 1370) (by decide +kernel), List.mem_of_getElem? (i := 1729) (by decide +kernel), List.mem_of_getElem? (i := 1730) (by decide +kernel)⟩
theorem lw_p82 : lw_okq (⟨"ItchParishModel", "copy", "(II)V"⟩, 40) := ⟨⟨by decide +kernel, by decide +kernel⟩, List.mem_of_getElem? (i := 1370) (by decide +kernel), List.mem_of_getElem? (i := 1733) (by decide +kernel), List.mem_of_getElem? (i := 1734) (by decide +kernel)⟩
theorem lw_p83 : lw_okq (⟨"ItchParishModel", "readStep", "(I)V"⟩, 40) := ⟨⟨by decide +kernel, by decide +kernel⟩, List.mem_of_getElem? (i := 1370) (by decide +kernel), List.mem_of_getElem? (i := 1741) (by decide +kernel), List.mem_of_getElem? (i := 1742) (by decide +kernel)⟩
theorem lw_p84 : lw_okq (⟨"ItchParishModel", "readRest", "(I)V"⟩, 40) := ⟨⟨by decide +kernel, by decide +kernel⟩, List.mem_of_getElem? (i := 1370) (by decide +kernel), List.mem_of_getElem? (i := 1745) (by decide +kernel), List.mem_of_getElem? (i := 1746) (by decide +kernel)⟩
theorem lw_p85 : lw_okq (⟨"ItchParishModel", "readTest", "(I)V"⟩, 40) := ⟨⟨by decide +kernel, by decide +kernel⟩, List.mem_of_getElem? (i := 1370) (by decide +kernel), List.mem_of_getElem? (i := 1749) (by decide +kernel), List.mem_of_getElem? (i := 1750) (by decide +kernel)⟩
theorem lw_p86 : lw_okq (⟨"ItchParishModel", "refuse", "(I)I"⟩, 40) := ⟨⟨by decide +kernel, by decide +kernel⟩, List.mem_of_getElem? (i := 1370) (by decide +kernel), List.mem_of_getElem? (i := 1758) (by decide +kernel), List.mem_of_getElem? (i := 1759) (by decide +kernel)⟩
theorem lw_p87 : lw_okq (⟨"ItchParishModel", "things", "(I)I"⟩, 40) := ⟨⟨by decide +kernel, by decide +kernel⟩, List.mem_of_getElem? (i := 1370) (by decide +kernel), List.mem_of_getElem? (i := 1762) (by decide +kernel), List.mem_of_getElem? (i := 1763) (by decide +kernel)⟩
theorem lw_p88 : lw_okq (⟨"ItchParishModel", "isUp", "(I)Z"⟩, 40) := ⟨⟨by decide +kernel, by decide +kernel⟩, List.mem_of_getElem? (i := 1370) (by decide +kernel), List.mem_of_getElem? (i := 1766) (by decide +kernel), List.mem_of_getElem? (i := 1767) (by decide +kernel)⟩
theorem lw_p89 : lw_okq (⟨"ItchParishModel", "isScratched", "(I)Z"⟩, 40) := ⟨⟨by decide +kernel, by decide +kernel⟩, List.mem_of_getElem? (i := 1370) (by decide +kernel), List.mem_of_getElem? (i := 1770) (by decide +kernel), List.mem_of_getElem? (i := 1771) (by decide +kernel)⟩
theorem lw_p90 : lw_okq (⟨"ItchParishModel", "comesUp", "(I)I"⟩, 40) := ⟨⟨by decide +kernel, by decide +kernel⟩, List.mem_of_getElem? (i := 1370) (by decide +kernel), List.mem_of_getElem? (i := 1774) (by decide +kernel), List.mem_of_getElem? (i := 1775) (by decide +kernel)⟩
theorem lw_p91 : lw_okq (⟨"ItchParishModel", "wayOf", "(I)I"⟩, 40) := ⟨⟨by decide +kernel, by decide +kernel⟩, List.mem_of_getElem? (i := 1370) (by decide +kernel), List.mem_of_getElem? (i := 1778) (by decide +kernel), List.mem_of_getElem? (i := 1779) (by decide +kernel)⟩
theorem lw_p92 : lw_okq (⟨"ItchParishModel", "bearerOf", "(I)I"⟩, 40) := ⟨⟨by decide +kernel, by decide +kernel⟩, List.mem_of_getElem? (i := 1370) (by decide +kernel), List.mem_of_getElem? (i := 1782) (by decide +kernel), List.mem_of_getElem? (i := 1783) (by decide +kernel)⟩
theorem lw_p93 : lw_okq (⟨"ItchParishModel", "bearerBy", "(II)I"⟩, 40) := ⟨⟨by decide +kernel, by decide +kernel⟩, List.mem_of_getElem? (i := 1370) (by decide +kernel), List.mem_of_getElem? (i := 1786) (by decide +kernel), List.mem_of_getElem? (i := 1787) (by decide +kernel)⟩
theorem lw_p94 : lw_okq (⟨"ItchParishModel", "farBy", "(II)I"⟩, 40) := ⟨⟨by decide +kernel, by decide +kernel⟩, List.mem_of_getElem? (i := 1370) (by decide +kernel), List.mem_of_getElem? (i := 1790) (by decide +kernel), List.mem_of_getElem? (i := 1791) (by decide +kernel)⟩
theorem lw_p95 : lw_okq (⟨"ItchParishModel", "isFound", "(I)Z"⟩, 40) := ⟨⟨by decide +kernel, by decide +kernel⟩, List.mem_of_getElem? (i := 1370) (by decide +kernel), List.mem_of_getElem? (i := 1795) (by decide +kernel), List.mem_of_getElem? (i := 1796) (by decide +kernel)⟩
def lw_privs_6 : List (MethodName × Nat) := [(⟨"ItchParishModel", "isSign", "(I)Z"⟩, 40), (⟨"ItchParishModel", "isWell", "()Z"⟩, 40), (⟨"ItchParishModel", "copy", "(II)V"⟩, 40), (⟨"ItchParishModel", "readStep", "(I)V"⟩, 40), (⟨"ItchParishModel", "readRest", "(I)V"⟩, 40), (⟨"ItchParishModel", "readTest", "(I)V"⟩, 40), (⟨"ItchParishModel", "refuse", "(I)I"⟩, 40), (⟨"ItchParishModel", "things", "(I)I"⟩, 40), (⟨"ItchParishModel", "isUp", "(I)Z"⟩, 40), (⟨"ItchParishModel", "isScratched", "(I)Z"⟩, 40), (⟨"ItchParishModel", "comesUp", "(I)I"⟩, 40), (⟨"ItchParishModel", "wayOf", "(I)I"⟩, 40), (⟨"ItchParishModel", "bearerOf", "(I)I"⟩, 40), (⟨"ItchParishModel", "bearerBy", "(II)I"⟩, 40), (⟨"ItchParishModel", "farBy", "(II)I"⟩, 40), (⟨"ItchParishModel", "isFound", "(I)Z"⟩, 40)]
theorem lw_r6 : ∀ q ∈ lw_privs_6, lw_okq q := List.forall_mem_cons.mpr ⟨lw_p80, List.forall_mem_cons.mpr ⟨lw_p81, List.forall_mem_cons.mpr ⟨lw_p82, List.forall_mem_cons.mpr ⟨lw_p83, List.forall_mem_cons.mpr ⟨lw_p84, List.forall_mem_cons.mpr ⟨lw_p85, List.forall_mem_cons.mpr ⟨lw_p86, List.forall_mem_cons.mpr ⟨lw_p87, List.forall_mem_cons.mpr ⟨lw_p88, List.forall_mem_cons.mpr ⟨lw_p89, List.forall_mem_cons.mpr ⟨lw_p90, List.forall_mem_cons.mpr ⟨lw_p91, List.forall_mem_cons.mpr ⟨lw_p92, List.forall_mem_cons.mpr ⟨lw_p93, List.forall_mem_cons.mpr ⟨lw_p94, List.forall_mem_cons.mpr ⟨lw_p95, fun _ h => absurd h List.not_mem_nil⟩⟩⟩⟩⟩⟩⟩⟩⟩⟩⟩⟩⟩⟩⟩⟩
theorem lw_p96 : lw_okq (⟨"ItchParishModel", "isKindAt", "(J)Z"⟩, 40) := ⟨⟨by decide +kernel, by decide +kernel⟩, List.mem_of_getElem? (i := 1370) (by decide +kernel), List.mem_of_getElem? (i := 1803) (by decide +kernel), List.mem_of_getElem? (i := 1804) (by decide +kernel)⟩
theorem lw_p97 : lw_okq (⟨"ItchParishModel", "isPersonAt", "(J)Z"⟩, 40) := ⟨⟨by decide +kernel, by decide +kernel⟩, List.mem_of_getElem? (i := 1370) (by decide +kernel), List.mem_of_getElem? (i := 1812) (by decide +kernel), List.mem_of_getElem? (i := 1813) (by decide +kernel)⟩
theorem lw_p98 : lw_okq (⟨"ItchParishModel", "thingsOf", "(IZ)I"⟩, 40) := ⟨⟨by decide +kernel, by decide +kernel⟩, List.mem_of_getElem? (i := 1370) (by decide +kernel), List.mem_of_getElem? (i := 1817) (by decide +kernel), List.mem_of_getElem? (i := 1818) (by decide +kernel)⟩
theorem lw_p99 : lw_okq (⟨"ItchParishModel", "isThingAt", "(I)Z"⟩, 40) := ⟨⟨by decide +kernel, by decide +kernel⟩, List.mem_of_getElem? (i := 1370) (by decide +kernel), List.mem_of_getElem? (i := 1825) (by decide +kernel), List.mem_of_getElem? (i := 1826) (by decide +kernel)⟩
theorem lw_p100 : lw_okq (⟨"ItchParishModel", "spotOf", "(I)I"⟩, 40) := ⟨⟨by decide +kernel, by decide +kernel⟩, List.mem_of_getElem? (i := 1370) (by decide +kernel), List.mem_of_getElem? (i := 1829) (by decide +kernel), List.mem_of_getElem? (i := 1830) (by decide +kernel)⟩
theorem lw_p101 : lw_okq (⟨"ItchParishModel", "spotBy", "(II)I"⟩, 40) := ⟨⟨by decide +kernel, by decide +kernel⟩, List.mem_of_getElem? (i := 1370) (by decide +kernel), List.mem_of_getElem? (i := 1833) (by decide +kernel), List.mem_of_getElem? (i := 1834) (by decide +kernel)⟩
theorem lw_p102 : lw_okq (⟨"ItchParishModel", "whoCould", "(I)I"⟩, 40) := ⟨⟨by decide +kernel, by decide +kernel⟩, List.mem_of_getElem? (i := 1370) (by decide +kernel), List.mem_of_getElem? (i := 1837) (by decide +kernel), List.mem_of_getElem? (i := 1838) (by decide +kernel)⟩
theorem lw_p103 : lw_okq (⟨"ItchParishModel", "couldScratch", "(II)Z"⟩, 40) := ⟨⟨by decide +kernel, by decide +kernel⟩, List.mem_of_getElem? (i := 1370) (by decide +kernel), List.mem_of_getElem? (i := 1841) (by decide +kernel), List.mem_of_getElem? (i := 1842) (by decide +kernel)⟩
theorem lw_p104 : lw_okq (⟨"ItchParishModel", "isTray", "(I)Z"⟩, 40) := ⟨⟨by decide +kernel, by decide +kernel⟩, List.mem_of_getElem? (i := 1370) (by decide +kernel), List.mem_of_getElem? (i := 1853) (by decide +kernel), List.mem_of_getElem? (i := 1854) (by decide +kernel)⟩
theorem lw_p105 : lw_okq (⟨"ItchParishModel", "scratches", "(II)Z"⟩, 40) := ⟨⟨by decide +kernel, by decide +kernel⟩, List.mem_of_getElem? (i := 1370) (by decide +kernel), List.mem_of_getElem? (i := 1871) (by decide +kernel), List.mem_of_getElem? (i := 1872) (by decide +kernel)⟩
theorem lw_p106 : lw_okq (⟨"ItchParishModel", "everybody", "()I"⟩, 40) := ⟨⟨by decide +kernel, by decide +kernel⟩, List.mem_of_getElem? (i := 1370) (by decide +kernel), List.mem_of_getElem? (i := 1908) (by decide +kernel), List.mem_of_getElem? (i := 1909) (by decide +kernel)⟩
theorem lw_p107 : lw_okq (⟨"ItchParishModel", "works2", "(II)I"⟩, 40) := ⟨⟨by decide +kernel, by decide +kernel⟩, List.mem_of_getElem? (i := 1370) (by decide +kernel), List.mem_of_getElem? (i := 1912) (by decide +kernel), List.mem_of_getElem? (i := 1913) (by decide +kernel)⟩
theorem lw_p108 : lw_okq (⟨"ItchParishModel", "laysNeeds", "(I)V"⟩, 40) := ⟨⟨by decide +kernel, by decide +kernel⟩, List.mem_of_getElem? (i := 1370) (by decide +kernel), List.mem_of_getElem? (i := 1924) (by decide +kernel), List.mem_of_getElem? (i := 1925) (by decide +kernel)⟩
theorem lw_p109 : lw_okq (⟨"ItchParishModel", "shortestRing", "()I"⟩, 40) := ⟨⟨by decide +kernel, by decide +kernel⟩, List.mem_of_getElem? (i := 1370) (by decide +kernel), List.mem_of_getElem? (i := 1932) (by decide +kernel), List.mem_of_getElem? (i := 1933) (by decide +kernel)⟩
theorem lw_p110 : lw_okq (⟨"ItchParishModel", "ringFrom", "(I)I"⟩, 40) := ⟨⟨by decide +kernel, by decide +kernel⟩, List.mem_of_getElem? (i := 1370) (by decide +kernel), List.mem_of_getElem? (i := 1936) (by decide +kernel), List.mem_of_getElem? (i := 1937) (by decide +kernel)⟩
theorem lw_p111 : lw_okq (⟨"ItchParishModel", "endings", "()I"⟩, 40) := ⟨⟨by decide +kernel, by decide +kernel⟩, List.mem_of_getElem? (i := 1370) (by decide +kernel), List.mem_of_getElem? (i := 1944) (by decide +kernel), List.mem_of_getElem? (i := 1945) (by decide +kernel)⟩
def lw_privs_7 : List (MethodName × Nat) := [(⟨"ItchParishModel", "isKindAt", "(J)Z"⟩, 40), (⟨"ItchParishModel", "isPersonAt", "(J)Z"⟩, 40), (⟨"ItchParishModel", "thingsOf", "(IZ)I"⟩, 40), (⟨"ItchParishModel", "isThingAt", "(I)Z"⟩, 40), (⟨"ItchParishModel", "spotOf", "(I)I"⟩, 40), (⟨"ItchParishModel", "spotBy", "(II)I"⟩, 40), (⟨"ItchParishModel", "whoCould", "(I)I"⟩, 40), (⟨"ItchParishModel", "couldScratch", "(II)Z"⟩, 40), (⟨"ItchParishModel", "isTray", "(I)Z"⟩, 40), (⟨"ItchParishModel", "scratches", "(II)Z"⟩, 40), (⟨"ItchParishModel", "everybody", "()I"⟩, 40), (⟨"ItchParishModel", "works2", "(II)I"⟩, 40), (⟨"ItchParishModel", "laysNeeds", "(I)V"⟩, 40), (⟨"ItchParishModel", "shortestRing", "()I"⟩, 40), (⟨"ItchParishModel", "ringFrom", "(I)I"⟩, 40), (⟨"ItchParishModel", "endings", "()I"⟩, 40)]
theorem lw_r7 : ∀ q ∈ lw_privs_7, lw_okq q := List.forall_mem_cons.mpr ⟨lw_p96, List.forall_mem_cons.mpr ⟨lw_p97, List.forall_mem_cons.mpr ⟨lw_p98, List.forall_mem_cons.mpr ⟨lw_p99, List.forall_mem_cons.mpr ⟨lw_p100, List.forall_mem_cons.mpr ⟨lw_p101, List.forall_mem_cons.mpr ⟨lw_p102, List.forall_mem_cons.mpr ⟨lw_p103, List.forall_mem_cons.mpr ⟨lw_p104, List.forall_mem_cons.mpr ⟨lw_p105, List.forall_mem_cons.mpr ⟨lw_p106, List.forall_mem_cons.mpr ⟨lw_p107, List.forall_mem_cons.mpr ⟨lw_p108, List.forall_mem_cons.mpr ⟨lw_p109, List.forall_mem_cons.mpr ⟨lw_p110, List.forall_mem_cons.mpr ⟨lw_p111, fun _ h => absurd h List.not_mem_nil⟩⟩⟩⟩⟩⟩⟩⟩⟩⟩⟩⟩⟩⟩⟩⟩
theorem lw_p112 : lw_okq (⟨"ItchParishModel", "couplesOf", "(III)I"⟩, 40) := ⟨⟨by decide +kernel, by decide +kernel⟩, List.mem_of_getElem? (i := 1370) (by decide +kernel), List.mem_of_getElem? (i := 1959) (by decide +kernel), List.mem_of_getElem? (i := 1960) (by decide +kernel)⟩
theorem lw_p113 : lw_okq (⟨"ItchParishModel", "fraction", "(JJ)Z"⟩, 40) := ⟨⟨by decide +kernel, by decide +kernel⟩, List.mem_of_getElem? (i := 1370) (by decide +kernel), List.mem_of_getElem? (i := 1967) (by decide +kernel), List.mem_of_getElem? (i := 1968) (by decide +kernel)⟩
theorem lw_p114 : lw_okq (⟨"ItchParishModel", "whyNoLaw", "(II)I"⟩, 40) := ⟨⟨by decide +kernel, by decide +kernel⟩, List.mem_of_getElem? (i := 1370) (by decide +kernel), List.mem_of_getElem? (i := 1978) (by decide +kernel), List.mem_of_getElem? (i := 1979) (by decide +kernel)⟩
theorem lw_p115 : lw_okq (⟨"ItchParishModel", "numberOf", "(II)J"⟩, 40) := ⟨⟨by decide +kernel, by decide +kernel⟩, List.mem_of_getElem? (i := 1370) (by decide +kernel), List.mem_of_getElem? (i := 1983) (by decide +kernel), List.mem_of_getElem? (i := 1984) (by decide +kernel)⟩
theorem lw_p116 : lw_okq (⟨"ItchParishModel", "isLaw", "(IIII)Z"⟩, 40) := ⟨⟨by decide +kernel, by decide +kernel⟩, List.mem_of_getElem? (i := 1370) (by decide +kernel), List.mem_of_getElem? (i := 1987) (by decide +kernel), List.mem_of_getElem? (i := 1988) (by decide +kernel)⟩
theorem lw_p117 : lw_okq (⟨"ItchParishModel", "laysHands", "(I)V"⟩, 40) := ⟨⟨by decide +kernel, by decide +kernel⟩, List.mem_of_getElem? (i := 1370) (by decide +kernel), List.mem_of_getElem? (i := 1999) (by decide +kernel), List.mem_of_getElem? (i := 2000) (by decide +kernel)⟩
theorem lw_p118 : lw_okq (⟨"ItchParishModel", "isWalk", "(II)Z"⟩, 40) := ⟨⟨by decide +kernel, by decide +kernel⟩, List.mem_of_getElem? (i := 1370) (by decide +kernel), List.mem_of_getElem? (i := 2015) (by decide +kernel), List.mem_of_getElem? (i := 2016) (by decide +kernel)⟩
theorem lw_p119 : lw_okq (⟨"ItchParishModel", "walkBy", "(II)I"⟩, 40) := ⟨⟨by decide +kernel, by decide +kernel⟩, List.mem_of_getElem? (i := 1370) (by decide +kernel), List.mem_of_getElem? (i := 2019) (by decide +kernel), List.mem_of_getElem? (i := 2020) (by decide +kernel)⟩
theorem lw_p120 : lw_okq (⟨"ItchParishModel", "whyNoGame", "(IIII)I"⟩, 40) := ⟨⟨by decide +kernel, by decide +kernel⟩, List.mem_of_getElem? (i := 1370) (by decide +kernel), List.mem_of_getElem? (i := 2035) (by decide +kernel), List.mem_of_getElem? (i := 2036) (by decide +kernel)⟩
theorem lw_p121 : lw_okq (⟨"ItchParishModel", "plays", "(IIIII)I"⟩, 40) := ⟨⟨by decide +kernel, by decide +kernel⟩, List.mem_of_getElem? (i := 1370) (by decide +kernel), List.mem_of_getElem? (i := 2040) (by decide +kernel), List.mem_of_getElem? (i := 2041) (by decide +kernel)⟩
theorem lw_p122 : lw_okq (⟨"ItchParishModel", "runsDays", "(I)V"⟩, 40) := ⟨⟨by decide +kernel, by decide +kernel⟩, List.mem_of_getElem? (i := 1370) (by decide +kernel), List.mem_of_getElem? (i := 2058) (by decide +kernel), List.mem_of_getElem? (i := 2059) (by decide +kernel)⟩
theorem lw_p123 : lw_okq (⟨"ItchParishModel", "doAll", "(II)V"⟩, 40) := ⟨⟨by decide +kernel, by decide +kernel⟩, List.mem_of_getElem? (i := 1370) (by decide +kernel), List.mem_of_getElem? (i := 2062) (by decide +kernel), List.mem_of_getElem? (i := 2063) (by decide +kernel)⟩
theorem lw_p124 : lw_okq (⟨"ItchParishModel", "doOne", "(I)V"⟩, 40) := ⟨⟨by decide +kernel, by decide +kernel⟩, List.mem_of_getElem? (i := 1370) (by decide +kernel), List.mem_of_getElem? (i := 2066) (by decide +kernel), List.mem_of_getElem? (i := 2067) (by decide +kernel)⟩
theorem lw_p125 : lw_okq (⟨"ItchParishModel", "does", "(I)Z"⟩, 40) := ⟨⟨by decide +kernel, by decide +kernel⟩, List.mem_of_getElem? (i := 1370) (by decide +kernel), List.mem_of_getElem? (i := 2070) (by decide +kernel), List.mem_of_getElem? (i := 2071) (by decide +kernel)⟩
theorem lw_p126 : lw_okq (⟨"ItchParishModel", "waits", "(I)Z"⟩, 40) := ⟨⟨by decide +kernel, by decide +kernel⟩, List.mem_of_getElem? (i := 1370) (by decide +kernel), List.mem_of_getElem? (i := 2074) (by decide +kernel), List.mem_of_getElem? (i := 2075) (by decide +kernel)⟩
theorem lw_p127 : lw_okq (⟨"ItchParishModel", "isLost", "(II)Z"⟩, 40) := ⟨⟨by decide +kernel, by decide +kernel⟩, List.mem_of_getElem? (i := 1370) (by decide +kernel), List.mem_of_getElem? (i := 2078) (by decide +kernel), List.mem_of_getElem? (i := 2079) (by decide +kernel)⟩
def lw_privs_8 : List (MethodName × Nat) := [(⟨"ItchParishModel", "couplesOf", "(III)I"⟩, 40), (⟨"ItchParishModel", "fraction", "(JJ)Z"⟩, 40), (⟨"ItchParishModel", "whyNoLaw", "(II)I"⟩, 40), (⟨"ItchParishModel", "numberOf", "(II)J"⟩, 40), (⟨"ItchParishModel", "isLaw", "(IIII)Z"⟩, 40), (⟨"ItchParishModel", "laysHands", "(I)V"⟩, 40), (⟨"ItchParishModel", "isWalk", "(II)Z"⟩, 40), (⟨"ItchParishModel", "walkBy", "(II)I"⟩, 40), (⟨"ItchParishModel", "whyNoGame", "(IIII)I"⟩, 40), (⟨"ItchParishModel", "plays", "(IIIII)I"⟩, 40), (⟨"ItchParishModel", "runsDays", "(I)V"⟩, 40), (⟨"ItchParishModel", "doAll", "(II)V"⟩, 40), (⟨"ItchParishModel", "doOne", "(I)V"⟩, 40), (⟨"ItchParishModel", "does", "(I)Z"⟩, 40), (⟨"ItchParishModel", "waits", "(I)Z"⟩, 40), (⟨"ItchParishModel", "isLost", "(II)Z"⟩, 40)]
theorem lw_r8 : ∀ q ∈ lw_privs_8, lw_okq q := List.forall_mem_cons.mpr ⟨lw_p112, List.forall_mem_cons.mpr ⟨lw_p113, List.forall_mem_cons.mpr ⟨lw_p114, List.forall_mem_cons.mpr ⟨lw_p115, List.forall_mem_cons.mpr ⟨lw_p116, List.forall_mem_cons.mpr ⟨lw_p117, List.forall_mem_cons.mpr ⟨lw_p118, List.forall_mem_cons.mpr ⟨lw_p119, List.forall_mem_cons.mpr ⟨lw_p120, List.forall_mem_cons.mpr ⟨lw_p121, List.forall_mem_cons.mpr ⟨lw_p122, List.forall_mem_cons.mpr ⟨lw_p123, List.forall_mem_cons.mpr ⟨lw_p124, List.forall_mem_cons.mpr ⟨lw_p125, List.forall_mem_cons.mpr ⟨lw_p126, List.forall_mem_cons.mpr ⟨lw_p127, fun _ h => absurd h List.not_mem_nil⟩⟩⟩⟩⟩⟩⟩⟩⟩⟩⟩⟩⟩⟩⟩⟩
theorem lw_p128 : lw_okq (⟨"ItchParishModel", "isDone", "(II)Z"⟩, 40) := ⟨⟨by decide +kernel, by decide +kernel⟩, List.mem_of_getElem? (i := 1370) (by decide +kernel), List.mem_of_getElem? (i := 2082) (by decide +kernel), List.mem_of_getElem? (i := 2083) (by decide +kernel)⟩
theorem lw_p129 : lw_okq (⟨"ItchParishModel", "isAny", "()Z"⟩, 40) := ⟨⟨by decide +kernel, by decide +kernel⟩, List.mem_of_getElem? (i := 1370) (by decide +kernel), List.mem_of_getElem? (i := 2086) (by decide +kernel), List.mem_of_getElem? (i := 2087) (by decide +kernel)⟩
theorem lw_p130 : lw_okq (⟨"ItchParishModel", "draw", "(I)I"⟩, 40) := ⟨⟨by decide +kernel, by decide +kernel⟩, List.mem_of_getElem? (i := 1370) (by decide +kernel), List.mem_of_getElem? (i := 2090) (by decide +kernel), List.mem_of_getElem? (i := 2091) (by decide +kernel)⟩
theorem lw_p131 : lw_okq (⟨"ItchParishModel", "holds", "(I)Z"⟩, 40) := ⟨⟨by decide +kernel, by decide +kernel⟩, List.mem_of_getElem? (i := 1370) (by decide +kernel), List.mem_of_getElem? (i := 2095) (by decide +kernel), List.mem_of_getElem? (i := 2096) (by decide +kernel)⟩
def lw_privs_9 : List (MethodName × Nat) := [(⟨"ItchParishModel", "isDone", "(II)Z"⟩, 40), (⟨"ItchParishModel", "isAny", "()Z"⟩, 40), (⟨"ItchParishModel", "draw", "(I)I"⟩, 40), (⟨"ItchParishModel", "holds", "(I)Z"⟩, 40)]
theorem lw_r9 : ∀ q ∈ lw_privs_9, lw_okq q := List.forall_mem_cons.mpr ⟨lw_p128, List.forall_mem_cons.mpr ⟨lw_p129, List.forall_mem_cons.mpr ⟨lw_p130, List.forall_mem_cons.mpr ⟨lw_p131, fun _ h => absurd h List.not_mem_nil⟩⟩⟩⟩
def lw_privs : List (MethodName × Nat) := lw_privs_1 ++ (lw_privs_2 ++ (lw_privs_3 ++ (lw_privs_4 ++ (lw_privs_5 ++ (lw_privs_6 ++ (lw_privs_7 ++ (lw_privs_8 ++ (lw_privs_9))))))))
def lw_tbl : List Cond := k2_sels lw_privs ++ tables_1
theorem lw_privs_ok : ∀ q ∈ lw_privs, lw_okq q := by
  show ∀ q ∈ lw_privs_1 ++ (lw_privs_2 ++ (lw_privs_3 ++ (lw_privs_4 ++ (lw_privs_5 ++ (lw_privs_6 ++ (lw_privs_7 ++ (lw_privs_8 ++ (lw_privs_9)))))))), lw_okq q
  exact List.forall_mem_append.mpr ⟨lw_r1, List.forall_mem_append.mpr ⟨lw_r2, List.forall_mem_append.mpr ⟨lw_r3, List.forall_mem_append.mpr ⟨lw_r4, List.forall_mem_append.mpr ⟨lw_r5, List.forall_mem_append.mpr ⟨lw_r6, List.forall_mem_append.mpr ⟨lw_r7, List.forall_mem_append.mpr ⟨lw_r8, lw_r9⟩⟩⟩⟩⟩⟩⟩⟩
def RX0 : String := "ItchParish$Arrows"
def TX0 : u_T := fun k => match k with
  | 0 => ("ItchParish$Arrows", "targets", "[I", true)
  | _ => ("ItchParish$Arrows", "steps", "[I", true)
def tyX0 : Nat → FieldType := fun k => match k with
  | 0 => .array .int
  | _ => .array .int
theorem nmX0 : ∀ a, a < 2 → ∀ b, b < 2 → a ≠ b → (TX0 a).2.1 ≠ (TX0 b).2.1 := by decide +kernel
theorem tyX0_ok : ∀ k, k < 2 → parseFieldDescriptor (TX0 k).2.2.1 = some (tyX0 k) := by decide +kernel
abbrev cX0_init : ByteArray := prog_2_method_1_code
def yX0_init : MethodName := ⟨RX0, "<init>", "()V"⟩
abbrev cX0_clear : ByteArray := prog_2_method_2_code
def yX0_clear : MethodName := ⟨RX0, "clear", "()V"⟩
abbrev cX0_draw : ByteArray := prog_2_method_3_code
def yX0_draw : MethodName := ⟨RX0, "draw", "(II)V"⟩
abbrev cX0_drawNeeds : ByteArray := prog_2_method_4_code
def yX0_drawNeeds : MethodName := ⟨RX0, "drawNeeds", "(LItchParish$Parish;I)V"⟩
abbrev cX0_drawKinds : ByteArray := prog_2_method_5_code
def yX0_drawKinds : MethodName := ⟨RX0, "drawKinds", "(LItchParish$Parish;)V"⟩
abbrev cX0_from : ByteArray := prog_2_method_6_code
def yX0_from : MethodName := ⟨RX0, "from", "(I)I"⟩
abbrev cX0_fromAll : ByteArray := prog_2_method_7_code
def yX0_fromAll : MethodName := ⟨RX0, "fromAll", "(I)I"⟩
abbrev cX0_shortestRing : ByteArray := prog_2_method_8_code
def yX0_shortestRing : MethodName := ⟨RX0, "shortestRing", "()I"⟩
abbrev cX0_leastEnding : ByteArray := prog_2_method_9_code
def yX0_leastEnding : MethodName := ⟨RX0, "leastEnding", "(LItchParish$Parish;)I"⟩
abbrev cX0_measureTo : ByteArray := prog_2_method_10_code
def yX0_measureTo : MethodName := ⟨RX0, "measureTo", "(I)V"⟩
abbrev cX0_nextOnWay : ByteArray := prog_2_method_11_code
def yX0_nextOnWay : MethodName := ⟨RX0, "nextOnWay", "(II)I"⟩
abbrev cX0_stepsFrom : ByteArray := prog_2_method_12_code
def yX0_stepsFrom : MethodName := ⟨RX0, "stepsFrom", "(I)I"⟩
abbrev cX0_passedBy : ByteArray := prog_2_method_13_code
def yX0_passedBy : MethodName := ⟨RX0, "passedBy", "(II)I"⟩
def RX1 : String := "ItchParish$Clues"
def TX1 : u_T := fun k => match k with
  | _ => ("", "", "", false)
def tyX1 : Nat → FieldType := fun k => match k with
  | _ => .int
theorem nmX1 : ∀ a, a < 0 → ∀ b, b < 0 → a ≠ b → (TX1 a).2.1 ≠ (TX1 b).2.1 := by decide +kernel
theorem tyX1_ok : ∀ k, k < 0 → parseFieldDescriptor (TX1 k).2.2.1 = some (tyX1 k) := by decide +kernel
abbrev cX1_itches : ByteArray := prog_3_method_2_code
def yX1_itches : MethodName := ⟨RX1, "itches", "(LItchParish$Parish;IIII)Z"⟩
abbrev cX1_countCouples : ByteArray := prog_3_method_3_code
def yX1_countCouples : MethodName := ⟨RX1, "countCouples", "(LItchParish$Parish;II)I"⟩
abbrev cX1_weightOf : ByteArray := prog_3_method_4_code
def yX1_weightOf : MethodName := ⟨RX1, "weightOf", "(LItchParish$Parish;III)I"⟩
abbrev cX1_spotSet : ByteArray := prog_3_method_5_code
def yX1_spotSet : MethodName := ⟨RX1, "spotSet", "(LItchParish$Parish;II)I"⟩
abbrev cX1_areThrees : ByteArray := prog_3_method_6_code
def yX1_areThrees : MethodName := ⟨RX1, "areThrees", "(LItchParish$Parish;LItchParish$Rows;II)Z"⟩
abbrev cX1_isLaw : ByteArray := prog_3_method_7_code
def yX1_isLaw : MethodName := ⟨RX1, "isLaw", "(LItchParish$Parish;LItchParish$Rows;III)Z"⟩
abbrev cX1_countLaws : ByteArray := prog_3_method_8_code
def yX1_countLaws : MethodName := ⟨RX1, "countLaws", "(LItchParish$Parish;LItchParish$Rows;II)I"⟩
abbrev cX1_firstLaw : ByteArray := prog_3_method_9_code
def yX1_firstLaw : MethodName := ⟨RX1, "firstLaw", "(LItchParish$Parish;LItchParish$Rows;II)I"⟩
def RX2 : String := "ItchParish$DistrictReader"
def TX2 : u_T := fun k => match k with
  | 0 => ("ItchParish$DistrictReader", "tape", "LItchParish$Tape;", true)
  | 1 => ("ItchParish$DistrictReader", "parish", "LItchParish$Parish;", true)
  | _ => ("ItchParish$DistrictReader", "told", "I", false)
def tyX2 : Nat → FieldType := fun k => match k with
  | 0 => .object "ItchParish$Tape"
  | 1 => .object "ItchParish$Parish"
  | _ => .int
theorem nmX2 : ∀ a, a < 3 → ∀ b, b < 3 → a ≠ b → (TX2 a).2.1 ≠ (TX2 b).2.1 := by decide +kernel
theorem tyX2_ok : ∀ k, k < 3 → parseFieldDescriptor (TX2 k).2.2.1 = some (tyX2 k) := by decide +kernel
abbrev cX2_init : ByteArray := prog_4_method_1_code
def yX2_init : MethodName := ⟨RX2, "<init>", "(LItchParish$Tape;LItchParish$Parish;)V"⟩
abbrev cX2_takeAll : ByteArray := prog_4_method_2_code
def yX2_takeAll : MethodName := ⟨RX2, "takeAll", "()Z"⟩
abbrev cX2_takePart : ByteArray := prog_4_method_3_code
def yX2_takePart : MethodName := ⟨RX2, "takePart", "()Z"⟩
abbrev cX2_takeRule : ByteArray := prog_4_method_4_code
def yX2_takeRule : MethodName := ⟨RX2, "takeRule", "(II)Z"⟩
abbrev cX2_takeKind : ByteArray := prog_4_method_5_code
def yX2_takeKind : MethodName := ⟨RX2, "takeKind", "()Z"⟩
abbrev cX2_takePerhaps : ByteArray := prog_4_method_6_code
def yX2_takePerhaps : MethodName := ⟨RX2, "takePerhaps", "(II)I"⟩
abbrev cX2_takePerson : ByteArray := prog_4_method_7_code
def yX2_takePerson : MethodName := ⟨RX2, "takePerson", "()Z"⟩
abbrev cX2_takeReach : ByteArray := prog_4_method_8_code
def yX2_takeReach : MethodName := ⟨RX2, "takeReach", "()I"⟩
abbrev cX2_takeThing : ByteArray := prog_4_method_9_code
def yX2_takeThing : MethodName := ⟨RX2, "takeThing", "()Z"⟩
def RX3 : String := "ItchParish$Life"
def TX3 : u_T := fun k => match k with
  | 0 => ("ItchParish$Life", "roundsLeft", "[I", true)
  | 1 => ("ItchParish$Life", "drawn", "I", false)
  | 2 => ("ItchParish$Life", "steps", "I", false)
  | 3 => ("ItchParish$Life", "missed", "I", false)
  | 4 => ("ItchParish$Life", "minutes", "I", false)
  | 5 => ("ItchParish$Life", "lost", "I", false)
  | 6 => ("ItchParish$Life", "scratched", "I", false)
  | 7 => ("ItchParish$Life", "cutShort", "I", false)
  | _ => ("ItchParish$Life", "wasRun", "Z", false)
def tyX3 : Nat → FieldType := fun k => match k with
  | 0 => .array .int
  | 1 => .int
  | 2 => .int
  | 3 => .int
  | 4 => .int
  | 5 => .int
  | 6 => .int
  | 7 => .int
  | _ => .boolean
theorem nmX3 : ∀ a, a < 9 → ∀ b, b < 9 → a ≠ b → (TX3 a).2.1 ≠ (TX3 b).2.1 := by decide +kernel
theorem tyX3_ok : ∀ k, k < 9 → parseFieldDescriptor (TX3 k).2.2.1 = some (tyX3 k) := by decide +kernel
abbrev cX3_init : ByteArray := prog_5_method_1_code
def yX3_init : MethodName := ⟨RX3, "<init>", "()V"⟩
abbrev cX3_wasRun : ByteArray := prog_5_method_2_code
def yX3_wasRun : MethodName := ⟨RX3, "wasRun", "()Z"⟩
abbrev cX3_steps : ByteArray := prog_5_method_3_code
def yX3_steps : MethodName := ⟨RX3, "steps", "()I"⟩
abbrev cX3_tally : ByteArray := prog_5_method_4_code
def yX3_tally : MethodName := ⟨RX3, "tally", "(I)I"⟩
abbrev cX3_run : ByteArray := prog_5_method_5_code
def yX3_run : MethodName := ⟨RX3, "run", "(LItchParish$Plan;LItchParish$Parish;I)V"⟩
abbrev cX3_behindEnd : ByteArray := prog_5_method_6_code
def yX3_behindEnd : MethodName := ⟨RX3, "behindEnd", "(LItchParish$Plan;I)I"⟩
abbrev cX3_behindStep : ByteArray := prog_5_method_7_code
def yX3_behindStep : MethodName := ⟨RX3, "behindStep", "(LItchParish$Plan;LItchParish$Parish;I)I"⟩
abbrev cX3_isDone : ByteArray := prog_5_method_8_code
def yX3_isDone : MethodName := ⟨RX3, "isDone", "(LItchParish$Parish;III)Z"⟩
abbrev cX3_intoLoop : ByteArray := prog_5_method_9_code
def yX3_intoLoop : MethodName := ⟨RX3, "intoLoop", "(LItchParish$Plan;II)I"⟩
abbrev cX3_draw : ByteArray := prog_5_method_10_code
def yX3_draw : MethodName := ⟨RX3, "draw", "(I)I"⟩
abbrev cX3_holds : ByteArray := prog_5_method_11_code
def yX3_holds : MethodName := ⟨RX3, "holds", "(LItchParish$Parish;II)Z"⟩
def RX4 : String := "ItchParish$Parish"
def TX4 : u_T := fun k => match k with
  | 0 => ("ItchParish$Parish", "odds", "I", false)
  | 1 => ("ItchParish$Parish", "arm", "I", false)
  | 2 => ("ItchParish$Parish", "minute", "I", false)
  | 3 => ("ItchParish$Parish", "kinds", "I", false)
  | 4 => ("ItchParish$Parish", "people", "I", false)
  | 5 => ("ItchParish$Parish", "things", "I", false)
  | 6 => ("ItchParish$Parish", "kindSteps", "[I", true)
  | 7 => ("ItchParish$Parish", "kindSpots", "[I", true)
  | 8 => ("ItchParish$Parish", "kindWeights", "[I", true)
  | 9 => ("ItchParish$Parish", "names", "[J", true)
  | 10 => ("ItchParish$Parish", "homes", "[I", true)
  | 11 => ("ItchParish$Parish", "reaches", "[I", true)
  | 12 => ("ItchParish$Parish", "owners", "[I", true)
  | 13 => ("ItchParish$Parish", "thingKinds", "[I", true)
  | 14 => ("ItchParish$Parish", "worths", "[I", true)
  | 15 => ("ItchParish$Parish", "lostAts", "[I", true)
  | 16 => ("ItchParish$Parish", "scratchedAts", "[I", true)
  | _ => ("ItchParish$Parish", "foundAts", "[I", true)
def tyX4 : Nat → FieldType := fun k => match k with
  | 0 => .int
  | 1 => .int
  | 2 => .int
  | 3 => .int
  | 4 => .int
  | 5 => .int
  | 6 => .array .int
  | 7 => .array .int
  | 8 => .array .int
  | 9 => .array .long
  | 10 => .array .int
  | 11 => .array .int
  | 12 => .array .int
  | 13 => .array .int
  | 14 => .array .int
  | 15 => .array .int
  | 16 => .array .int
  | _ => .array .int
theorem nmX4 : ∀ a, a < 18 → ∀ b, b < 18 → a ≠ b → (TX4 a).2.1 ≠ (TX4 b).2.1 := by decide +kernel
theorem tyX4_ok : ∀ k, k < 18 → parseFieldDescriptor (TX4 k).2.2.1 = some (tyX4 k) := by decide +kernel
abbrev cX4_init : ByteArray := prog_6_method_1_code
def yX4_init : MethodName := ⟨RX4, "<init>", "()V"⟩
abbrev cX4_clear : ByteArray := prog_6_method_2_code
def yX4_clear : MethodName := ⟨RX4, "clear", "()V"⟩
abbrev cX4_copyFrom : ByteArray := prog_6_method_3_code
def yX4_copyFrom : MethodName := ⟨RX4, "copyFrom", "(LItchParish$Parish;)V"⟩
abbrev cX4_odds : ByteArray := prog_6_method_4_code
def yX4_odds : MethodName := ⟨RX4, "odds", "()I"⟩
abbrev cX4_arm : ByteArray := prog_6_method_5_code
def yX4_arm : MethodName := ⟨RX4, "arm", "()I"⟩
abbrev cX4_minute : ByteArray := prog_6_method_6_code
def yX4_minute : MethodName := ⟨RX4, "minute", "()I"⟩
abbrev cX4_kinds : ByteArray := prog_6_method_7_code
def yX4_kinds : MethodName := ⟨RX4, "kinds", "()I"⟩
abbrev cX4_people : ByteArray := prog_6_method_8_code
def yX4_people : MethodName := ⟨RX4, "people", "()I"⟩
abbrev cX4_things : ByteArray := prog_6_method_9_code
def yX4_things : MethodName := ⟨RX4, "things", "()I"⟩
abbrev cX4_setOdds : ByteArray := prog_6_method_10_code
def yX4_setOdds : MethodName := ⟨RX4, "setOdds", "(I)V"⟩
abbrev cX4_setArm : ByteArray := prog_6_method_11_code
def yX4_setArm : MethodName := ⟨RX4, "setArm", "(I)V"⟩
abbrev cX4_hasKind : ByteArray := prog_6_method_12_code
def yX4_hasKind : MethodName := ⟨RX4, "hasKind", "(I)Z"⟩
abbrev cX4_hasPerson : ByteArray := prog_6_method_13_code
def yX4_hasPerson : MethodName := ⟨RX4, "hasPerson", "(I)Z"⟩
abbrev cX4_hasThing : ByteArray := prog_6_method_14_code
def yX4_hasThing : MethodName := ⟨RX4, "hasThing", "(I)Z"⟩
abbrev cX4_isSpot : ByteArray := prog_6_method_15_code
def yX4_isSpot : MethodName := ⟨RX4, "isSpot", "(I)Z"⟩
abbrev cX4_isHome : ByteArray := prog_6_method_16_code
def yX4_isHome : MethodName := ⟨RX4, "isHome", "(I)Z"⟩
abbrev cX4_isThingSet : ByteArray := prog_6_method_17_code
def yX4_isThingSet : MethodName := ⟨RX4, "isThingSet", "(I)Z"⟩
abbrev cX4_addKind : ByteArray := prog_6_method_18_code
def yX4_addKind : MethodName := ⟨RX4, "addKind", "(III)V"⟩
abbrev cX4_ofKind : ByteArray := prog_6_method_19_code
def yX4_ofKind : MethodName := ⟨RX4, "ofKind", "(II)I"⟩
abbrev cX4_weightOfKind : ByteArray := prog_6_method_20_code
def yX4_weightOfKind : MethodName := ⟨RX4, "weightOfKind", "(I)I"⟩
abbrev cX4_isForKind : ByteArray := prog_6_method_21_code
def yX4_isForKind : MethodName := ⟨RX4, "isForKind", "(II)Z"⟩
abbrev cX4_changeKind : ByteArray := prog_6_method_22_code
def yX4_changeKind : MethodName := ⟨RX4, "changeKind", "(III)V"⟩
abbrev cX4_bearerBySteps : ByteArray := prog_6_method_23_code
def yX4_bearerBySteps : MethodName := ⟨RX4, "bearerBySteps", "(II)I"⟩
abbrev cX4_spotFrom : ByteArray := prog_6_method_24_code
def yX4_spotFrom : MethodName := ⟨RX4, "spotFrom", "(II)I"⟩
abbrev cX4_bearerBy : ByteArray := prog_6_method_25_code
def yX4_bearerBy : MethodName := ⟨RX4, "bearerBy", "(II)I"⟩
abbrev cX4_spotBy : ByteArray := prog_6_method_26_code
def yX4_spotBy : MethodName := ⟨RX4, "spotBy", "(II)I"⟩
abbrev cX4_addPerson : ByteArray := prog_6_method_27_code
def yX4_addPerson : MethodName := ⟨RX4, "addPerson", "(JII)I"⟩
abbrev cX4_personNamed : ByteArray := prog_6_method_28_code
def yX4_personNamed : MethodName := ⟨RX4, "personNamed", "(J)I"⟩
abbrev cX4_homeOf : ByteArray := prog_6_method_29_code
def yX4_homeOf : MethodName := ⟨RX4, "homeOf", "(I)I"⟩
abbrev cX4_reachOf : ByteArray := prog_6_method_30_code
def yX4_reachOf : MethodName := ⟨RX4, "reachOf", "(I)I"⟩
abbrev cX4_reaches : ByteArray := prog_6_method_31_code
def yX4_reaches : MethodName := ⟨RX4, "reaches", "(II)Z"⟩
abbrev cX4_toggleReach : ByteArray := prog_6_method_32_code
def yX4_toggleReach : MethodName := ⟨RX4, "toggleReach", "(II)V"⟩
abbrev cX4_settle : ByteArray := prog_6_method_33_code
def yX4_settle : MethodName := ⟨RX4, "settle", "(II)V"⟩
abbrev cX4_apart : ByteArray := prog_6_method_34_code
def yX4_apart : MethodName := ⟨RX4, "apart", "(II)I"⟩
abbrev cX4_addThing : ByteArray := prog_6_method_35_code
def yX4_addThing : MethodName := ⟨RX4, "addThing", "(III)I"⟩
abbrev cX4_ownerOf : ByteArray := prog_6_method_36_code
def yX4_ownerOf : MethodName := ⟨RX4, "ownerOf", "(I)I"⟩
abbrev cX4_kindOf : ByteArray := prog_6_method_37_code
def yX4_kindOf : MethodName := ⟨RX4, "kindOf", "(I)I"⟩
abbrev cX4_worthOf : ByteArray := prog_6_method_38_code
def yX4_worthOf : MethodName := ⟨RX4, "worthOf", "(I)I"⟩
abbrev cX4_lostAtOf : ByteArray := prog_6_method_39_code
def yX4_lostAtOf : MethodName := ⟨RX4, "lostAtOf", "(I)I"⟩
abbrev cX4_bearerOf : ByteArray := prog_6_method_40_code
def yX4_bearerOf : MethodName := ⟨RX4, "bearerOf", "(I)I"⟩
abbrev cX4_spotOf : ByteArray := prog_6_method_41_code
def yX4_spotOf : MethodName := ⟨RX4, "spotOf", "(I)I"⟩
abbrev cX4_delayOf : ByteArray := prog_6_method_42_code
def yX4_delayOf : MethodName := ⟨RX4, "delayOf", "(I)I"⟩
abbrev cX4_upAtOf : ByteArray := prog_6_method_43_code
def yX4_upAtOf : MethodName := ⟨RX4, "upAtOf", "(I)I"⟩
abbrev cX4_scratchedAtOf : ByteArray := prog_6_method_44_code
def yX4_scratchedAtOf : MethodName := ⟨RX4, "scratchedAtOf", "(I)I"⟩
abbrev cX4_foundAtOf : ByteArray := prog_6_method_45_code
def yX4_foundAtOf : MethodName := ⟨RX4, "foundAtOf", "(I)I"⟩
abbrev cX4_isScratched : ByteArray := prog_6_method_46_code
def yX4_isScratched : MethodName := ⟨RX4, "isScratched", "(I)Z"⟩
abbrev cX4_isUp : ByteArray := prog_6_method_47_code
def yX4_isUp : MethodName := ⟨RX4, "isUp", "(I)Z"⟩
abbrev cX4_isFound : ByteArray := prog_6_method_48_code
def yX4_isFound : MethodName := ⟨RX4, "isFound", "(I)Z"⟩
abbrev cX4_isAble : ByteArray := prog_6_method_49_code
def yX4_isAble : MethodName := ⟨RX4, "isAble", "(II)Z"⟩
abbrev cX4_canScratchNow : ByteArray := prog_6_method_50_code
def yX4_canScratchNow : MethodName := ⟨RX4, "canScratchNow", "(II)Z"⟩
abbrev cX4_endItch : ByteArray := prog_6_method_51_code
def yX4_endItch : MethodName := ⟨RX4, "endItch", "(I)V"⟩
abbrev cX4_soonestFound : ByteArray := prog_6_method_52_code
def yX4_soonestFound : MethodName := ⟨RX4, "soonestFound", "(I)I"⟩
abbrev cX4_canWait : ByteArray := prog_6_method_53_code
def yX4_canWait : MethodName := ⟨RX4, "canWait", "(I)Z"⟩
abbrev cX4_goOn : ByteArray := prog_6_method_54_code
def yX4_goOn : MethodName := ⟨RX4, "goOn", "(I)V"⟩
abbrev cX4_ableSetFor : ByteArray := prog_6_method_55_code
def yX4_ableSetFor : MethodName := ⟨RX4, "ableSetFor", "(I)I"⟩
abbrev cX4_upSet : ByteArray := prog_6_method_56_code
def yX4_upSet : MethodName := ⟨RX4, "upSet", "()I"⟩
abbrev cX4_upSetOn : ByteArray := prog_6_method_57_code
def yX4_upSetOn : MethodName := ⟨RX4, "upSetOn", "(I)I"⟩
abbrev cX4_upSetFor : ByteArray := prog_6_method_58_code
def yX4_upSetFor : MethodName := ⟨RX4, "upSetFor", "(I)I"⟩
abbrev cX4_ownSetOf : ByteArray := prog_6_method_59_code
def yX4_ownSetOf : MethodName := ⟨RX4, "ownSetOf", "(I)I"⟩
abbrev cX4_scratchedSet : ByteArray := prog_6_method_60_code
def yX4_scratchedSet : MethodName := ⟨RX4, "scratchedSet", "()I"⟩
abbrev cX4_foundSet : ByteArray := prog_6_method_61_code
def yX4_foundSet : MethodName := ⟨RX4, "foundSet", "()I"⟩
def RX5 : String := "ItchParish$Plan"
def TX5 : u_T := fun k => match k with
  | 0 => ("ItchParish$Plan", "deeds", "[I", true)
  | 1 => ("ItchParish$Plan", "firsts", "[I", true)
  | 2 => ("ItchParish$Plan", "seconds", "[I", true)
  | 3 => ("ItchParish$Plan", "mates", "[I", true)
  | 4 => ("ItchParish$Plan", "lines", "I", false)
  | 5 => ("ItchParish$Plan", "steps", "I", false)
  | _ => ("ItchParish$Plan", "isThere", "Z", false)
def tyX5 : Nat → FieldType := fun k => match k with
  | 0 => .array .int
  | 1 => .array .int
  | 2 => .array .int
  | 3 => .array .int
  | 4 => .int
  | 5 => .int
  | _ => .boolean
theorem nmX5 : ∀ a, a < 7 → ∀ b, b < 7 → a ≠ b → (TX5 a).2.1 ≠ (TX5 b).2.1 := by decide +kernel
theorem tyX5_ok : ∀ k, k < 7 → parseFieldDescriptor (TX5 k).2.2.1 = some (tyX5 k) := by decide +kernel
abbrev cX5_init : ByteArray := prog_7_method_1_code
def yX5_init : MethodName := ⟨RX5, "<init>", "()V"⟩
abbrev cX5_isThere : ByteArray := prog_7_method_2_code
def yX5_isThere : MethodName := ⟨RX5, "isThere", "()Z"⟩
abbrev cX5_lines : ByteArray := prog_7_method_3_code
def yX5_lines : MethodName := ⟨RX5, "lines", "()I"⟩
abbrev cX5_steps : ByteArray := prog_7_method_4_code
def yX5_steps : MethodName := ⟨RX5, "steps", "()I"⟩
abbrev cX5_forget : ByteArray := prog_7_method_5_code
def yX5_forget : MethodName := ⟨RX5, "forget", "()V"⟩
abbrev cX5_begin : ByteArray := prog_7_method_6_code
def yX5_begin : MethodName := ⟨RX5, "begin", "()V"⟩
abbrev cX5_addStep : ByteArray := prog_7_method_7_code
def yX5_addStep : MethodName := ⟨RX5, "addStep", "(III)V"⟩
abbrev cX5_addEnd : ByteArray := prog_7_method_8_code
def yX5_addEnd : MethodName := ⟨RX5, "addEnd", "(I)V"⟩
abbrev cX5_addLine : ByteArray := prog_7_method_9_code
def yX5_addLine : MethodName := ⟨RX5, "addLine", "(IIII)Z"⟩
abbrev cX5_hasLine : ByteArray := prog_7_method_10_code
def yX5_hasLine : MethodName := ⟨RX5, "hasLine", "(I)Z"⟩
abbrev cX5_deedAt : ByteArray := prog_7_method_11_code
def yX5_deedAt : MethodName := ⟨RX5, "deedAt", "(I)I"⟩
abbrev cX5_firstAt : ByteArray := prog_7_method_12_code
def yX5_firstAt : MethodName := ⟨RX5, "firstAt", "(I)I"⟩
abbrev cX5_secondAt : ByteArray := prog_7_method_13_code
def yX5_secondAt : MethodName := ⟨RX5, "secondAt", "(I)I"⟩
abbrev cX5_mateAt : ByteArray := prog_7_method_14_code
def yX5_mateAt : MethodName := ⟨RX5, "mateAt", "(I)I"⟩
abbrev cX5_copyFrom : ByteArray := prog_7_method_15_code
def yX5_copyFrom : MethodName := ⟨RX5, "copyFrom", "(LItchParish$Plan;)V"⟩
def RX6 : String := "ItchParish$PlanReader"
def TX6 : u_T := fun k => match k with
  | 0 => ("ItchParish$PlanReader", "tape", "LItchParish$Tape;", true)
  | 1 => ("ItchParish$PlanReader", "plan", "LItchParish$Plan;", true)
  | 2 => ("ItchParish$PlanReader", "parish", "LItchParish$Parish;", true)
  | 3 => ("ItchParish$PlanReader", "begins", "[I", true)
  | _ => ("ItchParish$PlanReader", "depth", "I", false)
def tyX6 : Nat → FieldType := fun k => match k with
  | 0 => .object "ItchParish$Tape"
  | 1 => .object "ItchParish$Plan"
  | 2 => .object "ItchParish$Parish"
  | 3 => .array .int
  | _ => .int
theorem nmX6 : ∀ a, a < 5 → ∀ b, b < 5 → a ≠ b → (TX6 a).2.1 ≠ (TX6 b).2.1 := by decide +kernel
theorem tyX6_ok : ∀ k, k < 5 → parseFieldDescriptor (TX6 k).2.2.1 = some (tyX6 k) := by decide +kernel
abbrev cX6_init : ByteArray := prog_8_method_1_code
def yX6_init : MethodName := ⟨RX6, "<init>", "(LItchParish$Tape;LItchParish$Plan;LItchParish$Parish;)V"⟩
abbrev cX6_takeAll : ByteArray := prog_8_method_2_code
def yX6_takeAll : MethodName := ⟨RX6, "takeAll", "()Z"⟩
abbrev cX6_takeEnd : ByteArray := prog_8_method_3_code
def yX6_takeEnd : MethodName := ⟨RX6, "takeEnd", "()Z"⟩
abbrev cX6_takeStep : ByteArray := prog_8_method_4_code
def yX6_takeStep : MethodName := ⟨RX6, "takeStep", "()Z"⟩
abbrev cX6_isDeed : ByteArray := prog_8_method_5_code
def yX6_isDeed : MethodName := ⟨RX6, "isDeed", "(I)Z"⟩
abbrev cX6_takeRest : ByteArray := prog_8_method_6_code
def yX6_takeRest : MethodName := ⟨RX6, "takeRest", "(I)Z"⟩
abbrev cX6_takeCount : ByteArray := prog_8_method_7_code
def yX6_takeCount : MethodName := ⟨RX6, "takeCount", "(I)Z"⟩
abbrev cX6_takeDeedOf : ByteArray := prog_8_method_8_code
def yX6_takeDeedOf : MethodName := ⟨RX6, "takeDeedOf", "(II)Z"⟩
abbrev cX6_takeTest : ByteArray := prog_8_method_9_code
def yX6_takeTest : MethodName := ⟨RX6, "takeTest", "(I)Z"⟩
def RX7 : String := "ItchParish$Rows"
def TX7 : u_T := fun k => match k with
  | 0 => ("ItchParish$Rows", "numbers", "[J", true)
  | 1 => ("ItchParish$Rows", "sorts", "[I", true)
  | _ => ("ItchParish$Rows", "lengths", "[I", true)
def tyX7 : Nat → FieldType := fun k => match k with
  | 0 => .array .long
  | 1 => .array .int
  | _ => .array .int
theorem nmX7 : ∀ a, a < 3 → ∀ b, b < 3 → a ≠ b → (TX7 a).2.1 ≠ (TX7 b).2.1 := by decide +kernel
theorem tyX7_ok : ∀ k, k < 3 → parseFieldDescriptor (TX7 k).2.2.1 = some (tyX7 k) := by decide +kernel
abbrev cX7_init : ByteArray := prog_9_method_1_code
def yX7_init : MethodName := ⟨RX7, "<init>", "()V"⟩
abbrev cX7_isTray : ByteArray := prog_9_method_2_code
def yX7_isTray : MethodName := ⟨RX7, "isTray", "(I)Z"⟩
abbrev cX7_isSort : ByteArray := prog_9_method_3_code
def yX7_isSort : MethodName := ⟨RX7, "isSort", "(I)Z"⟩
abbrev cX7_isThere : ByteArray := prog_9_method_4_code
def yX7_isThere : MethodName := ⟨RX7, "isThere", "(I)Z"⟩
abbrev cX7_lengthOf : ByteArray := prog_9_method_5_code
def yX7_lengthOf : MethodName := ⟨RX7, "lengthOf", "(I)I"⟩
abbrev cX7_sortOf : ByteArray := prog_9_method_6_code
def yX7_sortOf : MethodName := ⟨RX7, "sortOf", "(I)I"⟩
abbrev cX7_hasPlaces : ByteArray := prog_9_method_7_code
def yX7_hasPlaces : MethodName := ⟨RX7, "hasPlaces", "(III)Z"⟩
abbrev cX7_make : ByteArray := prog_9_method_8_code
def yX7_make : MethodName := ⟨RX7, "make", "(III)V"⟩
abbrev cX7_numberAt : ByteArray := prog_9_method_9_code
def yX7_numberAt : MethodName := ⟨RX7, "numberAt", "(II)J"⟩
abbrev cX7_put : ByteArray := prog_9_method_10_code
def yX7_put : MethodName := ⟨RX7, "put", "(IIJ)V"⟩
abbrev cX7_cut : ByteArray := prog_9_method_11_code
def yX7_cut : MethodName := ⟨RX7, "cut", "(IJ)J"⟩
abbrev cX7_transfer : ByteArray := prog_9_method_12_code
def yX7_transfer : MethodName := ⟨RX7, "transfer", "(IIIII)V"⟩
def RX8 : String := "ItchParish$Tape"
def TX8 : u_T := fun k => match k with
  | 0 => ("ItchParish$Tape", "wordCodes", "[J", true)
  | 1 => ("ItchParish$Tape", "bytes", "[B", true)
  | 2 => ("ItchParish$Tape", "size", "I", false)
  | 3 => ("ItchParish$Tape", "sorts", "[I", true)
  | 4 => ("ItchParish$Tape", "places", "[I", true)
  | 5 => ("ItchParish$Tape", "values", "[J", true)
  | 6 => ("ItchParish$Tape", "tokens", "I", false)
  | 7 => ("ItchParish$Tape", "at", "I", false)
  | 8 => ("ItchParish$Tape", "faultKind", "I", false)
  | _ => ("ItchParish$Tape", "faultPlace", "I", false)
def tyX8 : Nat → FieldType := fun k => match k with
  | 0 => .array .long
  | 1 => .array .byte
  | 2 => .int
  | 3 => .array .int
  | 4 => .array .int
  | 5 => .array .long
  | 6 => .int
  | 7 => .int
  | 8 => .int
  | _ => .int
theorem nmX8 : ∀ a, a < 10 → ∀ b, b < 10 → a ≠ b → (TX8 a).2.1 ≠ (TX8 b).2.1 := by decide +kernel
theorem tyX8_ok : ∀ k, k < 10 → parseFieldDescriptor (TX8 k).2.2.1 = some (tyX8 k) := by decide +kernel
abbrev cX8_init : ByteArray := prog_10_method_1_code
def yX8_init : MethodName := ⟨RX8, "<init>", "()V"⟩
abbrev cX8_size : ByteArray := prog_10_method_2_code
def yX8_size : MethodName := ⟨RX8, "size", "()I"⟩
abbrev cX8_faultKind : ByteArray := prog_10_method_3_code
def yX8_faultKind : MethodName := ⟨RX8, "faultKind", "()I"⟩
abbrev cX8_faultPlace : ByteArray := prog_10_method_4_code
def yX8_faultPlace : MethodName := ⟨RX8, "faultPlace", "()I"⟩
abbrev cX8_hasRoomFor : ByteArray := prog_10_method_5_code
def yX8_hasRoomFor : MethodName := ⟨RX8, "hasRoomFor", "(I)Z"⟩
abbrev cX8_append : ByteArray := prog_10_method_6_code
def yX8_append : MethodName := ⟨RX8, "append", "(I)V"⟩
abbrev cX8_wipe : ByteArray := prog_10_method_7_code
def yX8_wipe : MethodName := ⟨RX8, "wipe", "()V"⟩
abbrev cX8_open : ByteArray := prog_10_method_8_code
def yX8_open : MethodName := ⟨RX8, "open", "(I)V"⟩
abbrev cX8_takeToken : ByteArray := prog_10_method_9_code
def yX8_takeToken : MethodName := ⟨RX8, "takeToken", "(II)I"⟩
abbrev cX8_takeWord : ByteArray := prog_10_method_10_code
def yX8_takeWord : MethodName := ⟨RX8, "takeWord", "(II)I"⟩
abbrev cX8_takeDigits : ByteArray := prog_10_method_11_code
def yX8_takeDigits : MethodName := ⟨RX8, "takeDigits", "(II)I"⟩
abbrev cX8_add : ByteArray := prog_10_method_12_code
def yX8_add : MethodName := ⟨RX8, "add", "(IIJ)V"⟩
abbrev cX8_isLetter : ByteArray := prog_10_method_13_code
def yX8_isLetter : MethodName := ⟨RX8, "isLetter", "(I)Z"⟩
abbrev cX8_isDigit : ByteArray := prog_10_method_14_code
def yX8_isDigit : MethodName := ⟨RX8, "isDigit", "(I)Z"⟩
abbrev cX8_isBlank : ByteArray := prog_10_method_15_code
def yX8_isBlank : MethodName := ⟨RX8, "isBlank", "(I)Z"⟩
abbrev cX8_withLetter : ByteArray := prog_10_method_16_code
def yX8_withLetter : MethodName := ⟨RX8, "withLetter", "(JI)J"⟩
abbrev cX8_sortHere : ByteArray := prog_10_method_17_code
def yX8_sortHere : MethodName := ⟨RX8, "sortHere", "()I"⟩
abbrev cX8_valueHere : ByteArray := prog_10_method_18_code
def yX8_valueHere : MethodName := ⟨RX8, "valueHere", "()J"⟩
abbrev cX8_next : ByteArray := prog_10_method_19_code
def yX8_next : MethodName := ⟨RX8, "next", "()V"⟩
abbrev cX8_isAtEnd : ByteArray := prog_10_method_20_code
def yX8_isAtEnd : MethodName := ⟨RX8, "isAtEnd", "()Z"⟩
abbrev cX8_isAtNumber : ByteArray := prog_10_method_21_code
def yX8_isAtNumber : MethodName := ⟨RX8, "isAtNumber", "()Z"⟩
abbrev cX8_isAtNumberOf : ByteArray := prog_10_method_22_code
def yX8_isAtNumberOf : MethodName := ⟨RX8, "isAtNumberOf", "(I)Z"⟩
abbrev cX8_nameHere : ByteArray := prog_10_method_23_code
def yX8_nameHere : MethodName := ⟨RX8, "nameHere", "()J"⟩
abbrev cX8_takePersonOf : ByteArray := prog_10_method_24_code
def yX8_takePersonOf : MethodName := ⟨RX8, "takePersonOf", "(LItchParish$Parish;)I"⟩
abbrev cX8_refuse : ByteArray := prog_10_method_25_code
def yX8_refuse : MethodName := ⟨RX8, "refuse", "(I)Z"⟩
abbrev cX8_take : ByteArray := prog_10_method_26_code
def yX8_take : MethodName := ⟨RX8, "take", "(I)Z"⟩
abbrev cX8_takeNumber : ByteArray := prog_10_method_27_code
def yX8_takeNumber : MethodName := ⟨RX8, "takeNumber", "(II)I"⟩
def RX9 : String := "ItchParish$Walks"
def TX9 : u_T := fun k => match k with
  | _ => ("", "", "", false)
def tyX9 : Nat → FieldType := fun k => match k with
  | _ => .int
theorem nmX9 : ∀ a, a < 0 → ∀ b, b < 0 → a ≠ b → (TX9 a).2.1 ≠ (TX9 b).2.1 := by decide +kernel
theorem tyX9_ok : ∀ k, k < 0 → parseFieldDescriptor (TX9 k).2.2.1 = some (tyX9 k) := by decide +kernel
abbrev cX9_cost : ByteArray := prog_11_method_2_code
def yX9_cost : MethodName := ⟨RX9, "cost", "(LItchParish$Parish;II)I"⟩
abbrev cX9_orders : ByteArray := prog_11_method_3_code
def yX9_orders : MethodName := ⟨RX9, "orders", "(I)J"⟩
abbrev cX9_shareOfAllOrders : ByteArray := prog_11_method_4_code
def yX9_shareOfAllOrders : MethodName := ⟨RX9, "shareOfAllOrders", "(LItchParish$Parish;III)J"⟩
def RX10 : String := "ItchParish$Work"
def TX10 : u_T := fun k => match k with
  | 0 => ("ItchParish$Work", "ableSets", "[I", true)
  | 1 => ("ItchParish$Work", "workers", "[I", true)
  | _ => ("ItchParish$Work", "most", "[I", true)
def tyX10 : Nat → FieldType := fun k => match k with
  | 0 => .array .int
  | 1 => .array .int
  | _ => .array .int
theorem nmX10 : ∀ a, a < 3 → ∀ b, b < 3 → a ≠ b → (TX10 a).2.1 ≠ (TX10 b).2.1 := by decide +kernel
theorem tyX10_ok : ∀ k, k < 3 → parseFieldDescriptor (TX10 k).2.2.1 = some (tyX10 k) := by decide +kernel
abbrev cX10_init : ByteArray := prog_12_method_1_code
def yX10_init : MethodName := ⟨RX10, "<init>", "()V"⟩
abbrev cX10_assign : ByteArray := prog_12_method_2_code
def yX10_assign : MethodName := ⟨RX10, "assign", "(LItchParish$Parish;)I"⟩
abbrev cX10_mostFrom : ByteArray := prog_12_method_3_code
def yX10_mostFrom : MethodName := ⟨RX10, "mostFrom", "(II)I"⟩
abbrev cX10_mostBehind : ByteArray := prog_12_method_4_code
def yX10_mostBehind : MethodName := ⟨RX10, "mostBehind", "(II)I"⟩
abbrev cX10_bestWorker : ByteArray := prog_12_method_5_code
def yX10_bestWorker : MethodName := ⟨RX10, "bestWorker", "(II)I"⟩
abbrev cX10_workerOn : ByteArray := prog_12_method_6_code
def yX10_workerOn : MethodName := ⟨RX10, "workerOn", "(I)I"⟩
abbrev cX10_gameWorth : ByteArray := prog_12_method_7_code
def yX10_gameWorth : MethodName := ⟨RX10, "gameWorth", "(LItchParish$Parish;III)I"⟩
abbrev cX10_firstMove : ByteArray := prog_12_method_8_code
def yX10_firstMove : MethodName := ⟨RX10, "firstMove", "(LItchParish$Parish;III)I"⟩
abbrev cX10_worthOfMove : ByteArray := prog_12_method_9_code
def yX10_worthOfMove : MethodName := ⟨RX10, "worthOfMove", "(LItchParish$Parish;IIII)I"⟩
abbrev cX10_bestPlay : ByteArray := prog_12_method_10_code
def yX10_bestPlay : MethodName := ⟨RX10, "bestPlay", "(LItchParish$Parish;III)I"⟩
def RX11 : String := "ItchParish"
def TX11 : u_T := fun k => match k with
  | 0 => ("ItchParish", "rows", "LItchParish$Rows;", true)
  | 1 => ("ItchParish", "tape", "LItchParish$Tape;", true)
  | 2 => ("ItchParish", "parish", "LItchParish$Parish;", true)
  | 3 => ("ItchParish", "plan", "LItchParish$Plan;", true)
  | 4 => ("ItchParish", "spareParish", "LItchParish$Parish;", true)
  | 5 => ("ItchParish", "sparePlan", "LItchParish$Plan;", true)
  | 6 => ("ItchParish", "districtReader", "LItchParish$DistrictReader;", true)
  | 7 => ("ItchParish", "planReader", "LItchParish$PlanReader;", true)
  | 8 => ("ItchParish", "markedParishes", "[LItchParish$Parish;", true)
  | 9 => ("ItchParish", "markedPlans", "[LItchParish$Plan;", true)
  | 10 => ("ItchParish", "life", "LItchParish$Life;", true)
  | 11 => ("ItchParish", "trialLife", "LItchParish$Life;", true)
  | 12 => ("ItchParish", "work", "LItchParish$Work;", true)
  | 13 => ("ItchParish", "arrows", "LItchParish$Arrows;", true)
  | 14 => ("ItchParish", "marks", "I", false)
  | 15 => ("ItchParish", "status", "I", false)
  | 16 => ("ItchParish", "fractionTop", "J", false)
  | _ => ("ItchParish", "fractionBottom", "J", false)
def tyX11 : Nat → FieldType := fun k => match k with
  | 0 => .object "ItchParish$Rows"
  | 1 => .object "ItchParish$Tape"
  | 2 => .object "ItchParish$Parish"
  | 3 => .object "ItchParish$Plan"
  | 4 => .object "ItchParish$Parish"
  | 5 => .object "ItchParish$Plan"
  | 6 => .object "ItchParish$DistrictReader"
  | 7 => .object "ItchParish$PlanReader"
  | 8 => .array (.object "ItchParish$Parish")
  | 9 => .array (.object "ItchParish$Plan")
  | 10 => .object "ItchParish$Life"
  | 11 => .object "ItchParish$Life"
  | 12 => .object "ItchParish$Work"
  | 13 => .object "ItchParish$Arrows"
  | 14 => .int
  | 15 => .int
  | 16 => .long
  | _ => .long
theorem nmX11 : ∀ a, a < 18 → ∀ b, b < 18 → a ≠ b → (TX11 a).2.1 ≠ (TX11 b).2.1 := by decide +kernel
theorem tyX11_ok : ∀ k, k < 18 → parseFieldDescriptor (TX11 k).2.2.1 = some (tyX11 k) := by decide +kernel
abbrev cX11_init : ByteArray := prog_1_method_1_code
def yX11_init : MethodName := ⟨RX11, "<init>", "()V"⟩
abbrev cX11_status : ByteArray := prog_1_method_2_code
def yX11_status : MethodName := ⟨RX11, "status", "()I"⟩
abbrev cX11_top : ByteArray := prog_1_method_3_code
def yX11_top : MethodName := ⟨RX11, "top", "()J"⟩
abbrev cX11_bottom : ByteArray := prog_1_method_4_code
def yX11_bottom : MethodName := ⟨RX11, "bottom", "()J"⟩
abbrev cX11_tray : ByteArray := prog_1_method_5_code
def yX11_tray : MethodName := ⟨RX11, "tray", "(III)Z"⟩
abbrev cX11_write : ByteArray := prog_1_method_6_code
def yX11_write : MethodName := ⟨RX11, "write", "(IIJ)Z"⟩
abbrev cX11_read : ByteArray := prog_1_method_7_code
def yX11_read : MethodName := ⟨RX11, "read", "(II)J"⟩
abbrev cX11_placeStatus : ByteArray := prog_1_method_8_code
def yX11_placeStatus : MethodName := ⟨RX11, "placeStatus", "(II)I"⟩
abbrev cX11_pour : ByteArray := prog_1_method_9_code
def yX11_pour : MethodName := ⟨RX11, "pour", "(IIIII)Z"⟩
abbrev cX11_feed : ByteArray := prog_1_method_10_code
def yX11_feed : MethodName := ⟨RX11, "feed", "(IIIII)I"⟩
abbrev cX11_district : ByteArray := prog_1_method_11_code
def yX11_district : MethodName := ⟨RX11, "district", "(I)I"⟩
abbrev cX11_days : ByteArray := prog_1_method_12_code
def yX11_days : MethodName := ⟨RX11, "days", "(I)I"⟩
abbrev cX11_fault : ByteArray := prog_1_method_13_code
def yX11_fault : MethodName := ⟨RX11, "fault", "(I)I"⟩
abbrev cX11_many : ByteArray := prog_1_method_14_code
def yX11_many : MethodName := ⟨RX11, "many", "(I)I"⟩
abbrev cX11_kind : ByteArray := prog_1_method_15_code
def yX11_kind : MethodName := ⟨RX11, "kind", "(II)I"⟩
abbrev cX11_person : ByteArray := prog_1_method_16_code
def yX11_person : MethodName := ⟨RX11, "person", "(II)I"⟩
abbrev cX11_thing : ByteArray := prog_1_method_17_code
def yX11_thing : MethodName := ⟨RX11, "thing", "(II)I"⟩
abbrev cX11_far : ByteArray := prog_1_method_18_code
def yX11_far : MethodName := ⟨RX11, "far", "(II)I"⟩
abbrev cX11_coupleStatus : ByteArray := prog_1_method_19_code
def yX11_coupleStatus : MethodName := ⟨RX11, "coupleStatus", "(II)I"⟩
abbrev cX11_copyHomes : ByteArray := prog_1_method_20_code
def yX11_copyHomes : MethodName := ⟨RX11, "copyHomes", "(I)I"⟩
abbrev cX11_lose : ByteArray := prog_1_method_21_code
def yX11_lose : MethodName := ⟨RX11, "lose", "(III)I"⟩
abbrev cX11_pass : ByteArray := prog_1_method_22_code
def yX11_pass : MethodName := ⟨RX11, "pass", "(I)I"⟩
abbrev cX11_scratch : ByteArray := prog_1_method_23_code
def yX11_scratch : MethodName := ⟨RX11, "scratch", "(II)I"⟩
abbrev cX11_teach : ByteArray := prog_1_method_24_code
def yX11_teach : MethodName := ⟨RX11, "teach", "(IIZ)Z"⟩
abbrev cX11_move : ByteArray := prog_1_method_25_code
def yX11_move : MethodName := ⟨RX11, "move", "(II)I"⟩
abbrev cX11_come : ByteArray := prog_1_method_26_code
def yX11_come : MethodName := ⟨RX11, "come", "(I)I"⟩
abbrev cX11_rewrite : ByteArray := prog_1_method_27_code
def yX11_rewrite : MethodName := ⟨RX11, "rewrite", "(III)I"⟩
abbrev cX11_rule : ByteArray := prog_1_method_28_code
def yX11_rule : MethodName := ⟨RX11, "rule", "(II)Z"⟩
abbrev cX11_soonest : ByteArray := prog_1_method_29_code
def yX11_soonest : MethodName := ⟨RX11, "soonest", "(I)I"⟩
abbrev cX11_round : ByteArray := prog_1_method_30_code
def yX11_round : MethodName := ⟨RX11, "round", "()I"⟩
abbrev cX11_works : ByteArray := prog_1_method_31_code
def yX11_works : MethodName := ⟨RX11, "works", "(I)I"⟩
abbrev cX11_needs : ByteArray := prog_1_method_32_code
def yX11_needs : MethodName := ⟨RX11, "needs", "(I)I"⟩
abbrev cX11_ring : ByteArray := prog_1_method_33_code
def yX11_ring : MethodName := ⟨RX11, "ring", "()I"⟩
abbrev cX11_ending : ByteArray := prog_1_method_34_code
def yX11_ending : MethodName := ⟨RX11, "ending", "()I"⟩
abbrev cX11_endingSet : ByteArray := prog_1_method_35_code
def yX11_endingSet : MethodName := ⟨RX11, "endingSet", "()I"⟩
abbrev cX11_couples : ByteArray := prog_1_method_36_code
def yX11_couples : MethodName := ⟨RX11, "couples", "(II)I"⟩
abbrev cX11_whose : ByteArray := prog_1_method_37_code
def yX11_whose : MethodName := ⟨RX11, "whose", "(III)Z"⟩
abbrev cX11_laws : ByteArray := prog_1_method_38_code
def yX11_laws : MethodName := ⟨RX11, "laws", "(II)I"⟩
abbrev cX11_lawOf : ByteArray := prog_1_method_39_code
def yX11_lawOf : MethodName := ⟨RX11, "lawOf", "(III)I"⟩
abbrev cX11_lawStatus : ByteArray := prog_1_method_40_code
def yX11_lawStatus : MethodName := ⟨RX11, "lawStatus", "(II)I"⟩
abbrev cX11_hands : ByteArray := prog_1_method_41_code
def yX11_hands : MethodName := ⟨RX11, "hands", "(II)I"⟩
abbrev cX11_way : ByteArray := prog_1_method_42_code
def yX11_way : MethodName := ⟨RX11, "way", "(III)I"⟩
abbrev cX11_signs : ByteArray := prog_1_method_43_code
def yX11_signs : MethodName := ⟨RX11, "signs", "(II)I"⟩
abbrev cX11_walk : ByteArray := prog_1_method_44_code
def yX11_walk : MethodName := ⟨RX11, "walk", "(II)I"⟩
abbrev cX11_share : ByteArray := prog_1_method_45_code
def yX11_share : MethodName := ⟨RX11, "share", "(III)Z"⟩
abbrev cX11_game : ByteArray := prog_1_method_46_code
def yX11_game : MethodName := ⟨RX11, "game", "(III)I"⟩
abbrev cX11_moveOf : ByteArray := prog_1_method_47_code
def yX11_moveOf : MethodName := ⟨RX11, "moveOf", "(III)I"⟩
abbrev cX11_gameStatus : ByteArray := prog_1_method_48_code
def yX11_gameStatus : MethodName := ⟨RX11, "gameStatus", "(IIII)I"⟩
abbrev cX11_tongue : ByteArray := prog_1_method_49_code
def yX11_tongue : MethodName := ⟨RX11, "tongue", "(I)Z"⟩
abbrev cX11_tell : ByteArray := prog_1_method_50_code
def yX11_tell : MethodName := ⟨RX11, "tell", "(JJ)V"⟩
abbrev cX11_live : ByteArray := prog_1_method_51_code
def yX11_live : MethodName := ⟨RX11, "live", "(I)I"⟩
abbrev cX11_lived : ByteArray := prog_1_method_52_code
def yX11_lived : MethodName := ⟨RX11, "lived", "(I)I"⟩
abbrev cX11_mean : ByteArray := prog_1_method_53_code
def yX11_mean : MethodName := ⟨RX11, "mean", "(II)Z"⟩
abbrev cX11_mark : ByteArray := prog_1_method_54_code
def yX11_mark : MethodName := ⟨RX11, "mark", "()I"⟩
abbrev cX11_back : ByteArray := prog_1_method_55_code
def yX11_back : MethodName := ⟨RX11, "back", "()I"⟩
def RX12 : String := "ItchParishModel"
def TX12 : u_T := fun k => match k with
  | 0 => ("ItchParishModel", "status", "I", false)
  | 1 => ("ItchParishModel", "thrown", "I", false)
  | 2 => ("ItchParishModel", "above", "J", false)
  | 3 => ("ItchParishModel", "under", "J", false)
  | 4 => ("ItchParishModel", "traySort", "[I", true)
  | 5 => ("ItchParishModel", "trayMany", "[I", true)
  | 6 => ("ItchParishModel", "numbers", "[J", true)
  | 7 => ("ItchParishModel", "tape", "[B", true)
  | 8 => ("ItchParishModel", "taped", "I", false)
  | 9 => ("ItchParishModel", "textEnd", "I", false)
  | 10 => ("ItchParishModel", "faultKind", "I", false)
  | 11 => ("ItchParishModel", "faultAt", "I", false)
  | 12 => ("ItchParishModel", "bad", "I", false)
  | 13 => ("ItchParishModel", "badAt", "I", false)
  | 14 => ("ItchParishModel", "token", "I", false)
  | 15 => ("ItchParishModel", "at", "I", false)
  | 16 => ("ItchParishModel", "behind", "I", false)
  | 17 => ("ItchParishModel", "number", "I", false)
  | 18 => ("ItchParishModel", "letters", "I", false)
  | 19 => ("ItchParishModel", "word", "J", false)
  | 20 => ("ItchParishModel", "c", "[I", true)
  | 21 => ("ItchParishModel", "before", "[I", true)
  | 22 => ("ItchParishModel", "words", "[J", true)
  | 23 => ("ItchParishModel", "markMany", "I", false)
  | 24 => ("ItchParishModel", "toldOnce", "I", false)
  | 25 => ("ItchParishModel", "newSteps", "I", false)
  | 26 => ("ItchParishModel", "needed", "[I", true)
  | 27 => ("ItchParishModel", "weighed", "I", false)
  | 28 => ("ItchParishModel", "handsTo", "[I", true)
  | 29 => ("ItchParishModel", "firstMove", "I", false)
  | 30 => ("ItchParishModel", "livedLast", "[I", true)
  | 31 => ("ItchParishModel", "hasLived", "Z", false)
  | 32 => ("ItchParishModel", "isOver", "Z", false)
  | 33 => ("ItchParishModel", "random", "I", false)
  | 34 => ("ItchParishModel", "done", "I", false)
  | 35 => ("ItchParishModel", "missed", "I", false)
  | 36 => ("ItchParishModel", "minuteAhead", "I", false)
  | 37 => ("ItchParishModel", "lostNow", "I", false)
  | 38 => ("ItchParishModel", "scratchedNow", "I", false)
  | _ => ("ItchParishModel", "leftOver", "I", false)
def tyX12 : Nat → FieldType := fun k => match k with
  | 0 => .int
  | 1 => .int
  | 2 => .long
  | 3 => .long
  | 4 => .array .int
  | 5 => .array .int
  | 6 => .array .long
  | 7 => .array .byte
  | 8 => .int
  | 9 => .int
  | 10 => .int
  | 11 => .int
  | 12 => .int
  | 13 => .int
  | 14 => .int
  | 15 => .int
  | 16 => .int
  | 17 => .int
  | 18 => .int
  | 19 => .long
  | 20 => .array .int
  | 21 => .array .int
  | 22 => .array .long
  | 23 => .int
  | 24 => .int
  | 25 => .int
  | 26 => .array .int
  | 27 => .int
  | 28 => .array .int
  | 29 => .int
  | 30 => .array .int
  | 31 => .boolean
  | 32 => .boolean
  | 33 => .int
  | 34 => .int
  | 35 => .int
  | 36 => .int
  | 37 => .int
  | 38 => .int
  | _ => .int
theorem nmX12 : ∀ a, a < 40 → ∀ b, b < 40 → a ≠ b → (TX12 a).2.1 ≠ (TX12 b).2.1 := by decide +kernel
theorem tyX12_ok : ∀ k, k < 40 → parseFieldDescriptor (TX12 k).2.2.1 = some (tyX12 k) := by decide +kernel
abbrev cX12_init : ByteArray := prog_14_method_1_code
def yX12_init : MethodName := ⟨RX12, "<init>", "()V"⟩
abbrev cX12_status : ByteArray := prog_14_method_3_code
def yX12_status : MethodName := ⟨RX12, "status", "()I"⟩
abbrev cX12_top : ByteArray := prog_14_method_4_code
def yX12_top : MethodName := ⟨RX12, "top", "()J"⟩
abbrev cX12_bottom : ByteArray := prog_14_method_5_code
def yX12_bottom : MethodName := ⟨RX12, "bottom", "()J"⟩
abbrev cX12_refuse : ByteArray := prog_14_method_6_code
def yX12_refuse : MethodName := ⟨RX12, "refuse", "(I)I"⟩
abbrev cX12_no : ByteArray := prog_14_method_7_code
def yX12_no : MethodName := ⟨RX12, "no", "(I)Z"⟩
abbrev cX12_isIn : ByteArray := prog_14_method_8_code
def yX12_isIn : MethodName := ⟨RX12, "isIn", "(JJJ)Z"⟩
abbrev cX12_fraction : ByteArray := prog_14_method_9_code
def yX12_fraction : MethodName := ⟨RX12, "fraction", "(JJ)Z"⟩
abbrev cX12_cut : ByteArray := prog_14_method_10_code
def yX12_cut : MethodName := ⟨RX12, "cut", "(IJ)J"⟩
abbrev cX12_tray : ByteArray := prog_14_method_11_code
def yX12_tray : MethodName := ⟨RX12, "tray", "(III)Z"⟩
abbrev cX12_trayed : ByteArray := prog_14_method_12_code
def yX12_trayed : MethodName := ⟨RX12, "trayed", "(I)I"⟩
abbrev cX12_placed : ByteArray := prog_14_method_13_code
def yX12_placed : MethodName := ⟨RX12, "placed", "(II)I"⟩
abbrev cX12_write : ByteArray := prog_14_method_14_code
def yX12_write : MethodName := ⟨RX12, "write", "(IIJ)Z"⟩
abbrev cX12_read : ByteArray := prog_14_method_15_code
def yX12_read : MethodName := ⟨RX12, "read", "(II)J"⟩
abbrev cX12_pour : ByteArray := prog_14_method_16_code
def yX12_pour : MethodName := ⟨RX12, "pour", "(IIIII)Z"⟩
abbrev cX12_numberOf : ByteArray := prog_14_method_17_code
def yX12_numberOf : MethodName := ⟨RX12, "numberOf", "(II)J"⟩
abbrev cX12_isTray : ByteArray := prog_14_method_18_code
def yX12_isTray : MethodName := ⟨RX12, "isTray", "(I)Z"⟩
abbrev cX12_has : ByteArray := prog_14_method_19_code
def yX12_has : MethodName := ⟨RX12, "has", "(II)Z"⟩
abbrev cX12_sizeOf : ByteArray := prog_14_method_20_code
def yX12_sizeOf : MethodName := ⟨RX12, "sizeOf", "(I)I"⟩
abbrev cX12_look2 : ByteArray := prog_14_method_21_code
def yX12_look2 : MethodName := ⟨RX12, "look2", "(I)I"⟩
abbrev cX12_isLetter : ByteArray := prog_14_method_22_code
def yX12_isLetter : MethodName := ⟨RX12, "isLetter", "(I)Z"⟩
abbrev cX12_isDigit : ByteArray := prog_14_method_23_code
def yX12_isDigit : MethodName := ⟨RX12, "isDigit", "(I)Z"⟩
abbrev cX12_isSignByte : ByteArray := prog_14_method_24_code
def yX12_isSignByte : MethodName := ⟨RX12, "isSignByte", "(I)Z"⟩
abbrev cX12_advance : ByteArray := prog_14_method_25_code
def yX12_advance : MethodName := ⟨RX12, "advance", "()V"⟩
abbrev cX12_isSign : ByteArray := prog_14_method_26_code
def yX12_isSign : MethodName := ⟨RX12, "isSign", "(I)Z"⟩
abbrev cX12_spelled : ByteArray := prog_14_method_27_code
def yX12_spelled : MethodName := ⟨RX12, "spelled", "(IIIIII)J"⟩
abbrev cX12_isWord : ByteArray := prog_14_method_28_code
def yX12_isWord : MethodName := ⟨RX12, "isWord", "(J)Z"⟩
abbrev cX12_isOdds : ByteArray := prog_14_method_29_code
def yX12_isOdds : MethodName := ⟨RX12, "isOdds", "()Z"⟩
abbrev cX12_isArm : ByteArray := prog_14_method_30_code
def yX12_isArm : MethodName := ⟨RX12, "isArm", "()Z"⟩
abbrev cX12_isKindWord : ByteArray := prog_14_method_31_code
def yX12_isKindWord : MethodName := ⟨RX12, "isKindWord", "()Z"⟩
abbrev cX12_isStepWord : ByteArray := prog_14_method_32_code
def yX12_isStepWord : MethodName := ⟨RX12, "isStepWord", "()Z"⟩
abbrev cX12_isSpotWord : ByteArray := prog_14_method_33_code
def yX12_isSpotWord : MethodName := ⟨RX12, "isSpotWord", "()Z"⟩
abbrev cX12_isWeight : ByteArray := prog_14_method_34_code
def yX12_isWeight : MethodName := ⟨RX12, "isWeight", "()Z"⟩
abbrev cX12_isPerson : ByteArray := prog_14_method_35_code
def yX12_isPerson : MethodName := ⟨RX12, "isPerson", "()Z"⟩
abbrev cX12_isHome : ByteArray := prog_14_method_36_code
def yX12_isHome : MethodName := ⟨RX12, "isHome", "()Z"⟩
abbrev cX12_isReach : ByteArray := prog_14_method_37_code
def yX12_isReach : MethodName := ⟨RX12, "isReach", "()Z"⟩
abbrev cX12_isThing : ByteArray := prog_14_method_38_code
def yX12_isThing : MethodName := ⟨RX12, "isThing", "()Z"⟩
abbrev cX12_isWorth : ByteArray := prog_14_method_39_code
def yX12_isWorth : MethodName := ⟨RX12, "isWorth", "()Z"⟩
abbrev cX12_stepWord : ByteArray := prog_14_method_40_code
def yX12_stepWord : MethodName := ⟨RX12, "stepWord", "()I"⟩
abbrev cX12_testWord : ByteArray := prog_14_method_41_code
def yX12_testWord : MethodName := ⟨RX12, "testWord", "()I"⟩
abbrev cX12_isEnd : ByteArray := prog_14_method_42_code
def yX12_isEnd : MethodName := ⟨RX12, "isEnd", "()Z"⟩
abbrev cX12_isKept : ByteArray := prog_14_method_43_code
def yX12_isKept : MethodName := ⟨RX12, "isKept", "()Z"⟩
abbrev cX12_isName : ByteArray := prog_14_method_44_code
def yX12_isName : MethodName := ⟨RX12, "isName", "()Z"⟩
abbrev cX12_fail : ByteArray := prog_14_method_45_code
def yX12_fail : MethodName := ⟨RX12, "fail", "(II)V"⟩
abbrev cX12_amiss : ByteArray := prog_14_method_46_code
def yX12_amiss : MethodName := ⟨RX12, "amiss", "()V"⟩
abbrev cX12_must : ByteArray := prog_14_method_47_code
def yX12_must : MethodName := ⟨RX12, "must", "(Z)V"⟩
abbrev cX12_count : ByteArray := prog_14_method_48_code
def yX12_count : MethodName := ⟨RX12, "count", "(II)I"⟩
abbrev cX12_behindWord : ByteArray := prog_14_method_49_code
def yX12_behindWord : MethodName := ⟨RX12, "behindWord", "(ZII)I"⟩
abbrev cX12_perhaps : ByteArray := prog_14_method_50_code
def yX12_perhaps : MethodName := ⟨RX12, "perhaps", "(Z)Z"⟩
abbrev cX12_feed : ByteArray := prog_14_method_51_code
def yX12_feed : MethodName := ⟨RX12, "feed", "(IIIII)I"⟩
abbrev cX12_lay : ByteArray := prog_14_method_52_code
def yX12_lay : MethodName := ⟨RX12, "lay", "(I)V"⟩
abbrev cX12_starts : ByteArray := prog_14_method_53_code
def yX12_starts : MethodName := ⟨RX12, "starts", "(II)Z"⟩
abbrev cX12_isWell : ByteArray := prog_14_method_54_code
def yX12_isWell : MethodName := ⟨RX12, "isWell", "()Z"⟩
abbrev cX12_fault : ByteArray := prog_14_method_55_code
def yX12_fault : MethodName := ⟨RX12, "fault", "(I)I"⟩
abbrev cX12_empties : ByteArray := prog_14_method_56_code
def yX12_empties : MethodName := ⟨RX12, "empties", "(I)V"⟩
abbrev cX12_named : ByteArray := prog_14_method_57_code
def yX12_named : MethodName := ⟨RX12, "named", "(I)I"⟩
abbrev cX12_readTold : ByteArray := prog_14_method_58_code
def yX12_readTold : MethodName := ⟨RX12, "readTold", "(I)I"⟩
abbrev cX12_readOnce : ByteArray := prog_14_method_59_code
def yX12_readOnce : MethodName := ⟨RX12, "readOnce", "(II)V"⟩
abbrev cX12_another : ByteArray := prog_14_method_60_code
def yX12_another : MethodName := ⟨RX12, "another", "(II)I"⟩
abbrev cX12_readKind : ByteArray := prog_14_method_61_code
def yX12_readKind : MethodName := ⟨RX12, "readKind", "()V"⟩
abbrev cX12_readPerson : ByteArray := prog_14_method_62_code
def yX12_readPerson : MethodName := ⟨RX12, "readPerson", "()V"⟩
abbrev cX12_readThing : ByteArray := prog_14_method_63_code
def yX12_readThing : MethodName := ⟨RX12, "readThing", "()V"⟩
abbrev cX12_loses : ByteArray := prog_14_method_64_code
def yX12_loses : MethodName := ⟨RX12, "loses", "(IIII)V"⟩
abbrev cX12_readPart : ByteArray := prog_14_method_65_code
def yX12_readPart : MethodName := ⟨RX12, "readPart", "()V"⟩
abbrev cX12_district : ByteArray := prog_14_method_66_code
def yX12_district : MethodName := ⟨RX12, "district", "(I)I"⟩
abbrev cX12_readTest : ByteArray := prog_14_method_67_code
def yX12_readTest : MethodName := ⟨RX12, "readTest", "(I)V"⟩
abbrev cX12_readRest : ByteArray := prog_14_method_68_code
def yX12_readRest : MethodName := ⟨RX12, "readRest", "(I)V"⟩
abbrev cX12_readStep : ByteArray := prog_14_method_69_code
def yX12_readStep : MethodName := ⟨RX12, "readStep", "(I)V"⟩
abbrev cX12_days : ByteArray := prog_14_method_70_code
def yX12_days : MethodName := ⟨RX12, "days", "(I)I"⟩
abbrev cX12_isKindAt : ByteArray := prog_14_method_71_code
def yX12_isKindAt : MethodName := ⟨RX12, "isKindAt", "(J)Z"⟩
abbrev cX12_isPersonAt : ByteArray := prog_14_method_72_code
def yX12_isPersonAt : MethodName := ⟨RX12, "isPersonAt", "(J)Z"⟩
abbrev cX12_isThingAt : ByteArray := prog_14_method_73_code
def yX12_isThingAt : MethodName := ⟨RX12, "isThingAt", "(I)Z"⟩
abbrev cX12_isSpotAt : ByteArray := prog_14_method_74_code
def yX12_isSpotAt : MethodName := ⟨RX12, "isSpotAt", "(I)Z"⟩
abbrev cX12_farBy : ByteArray := prog_14_method_75_code
def yX12_farBy : MethodName := ⟨RX12, "farBy", "(II)I"⟩
abbrev cX12_bearerBy : ByteArray := prog_14_method_76_code
def yX12_bearerBy : MethodName := ⟨RX12, "bearerBy", "(II)I"⟩
abbrev cX12_spotBy : ByteArray := prog_14_method_77_code
def yX12_spotBy : MethodName := ⟨RX12, "spotBy", "(II)I"⟩
abbrev cX12_bearerOf : ByteArray := prog_14_method_78_code
def yX12_bearerOf : MethodName := ⟨RX12, "bearerOf", "(I)I"⟩
abbrev cX12_spotOf : ByteArray := prog_14_method_79_code
def yX12_spotOf : MethodName := ⟨RX12, "spotOf", "(I)I"⟩
abbrev cX12_wayOf : ByteArray := prog_14_method_80_code
def yX12_wayOf : MethodName := ⟨RX12, "wayOf", "(I)I"⟩
abbrev cX12_comesUp : ByteArray := prog_14_method_81_code
def yX12_comesUp : MethodName := ⟨RX12, "comesUp", "(I)I"⟩
abbrev cX12_isScratched : ByteArray := prog_14_method_82_code
def yX12_isScratched : MethodName := ⟨RX12, "isScratched", "(I)Z"⟩
abbrev cX12_isUp : ByteArray := prog_14_method_83_code
def yX12_isUp : MethodName := ⟨RX12, "isUp", "(I)Z"⟩
abbrev cX12_isFound : ByteArray := prog_14_method_84_code
def yX12_isFound : MethodName := ⟨RX12, "isFound", "(I)Z"⟩
abbrev cX12_couldScratch : ByteArray := prog_14_method_85_code
def yX12_couldScratch : MethodName := ⟨RX12, "couldScratch", "(II)Z"⟩
abbrev cX12_whoCould : ByteArray := prog_14_method_86_code
def yX12_whoCould : MethodName := ⟨RX12, "whoCould", "(I)I"⟩
abbrev cX12_things : ByteArray := prog_14_method_87_code
def yX12_things : MethodName := ⟨RX12, "things", "(I)I"⟩
abbrev cX12_many : ByteArray := prog_14_method_88_code
def yX12_many : MethodName := ⟨RX12, "many", "(I)I"⟩
abbrev cX12_kind : ByteArray := prog_14_method_89_code
def yX12_kind : MethodName := ⟨RX12, "kind", "(II)I"⟩
abbrev cX12_thingsOf : ByteArray := prog_14_method_90_code
def yX12_thingsOf : MethodName := ⟨RX12, "thingsOf", "(IZ)I"⟩
abbrev cX12_person : ByteArray := prog_14_method_91_code
def yX12_person : MethodName := ⟨RX12, "person", "(II)I"⟩
abbrev cX12_thing : ByteArray := prog_14_method_92_code
def yX12_thing : MethodName := ⟨RX12, "thing", "(II)I"⟩
abbrev cX12_far : ByteArray := prog_14_method_93_code
def yX12_far : MethodName := ⟨RX12, "far", "(II)I"⟩
abbrev cX12_copyHomes : ByteArray := prog_14_method_94_code
def yX12_copyHomes : MethodName := ⟨RX12, "copyHomes", "(I)I"⟩
abbrev cX12_lose : ByteArray := prog_14_method_95_code
def yX12_lose : MethodName := ⟨RX12, "lose", "(III)I"⟩
abbrev cX12_pass : ByteArray := prog_14_method_96_code
def yX12_pass : MethodName := ⟨RX12, "pass", "(I)I"⟩
abbrev cX12_scratches : ByteArray := prog_14_method_97_code
def yX12_scratches : MethodName := ⟨RX12, "scratches", "(II)Z"⟩
abbrev cX12_scratch : ByteArray := prog_14_method_98_code
def yX12_scratch : MethodName := ⟨RX12, "scratch", "(II)I"⟩
abbrev cX12_teach : ByteArray := prog_14_method_99_code
def yX12_teach : MethodName := ⟨RX12, "teach", "(IIZ)Z"⟩
abbrev cX12_move : ByteArray := prog_14_method_100_code
def yX12_move : MethodName := ⟨RX12, "move", "(II)I"⟩
abbrev cX12_come : ByteArray := prog_14_method_101_code
def yX12_come : MethodName := ⟨RX12, "come", "(I)I"⟩
abbrev cX12_rewrite : ByteArray := prog_14_method_102_code
def yX12_rewrite : MethodName := ⟨RX12, "rewrite", "(III)I"⟩
abbrev cX12_rule : ByteArray := prog_14_method_103_code
def yX12_rule : MethodName := ⟨RX12, "rule", "(II)Z"⟩
abbrev cX12_soonest : ByteArray := prog_14_method_104_code
def yX12_soonest : MethodName := ⟨RX12, "soonest", "(I)I"⟩
abbrev cX12_works2 : ByteArray := prog_14_method_105_code
def yX12_works2 : MethodName := ⟨RX12, "works2", "(II)I"⟩
abbrev cX12_everybody : ByteArray := prog_14_method_106_code
def yX12_everybody : MethodName := ⟨RX12, "everybody", "()I"⟩
abbrev cX12_round : ByteArray := prog_14_method_107_code
def yX12_round : MethodName := ⟨RX12, "round", "()I"⟩
abbrev cX12_works : ByteArray := prog_14_method_108_code
def yX12_works : MethodName := ⟨RX12, "works", "(I)I"⟩
abbrev cX12_laysNeeds : ByteArray := prog_14_method_109_code
def yX12_laysNeeds : MethodName := ⟨RX12, "laysNeeds", "(I)V"⟩
abbrev cX12_needs : ByteArray := prog_14_method_110_code
def yX12_needs : MethodName := ⟨RX12, "needs", "(I)I"⟩
abbrev cX12_ringFrom : ByteArray := prog_14_method_111_code
def yX12_ringFrom : MethodName := ⟨RX12, "ringFrom", "(I)I"⟩
abbrev cX12_shortestRing : ByteArray := prog_14_method_112_code
def yX12_shortestRing : MethodName := ⟨RX12, "shortestRing", "()I"⟩
abbrev cX12_ring : ByteArray := prog_14_method_113_code
def yX12_ring : MethodName := ⟨RX12, "ring", "()I"⟩
abbrev cX12_endings : ByteArray := prog_14_method_114_code
def yX12_endings : MethodName := ⟨RX12, "endings", "()I"⟩
abbrev cX12_ending : ByteArray := prog_14_method_115_code
def yX12_ending : MethodName := ⟨RX12, "ending", "()I"⟩
abbrev cX12_endingSet : ByteArray := prog_14_method_116_code
def yX12_endingSet : MethodName := ⟨RX12, "endingSet", "()I"⟩
abbrev cX12_couplesOf : ByteArray := prog_14_method_117_code
def yX12_couplesOf : MethodName := ⟨RX12, "couplesOf", "(III)I"⟩
abbrev cX12_couples : ByteArray := prog_14_method_118_code
def yX12_couples : MethodName := ⟨RX12, "couples", "(II)I"⟩
abbrev cX12_whose : ByteArray := prog_14_method_119_code
def yX12_whose : MethodName := ⟨RX12, "whose", "(III)Z"⟩
abbrev cX12_whyNoLaw : ByteArray := prog_14_method_120_code
def yX12_whyNoLaw : MethodName := ⟨RX12, "whyNoLaw", "(II)I"⟩
abbrev cX12_isLaw : ByteArray := prog_14_method_121_code
def yX12_isLaw : MethodName := ⟨RX12, "isLaw", "(IIII)Z"⟩
abbrev cX12_laws : ByteArray := prog_14_method_122_code
def yX12_laws : MethodName := ⟨RX12, "laws", "(II)I"⟩
abbrev cX12_lawOf : ByteArray := prog_14_method_123_code
def yX12_lawOf : MethodName := ⟨RX12, "lawOf", "(III)I"⟩
abbrev cX12_laysHands : ByteArray := prog_14_method_124_code
def yX12_laysHands : MethodName := ⟨RX12, "laysHands", "(I)V"⟩
abbrev cX12_hands : ByteArray := prog_14_method_125_code
def yX12_hands : MethodName := ⟨RX12, "hands", "(II)I"⟩
abbrev cX12_way : ByteArray := prog_14_method_126_code
def yX12_way : MethodName := ⟨RX12, "way", "(III)I"⟩
abbrev cX12_signs : ByteArray := prog_14_method_127_code
def yX12_signs : MethodName := ⟨RX12, "signs", "(II)I"⟩
abbrev cX12_walkBy : ByteArray := prog_14_method_128_code
def yX12_walkBy : MethodName := ⟨RX12, "walkBy", "(II)I"⟩
abbrev cX12_isWalk : ByteArray := prog_14_method_129_code
def yX12_isWalk : MethodName := ⟨RX12, "isWalk", "(II)Z"⟩
abbrev cX12_walk : ByteArray := prog_14_method_130_code
def yX12_walk : MethodName := ⟨RX12, "walk", "(II)I"⟩
abbrev cX12_factorial : ByteArray := prog_14_method_131_code
def yX12_factorial : MethodName := ⟨RX12, "factorial", "(I)J"⟩
abbrev cX12_share : ByteArray := prog_14_method_132_code
def yX12_share : MethodName := ⟨RX12, "share", "(III)Z"⟩
abbrev cX12_plays : ByteArray := prog_14_method_133_code
def yX12_plays : MethodName := ⟨RX12, "plays", "(IIIII)I"⟩
abbrev cX12_whyNoGame : ByteArray := prog_14_method_134_code
def yX12_whyNoGame : MethodName := ⟨RX12, "whyNoGame", "(IIII)I"⟩
abbrev cX12_game : ByteArray := prog_14_method_135_code
def yX12_game : MethodName := ⟨RX12, "game", "(III)I"⟩
abbrev cX12_moveOf : ByteArray := prog_14_method_136_code
def yX12_moveOf : MethodName := ⟨RX12, "moveOf", "(III)I"⟩
abbrev cX12_tongue : ByteArray := prog_14_method_137_code
def yX12_tongue : MethodName := ⟨RX12, "tongue", "(I)Z"⟩
abbrev cX12_draw : ByteArray := prog_14_method_138_code
def yX12_draw : MethodName := ⟨RX12, "draw", "(I)I"⟩
abbrev cX12_waits : ByteArray := prog_14_method_139_code
def yX12_waits : MethodName := ⟨RX12, "waits", "(I)Z"⟩
abbrev cX12_isLost : ByteArray := prog_14_method_140_code
def yX12_isLost : MethodName := ⟨RX12, "isLost", "(II)Z"⟩
abbrev cX12_isDone : ByteArray := prog_14_method_141_code
def yX12_isDone : MethodName := ⟨RX12, "isDone", "(II)Z"⟩
abbrev cX12_isAny : ByteArray := prog_14_method_142_code
def yX12_isAny : MethodName := ⟨RX12, "isAny", "()Z"⟩
abbrev cX12_does : ByteArray := prog_14_method_143_code
def yX12_does : MethodName := ⟨RX12, "does", "(I)Z"⟩
abbrev cX12_holds : ByteArray := prog_14_method_144_code
def yX12_holds : MethodName := ⟨RX12, "holds", "(I)Z"⟩
abbrev cX12_doOne : ByteArray := prog_14_method_145_code
def yX12_doOne : MethodName := ⟨RX12, "doOne", "(I)V"⟩
abbrev cX12_doAll : ByteArray := prog_14_method_146_code
def yX12_doAll : MethodName := ⟨RX12, "doAll", "(II)V"⟩
abbrev cX12_runsDays : ByteArray := prog_14_method_147_code
def yX12_runsDays : MethodName := ⟨RX12, "runsDays", "(I)V"⟩
abbrev cX12_live : ByteArray := prog_14_method_148_code
def yX12_live : MethodName := ⟨RX12, "live", "(I)I"⟩
abbrev cX12_lived : ByteArray := prog_14_method_149_code
def yX12_lived : MethodName := ⟨RX12, "lived", "(I)I"⟩
abbrev cX12_mean : ByteArray := prog_14_method_150_code
def yX12_mean : MethodName := ⟨RX12, "mean", "(II)Z"⟩
abbrev cX12_copy : ByteArray := prog_14_method_151_code
def yX12_copy : MethodName := ⟨RX12, "copy", "(II)V"⟩
abbrev cX12_mark : ByteArray := prog_14_method_152_code
def yX12_mark : MethodName := ⟨RX12, "mark", "()I"⟩
abbrev cX12_back : ByteArray := prog_14_method_153_code
def yX12_back : MethodName := ⟨RX12, "back", "()I"⟩
def RJ6 : String := "java/lang/Integer"
def TJ6 : u_T := fun k => match k with
  | _ => ("", "", "", false)
def tyJ6 : Nat → FieldType := fun k => match k with
  | _ => .int
theorem nmJ6 : ∀ a, a < 0 → ∀ b, b < 0 → a ≠ b → (TJ6 a).2.1 ≠ (TJ6 b).2.1 := by decide +kernel
theorem tyJ6_ok : ∀ k, k < 0 → parseFieldDescriptor (TJ6 k).2.2.1 = some (tyJ6 k) := by decide +kernel
abbrev cJ6_bitCount_0f7a4 : ByteArray := prog_15_method_49_code
def yJ6_bitCount_0f7a4 : MethodName := ⟨RJ6, "bitCount", "(I)I"⟩
def RJ9 : String := "java/lang/Math"
def TJ9 : u_T := fun k => match k with
  | _ => ("", "", "", false)
def tyJ9 : Nat → FieldType := fun k => match k with
  | _ => .int
theorem nmJ9 : ∀ a, a < 0 → ∀ b, b < 0 → a ≠ b → (TJ9 a).2.1 ≠ (TJ9 b).2.1 := by decide +kernel
theorem tyJ9_ok : ∀ k, k < 0 → parseFieldDescriptor (TJ9 k).2.2.1 = some (tyJ9 k) := by decide +kernel
abbrev cJ9_abs_0f7a4 : ByteArray := prog_16_method_59_code
def yJ9_abs_0f7a4 : MethodName := ⟨RJ9, "abs", "(I)I"⟩
abbrev cJ9_abs_067f4 : ByteArray := prog_16_method_61_code
def yJ9_abs_067f4 : MethodName := ⟨RJ9, "abs", "(J)J"⟩
abbrev cJ9_max_7cf53 : ByteArray := prog_16_method_65_code
def yJ9_max_7cf53 : MethodName := ⟨RJ9, "max", "(II)I"⟩
abbrev cJ9_min_7cf53 : ByteArray := prog_16_method_69_code
def yJ9_min_7cf53 : MethodName := ⟨RJ9, "min", "(II)I"⟩
def RJ0 : String := "java/lang/String"
def TJ0 : u_T := fun k => match k with
  | _ => ("", "", "", false)
def tyJ0 : Nat → FieldType := fun k => match k with
  | _ => .int
theorem nmJ0 : ∀ a, a < 0 → ∀ b, b < 0 → a ≠ b → (TJ0 a).2.1 ≠ (TJ0 b).2.1 := by decide +kernel
theorem tyJ0_ok : ∀ k, k < 0 → parseFieldDescriptor (TJ0 k).2.2.1 = some (tyJ0 k) := by decide +kernel
abbrev cJ0_length_8abf5 : ByteArray := prog_17_method_54_code
def yJ0_length_8abf5 : MethodName := ⟨RJ0, "length", "()I"⟩
abbrev cJ0_charAt_5068e : ByteArray := prog_17_method_56_code
def yJ0_charAt_5068e : MethodName := ⟨RJ0, "charAt", "(I)C"⟩
abbrev cJ0_coder_7d493 : ByteArray := prog_17_method_152_code
def yJ0_coder_7d493 : MethodName := ⟨RJ0, "coder", "()B"⟩
abbrev cJ0_isLatin1_aae02 : ByteArray := prog_17_method_154_code
def yJ0_isLatin1_aae02 : MethodName := ⟨RJ0, "isLatin1", "()Z"⟩
abbrev cJ0_checkIndex_df160 : ByteArray := prog_17_method_155_code
def yJ0_checkIndex_df160 : MethodName := ⟨RJ0, "checkIndex", "(II)V"⟩
def RJ1 : String := "java/lang/StringLatin1"
def TJ1 : u_T := fun k => match k with
  | _ => ("", "", "", false)
def tyJ1 : Nat → FieldType := fun k => match k with
  | _ => .int
theorem nmJ1 : ∀ a, a < 0 → ∀ b, b < 0 → a ≠ b → (TJ1 a).2.1 ≠ (TJ1 b).2.1 := by decide +kernel
theorem tyJ1_ok : ∀ k, k < 0 → parseFieldDescriptor (TJ1 k).2.2.1 = some (tyJ1 k) := by decide +kernel
abbrev cJ1_charAt_3b067 : ByteArray := prog_18_method_2_code
def yJ1_charAt_3b067 : MethodName := ⟨RJ1, "charAt", "([BI)C"⟩
def RJ2 : String := "java/lang/StringUTF16"
def TJ2 : u_T := fun k => match k with
  | _ => ("", "", "", false)
def tyJ2 : Nat → FieldType := fun k => match k with
  | _ => .int
theorem nmJ2 : ∀ a, a < 0 → ∀ b, b < 0 → a ≠ b → (TJ2 a).2.1 ≠ (TJ2 b).2.1 := by decide +kernel
theorem tyJ2_ok : ∀ k, k < 0 → parseFieldDescriptor (TJ2 k).2.2.1 = some (tyJ2 k) := by decide +kernel
abbrev cJ2_getChar_3b067 : ByteArray := prog_19_method_5_code
def yJ2_getChar_3b067 : MethodName := ⟨RJ2, "getChar", "([BI)C"⟩
abbrev cJ2_length_9d52b : ByteArray := prog_19_method_6_code
def yJ2_length_9d52b : MethodName := ⟨RJ2, "length", "([B)I"⟩
abbrev cJ2_charAt_3b067 : ByteArray := prog_19_method_83_code
def yJ2_charAt_3b067 : MethodName := ⟨RJ2, "charAt", "([BI)C"⟩
abbrev cJ2_checkIndex_2214a : ByteArray := prog_19_method_91_code
def yJ2_checkIndex_2214a : MethodName := ⟨RJ2, "checkIndex", "(I[B)V"⟩
def RJ10 : String := "java/lang/System"
def TJ10 : u_T := fun k => match k with
  | _ => ("", "", "", false)
def tyJ10 : Nat → FieldType := fun k => match k with
  | _ => .int
theorem nmJ10 : ∀ a, a < 0 → ∀ b, b < 0 → a ≠ b → (TJ10 a).2.1 ≠ (TJ10 b).2.1 := by decide +kernel
theorem tyJ10_ok : ∀ k, k < 0 → parseFieldDescriptor (TJ10 k).2.2.1 = some (tyJ10 k) := by decide +kernel
def RJ3 : String := "jdk/internal/util/Preconditions"
def TJ3 : u_T := fun k => match k with
  | _ => ("", "", "", false)
def tyJ3 : Nat → FieldType := fun k => match k with
  | _ => .int
theorem nmJ3 : ∀ a, a < 0 → ∀ b, b < 0 → a ≠ b → (TJ3 a).2.1 ≠ (TJ3 b).2.1 := by decide +kernel
theorem tyJ3_ok : ∀ k, k < 0 → parseFieldDescriptor (TJ3 k).2.2.1 = some (tyJ3 k) := by decide +kernel
abbrev cJ3_checkIndex_8e157 : ByteArray := prog_21_method_11_code
def yJ3_checkIndex_8e157 : MethodName := ⟨RJ3, "checkIndex", "(IILjava/util/function/BiFunction;)I"⟩
def RL : String := "ItchParishLaw"
abbrev cL_law : ByteArray := code
def yL_law : MethodName := ⟨RL, "law", "([I)Z"⟩
abbrev vwCl : List vw_C := [(RX0, TX0, 2), (RX2, TX2, 3), (RX3, TX3, 9), (RX4, TX4, 18), (RX5, TX5, 7), (RX6, TX6, 5), (RX7, TX7, 3), (RX8, TX8, 10), (RX10, TX10, 3), (RX11, TX11, 18), (RX12, TX12, 40)]
