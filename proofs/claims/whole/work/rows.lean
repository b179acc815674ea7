section
/-- a private method of a class that the tables say can be made, by its rows of tables_1 -/
def lw_okq (q : MethodName × Nat) : Prop := (q.1.cls ≠ "java/lang/invoke/MethodHandle" ∧ q.1.cls ≠ "java/lang/invoke/VarHandle") ∧ Cond.instantiable q.1.cls q.2 ∈ tables_1 ∧ Cond.privateMethod q.1 ∈ tables_1 ∧ Cond.instanceMethod q.1 ∈ tables_1
theorem lw_p0 : lw_okq (⟨"SleptBread$Text", "skipBlanks", "()V"⟩, 8) := ⟨⟨by decide +kernel, by decide +kernel⟩, List.mem_of_getElem? (i := 26) (by decide +kernel), List.mem_of_getElem? (i := 353) (by decide +kernel), List.mem_of_getElem? (i := 354) (by decide +kernel)⟩
theorem lw_p1 : lw_okq (⟨"SleptBread$Text", "readClause", "(I)V"⟩, 8) := ⟨⟨by decide +kernel, by decide +kernel⟩, List.mem_of_getElem? (i := 26) (by decide +kernel), List.mem_of_getElem? (i := 357) (by decide +kernel), List.mem_of_getElem? (i := 358) (by decide +kernel)⟩
theorem lw_p2 : lw_okq (⟨"SleptBread$Text", "fail", "(II)V"⟩, 8) := ⟨⟨by decide +kernel, by decide +kernel⟩, List.mem_of_getElem? (i := 26) (by decide +kernel), List.mem_of_getElem? (i := 361) (by decide +kernel), List.mem_of_getElem? (i := 362) (by decide +kernel)⟩
theorem lw_p3 : lw_okq (⟨"SleptBread$Text", "readDreams", "()V"⟩, 8) := ⟨⟨by decide +kernel, by decide +kernel⟩, List.mem_of_getElem? (i := 26) (by decide +kernel), List.mem_of_getElem? (i := 365) (by decide +kernel), List.mem_of_getElem? (i := 366) (by decide +kernel)⟩
theorem lw_p4 : lw_okq (⟨"SleptBread$Text", "passWord", "(Z)V"⟩, 8) := ⟨⟨by decide +kernel, by decide +kernel⟩, List.mem_of_getElem? (i := 26) (by decide +kernel), List.mem_of_getElem? (i := 369) (by decide +kernel), List.mem_of_getElem? (i := 370) (by decide +kernel)⟩
theorem lw_p5 : lw_okq (⟨"SleptBread$Text", "readNumber", "(II)I"⟩, 8) := ⟨⟨by decide +kernel, by decide +kernel⟩, List.mem_of_getElem? (i := 26) (by decide +kernel), List.mem_of_getElem? (i := 373) (by decide +kernel), List.mem_of_getElem? (i := 374) (by decide +kernel)⟩
theorem lw_p6 : lw_okq (⟨"SleptBread$Text", "readSign", "(I)V"⟩, 8) := ⟨⟨by decide +kernel, by decide +kernel⟩, List.mem_of_getElem? (i := 26) (by decide +kernel), List.mem_of_getElem? (i := 380) (by decide +kernel), List.mem_of_getElem? (i := 381) (by decide +kernel)⟩
theorem lw_p7 : lw_okq (⟨"SleptBread$Text", "readSleeper", "()V"⟩, 8) := ⟨⟨by decide +kernel, by decide +kernel⟩, List.mem_of_getElem? (i := 26) (by decide +kernel), List.mem_of_getElem? (i := 384) (by decide +kernel), List.mem_of_getElem? (i := 385) (by decide +kernel)⟩
theorem lw_p8 : lw_okq (⟨"SleptBread$Text", "readLoaf", "()V"⟩, 8) := ⟨⟨by decide +kernel, by decide +kernel⟩, List.mem_of_getElem? (i := 26) (by decide +kernel), List.mem_of_getElem? (i := 396) (by decide +kernel), List.mem_of_getElem? (i := 397) (by decide +kernel)⟩
theorem lw_p9 : lw_okq (⟨"SleptBread$Text", "readNightmare", "()V"⟩, 8) := ⟨⟨by decide +kernel, by decide +kernel⟩, List.mem_of_getElem? (i := 26) (by decide +kernel), List.mem_of_getElem? (i := 400) (by decide +kernel), List.mem_of_getElem? (i := 401) (by decide +kernel)⟩
theorem lw_p10 : lw_okq (⟨"SleptBread$State", "drawDream", "(I)I"⟩, 8) := ⟨⟨by decide +kernel, by decide +kernel⟩, List.mem_of_getElem? (i := 142) (by decide +kernel), List.mem_of_getElem? (i := 529) (by decide +kernel), List.mem_of_getElem? (i := 530) (by decide +kernel)⟩
theorem lw_p11 : lw_okq (⟨"SleptBread$State", "draw", "(I)I"⟩, 8) := ⟨⟨by decide +kernel, by decide +kernel⟩, List.mem_of_getElem? (i := 142) (by decide +kernel), List.mem_of_getElem? (i := 533) (by decide +kernel), List.mem_of_getElem? (i := 534) (by decide +kernel)⟩
theorem lw_p12 : lw_okq (⟨"SleptBread$Beds", "fillWorths", "(LSleptBread$Told;LSleptBread$State;I)V"⟩, 5) := ⟨⟨by decide +kernel, by decide +kernel⟩, List.mem_of_getElem? (i := 193) (by decide +kernel), List.mem_of_getElem? (i := 573) (by decide +kernel), List.mem_of_getElem? (i := 574) (by decide +kernel)⟩
theorem lw_p13 : lw_okq (⟨"SleptBread$Beds", "bestFrom", "(LSleptBread$Told;II)I"⟩, 5) := ⟨⟨by decide +kernel, by decide +kernel⟩, List.mem_of_getElem? (i := 193) (by decide +kernel), List.mem_of_getElem? (i := 579) (by decide +kernel), List.mem_of_getElem? (i := 580) (by decide +kernel)⟩
theorem lw_p14 : lw_okq (⟨"SleptBread$Beds", "bestOn", "(III)I"⟩, 5) := ⟨⟨by decide +kernel, by decide +kernel⟩, List.mem_of_getElem? (i := 193) (by decide +kernel), List.mem_of_getElem? (i := 583) (by decide +kernel), List.mem_of_getElem? (i := 584) (by decide +kernel)⟩
theorem lw_p15 : lw_okq (⟨"SleptBread$Beds", "follow", "(LSleptBread$Told;LSleptBread$State;)V"⟩, 5) := ⟨⟨by decide +kernel, by decide +kernel⟩, List.mem_of_getElem? (i := 193) (by decide +kernel), List.mem_of_getElem? (i := 590) (by decide +kernel), List.mem_of_getElem? (i := 591) (by decide +kernel)⟩
def lw_privs_1 : List (MethodName × Nat) := [(⟨"SleptBread$Text", "skipBlanks", "()V"⟩, 8), (⟨"SleptBread$Text", "readClause", "(I)V"⟩, 8), (⟨"SleptBread$Text", "fail", "(II)V"⟩, 8), (⟨"SleptBread$Text", "readDreams", "()V"⟩, 8), (⟨"SleptBread$Text", "passWord", "(Z)V"⟩, 8), (⟨"SleptBread$Text", "readNumber", "(II)I"⟩, 8), (⟨"SleptBread$Text", "readSign", "(I)V"⟩, 8), (⟨"SleptBread$Text", "readSleeper", "()V"⟩, 8), (⟨"SleptBread$Text", "readLoaf", "()V"⟩, 8), (⟨"SleptBread$Text", "readNightmare", "()V"⟩, 8), (⟨"SleptBread$State", "drawDream", "(I)I"⟩, 8), (⟨"SleptBread$State", "draw", "(I)I"⟩, 8), (⟨"SleptBread$Beds", "fillWorths", "(LSleptBread$Told;LSleptBread$State;I)V"⟩, 5), (⟨"SleptBread$Beds", "bestFrom", "(LSleptBread$Told;II)I"⟩, 5), (⟨"SleptBread$Beds", "bestOn", "(III)I"⟩, 5), (⟨"SleptBread$Beds", "follow", "(LSleptBread$Told;LSleptBread$State;)V"⟩, 5)]
theorem lw_r1 : ∀ q ∈ lw_privs_1, lw_okq q := List.forall_mem_cons.mpr ⟨lw_p0, List.forall_mem_cons.mpr ⟨lw_p1, List.forall_mem_cons.mpr ⟨lw_p2, List.forall_mem_cons.mpr ⟨lw_p3, List.forall_mem_cons.mpr ⟨lw_p4, List.forall_mem_cons.mpr ⟨lw_p5, List.forall_mem_cons.mpr ⟨lw_p6, List.forall_mem_cons.mpr ⟨lw_p7, List.forall_mem_cons.mpr ⟨lw_p8, List.forall_mem_cons.mpr ⟨lw_p9, List.forall_mem_cons.mpr ⟨lw_p10, List.forall_mem_cons.mpr ⟨lw_p11, List.forall_mem_cons.mpr ⟨lw_p12, List.forall_mem_cons.mpr ⟨lw_p13, List.forall_mem_cons.mpr ⟨lw_p14, List.forall_mem_cons.mpr ⟨lw_p15, fun _ h => absurd h List.not_mem_nil⟩⟩⟩⟩⟩⟩⟩⟩⟩⟩⟩⟩⟩⟩⟩⟩
theorem lw_p16 : lw_okq (⟨"SleptBread$Beds", "firstBed", "(LSleptBread$Told;II)I"⟩, 5) := ⟨⟨by decide +kernel, by decide +kernel⟩, List.mem_of_getElem? (i := 193) (by decide +kernel), List.mem_of_getElem? (i := 594) (by decide +kernel), List.mem_of_getElem? (i := 595) (by decide +kernel)⟩
theorem lw_p17 : lw_okq (⟨"SleptBread$Forecast", "passNight", "(LSleptBread$Told;LSleptBread$Beds;I)Z"⟩, 2) := ⟨⟨by decide +kernel, by decide +kernel⟩, List.mem_of_getElem? (i := 219) (by decide +kernel), List.mem_of_getElem? (i := 617) (by decide +kernel), List.mem_of_getElem? (i := 618) (by decide +kernel)⟩
theorem lw_p18 : lw_okq (⟨"SleptBread", "fewestWoken", "(I)I"⟩, 12) := ⟨⟨by decide +kernel, by decide +kernel⟩, List.mem_of_getElem? (i := 18) (by decide +kernel), List.mem_of_getElem? (i := 629) (by decide +kernel), List.mem_of_getElem? (i := 630) (by decide +kernel)⟩
theorem lw_p19 : lw_okq (⟨"SleptBread", "staysCalm", "(II)Z"⟩, 12) := ⟨⟨by decide +kernel, by decide +kernel⟩, List.mem_of_getElem? (i := 18) (by decide +kernel), List.mem_of_getElem? (i := 639) (by decide +kernel), List.mem_of_getElem? (i := 640) (by decide +kernel)⟩
theorem lw_p20 : lw_okq (⟨"SleptBread$Bites", "dreamsAll", "(LSleptBread$Weights;I)Z"⟩, 2) := ⟨⟨by decide +kernel, by decide +kernel⟩, List.mem_of_getElem? (i := 235) (by decide +kernel), List.mem_of_getElem? (i := 659) (by decide +kernel), List.mem_of_getElem? (i := 660) (by decide +kernel)⟩
theorem lw_p21 : lw_okq (⟨"SleptBread$Bites", "partOf", "(LSleptBread$Weights;I)J"⟩, 2) := ⟨⟨by decide +kernel, by decide +kernel⟩, List.mem_of_getElem? (i := 235) (by decide +kernel), List.mem_of_getElem? (i := 672) (by decide +kernel), List.mem_of_getElem? (i := 673) (by decide +kernel)⟩
theorem lw_p22 : lw_okq (⟨"SleptBread$Crumbs", "bedsOf", "(LSleptBread$Told;LSleptBread$State;II)I"⟩, 1) := ⟨⟨by decide +kernel, by decide +kernel⟩, List.mem_of_getElem? (i := 249) (by decide +kernel), List.mem_of_getElem? (i := 697) (by decide +kernel), List.mem_of_getElem? (i := 698) (by decide +kernel)⟩
theorem lw_p23 : lw_okq (⟨"SleptBread$Crumbs", "place", "(LSleptBread$Told;II)V"⟩, 1) := ⟨⟨by decide +kernel, by decide +kernel⟩, List.mem_of_getElem? (i := 249) (by decide +kernel), List.mem_of_getElem? (i := 702) (by decide +kernel), List.mem_of_getElem? (i := 703) (by decide +kernel)⟩
theorem lw_p24 : lw_okq (⟨"SleptBread$Crumbs", "countOf", "(I)I"⟩, 1) := ⟨⟨by decide +kernel, by decide +kernel⟩, List.mem_of_getElem? (i := 249) (by decide +kernel), List.mem_of_getElem? (i := 707) (by decide +kernel), List.mem_of_getElem? (i := 708) (by decide +kernel)⟩
theorem lw_p25 : lw_okq (⟨"SleptBread$Tonight", "spread", "(II)V"⟩, 1) := ⟨⟨by decide +kernel, by decide +kernel⟩, List.mem_of_getElem? (i := 259) (by decide +kernel), List.mem_of_getElem? (i := 733) (by decide +kernel), List.mem_of_getElem? (i := 734) (by decide +kernel)⟩
theorem lw_p26 : lw_okq (⟨"SleptBreadModel", "begins", "()V"⟩, 37) := ⟨⟨by decide +kernel, by decide +kernel⟩, List.mem_of_getElem? (i := 775) (by decide +kernel), List.mem_of_getElem? (i := 781) (by decide +kernel), List.mem_of_getElem? (i := 782) (by decide +kernel)⟩
theorem lw_p27 : lw_okq (⟨"SleptBreadModel", "here", "()I"⟩, 37) := ⟨⟨by decide +kernel, by decide +kernel⟩, List.mem_of_getElem? (i := 775) (by decide +kernel), List.mem_of_getElem? (i := 913) (by decide +kernel), List.mem_of_getElem? (i := 914) (by decide +kernel)⟩
theorem lw_p28 : lw_okq (⟨"SleptBreadModel", "letterAt", "(I)I"⟩, 37) := ⟨⟨by decide +kernel, by decide +kernel⟩, List.mem_of_getElem? (i := 775) (by decide +kernel), List.mem_of_getElem? (i := 917) (by decide +kernel), List.mem_of_getElem? (i := 918) (by decide +kernel)⟩
theorem lw_p29 : lw_okq (⟨"SleptBreadModel", "takesClause", "()Z"⟩, 37) := ⟨⟨by decide +kernel, by decide +kernel⟩, List.mem_of_getElem? (i := 775) (by decide +kernel), List.mem_of_getElem? (i := 921) (by decide +kernel), List.mem_of_getElem? (i := 922) (by decide +kernel)⟩
theorem lw_p30 : lw_okq (⟨"SleptBreadModel", "fails", "(II)Z"⟩, 37) := ⟨⟨by decide +kernel, by decide +kernel⟩, List.mem_of_getElem? (i := 775) (by decide +kernel), List.mem_of_getElem? (i := 925) (by decide +kernel), List.mem_of_getElem? (i := 926) (by decide +kernel)⟩
theorem lw_p31 : lw_okq (⟨"SleptBreadModel", "takesDreams", "()Z"⟩, 37) := ⟨⟨by decide +kernel, by decide +kernel⟩, List.mem_of_getElem? (i := 775) (by decide +kernel), List.mem_of_getElem? (i := 929) (by decide +kernel), List.mem_of_getElem? (i := 930) (by decide +kernel)⟩
def lw_privs_2 : List (MethodName × Nat) := [(⟨"SleptBread$Beds", "firstBed", "(LSleptBread$Told;II)I"⟩, 5), (⟨"SleptBread$Forecast", "passNight", "(LSleptBread$Told;LSleptBread$Beds;I)Z"⟩, 2), (⟨"SleptBread", "fewestWoken", "(I)I"⟩, 12), (⟨"SleptBread", "staysCalm", "(II)Z"⟩, 12), (⟨"SleptBread$Bites", "dreamsAll", "(LSleptBread$Weights;I)Z"⟩, 2), (⟨"SleptBread$Bites", "partOf", "(LSleptBread$Weights;I)J"⟩, 2), (⟨"SleptBread$Crumbs", "bedsOf", "(LSleptBread$Told;LSleptBread$State;II)I"⟩, 1), (⟨"SleptBread$Crumbs", "place", "(LSleptBread$Told;II)V"⟩, 1), (⟨"SleptBread$Crumbs", "countOf", "(I)I"⟩, 1), (⟨"SleptBread$Tonight", "spread", "(II)V"⟩, 1), (⟨"SleptBreadModel", "begins", "()V"⟩, 37), (⟨"SleptBreadModel", "here", "()I"⟩, 37), (⟨"SleptBreadModel", "letterAt", "(I)I"⟩, 37), (⟨"SleptBreadModel", "takesClause", "()Z"⟩, 37), (⟨"SleptBreadModel", "fails", "(II)Z"⟩, 37), (⟨"SleptBreadModel", "takesDreams", "()Z"⟩, 37)]
theorem lw_r2 : ∀ q ∈ lw_privs_2, lw_okq q := List.forall_mem_cons.mpr ⟨lw_p16, List.forall_mem_cons.mpr ⟨lw_p17, List.forall_mem_cons.mpr ⟨lw_p18, List.forall_mem_cons.mpr ⟨lw_p19, List.forall_mem_cons.mpr ⟨lw_p20, List.forall_mem_cons.mpr ⟨lw_p21, List.forall_mem_cons.mpr ⟨lw_p22, List.forall_mem_cons.mpr ⟨lw_p23, List.forall_mem_cons.mpr ⟨lw_p24, List.forall_mem_cons.mpr ⟨lw_p25, List.forall_mem_cons.mpr ⟨lw_p26, List.forall_mem_cons.mpr ⟨lw_p27, List.forall_mem_cons.mpr ⟨lw_p28, List.forall_mem_cons.mpr ⟨lw_p29, List.forall_mem_cons.mpr ⟨lw_p30, List.forall_mem_cons.mpr ⟨lw_p31, fun _ h => absurd h List.not_mem_nil⟩⟩⟩⟩⟩⟩⟩⟩⟩⟩⟩⟩⟩⟩⟩⟩
theorem lw_p32 : lw_okq (⟨"SleptBreadModel", "takesNumber", "(II)Z"⟩, 37) := ⟨⟨by decide +kernel, by decide +kernel⟩, List.mem_of_getElem? (i := 775) (by decide +kernel), List.mem_of_getElem? (i := 933) (by decide +kernel), List.mem_of_getElem? (i := 934) (by decide +kernel)⟩
theorem lw_p33 : lw_okq (⟨"SleptBreadModel", "takesSleeper", "()Z"⟩, 37) := ⟨⟨by decide +kernel, by decide +kernel⟩, List.mem_of_getElem? (i := 775) (by decide +kernel), List.mem_of_getElem? (i := 939) (by decide +kernel), List.mem_of_getElem? (i := 940) (by decide +kernel)⟩
theorem lw_p34 : lw_okq (⟨"SleptBreadModel", "takes", "(I)Z"⟩, 37) := ⟨⟨by decide +kernel, by decide +kernel⟩, List.mem_of_getElem? (i := 775) (by decide +kernel), List.mem_of_getElem? (i := 943) (by decide +kernel), List.mem_of_getElem? (i := 944) (by decide +kernel)⟩
theorem lw_p35 : lw_okq (⟨"SleptBreadModel", "takesLoaf", "()Z"⟩, 37) := ⟨⟨by decide +kernel, by decide +kernel⟩, List.mem_of_getElem? (i := 775) (by decide +kernel), List.mem_of_getElem? (i := 947) (by decide +kernel), List.mem_of_getElem? (i := 948) (by decide +kernel)⟩
theorem lw_p36 : lw_okq (⟨"SleptBreadModel", "takesMare", "()Z"⟩, 37) := ⟨⟨by decide +kernel, by decide +kernel⟩, List.mem_of_getElem? (i := 775) (by decide +kernel), List.mem_of_getElem? (i := 951) (by decide +kernel), List.mem_of_getElem? (i := 952) (by decide +kernel)⟩
theorem lw_p37 : lw_okq (⟨"SleptBreadModel", "loavesBy", "(I)I"⟩, 37) := ⟨⟨by decide +kernel, by decide +kernel⟩, List.mem_of_getElem? (i := 775) (by decide +kernel), List.mem_of_getElem? (i := 965) (by decide +kernel), List.mem_of_getElem? (i := 966) (by decide +kernel)⟩
theorem lw_p38 : lw_okq (⟨"SleptBreadModel", "isSleeper", "(I)Z"⟩, 37) := ⟨⟨by decide +kernel, by decide +kernel⟩, List.mem_of_getElem? (i := 775) (by decide +kernel), List.mem_of_getElem? (i := 973) (by decide +kernel), List.mem_of_getElem? (i := 974) (by decide +kernel)⟩
theorem lw_p39 : lw_okq (⟨"SleptBreadModel", "isDream", "(I)Z"⟩, 37) := ⟨⟨by decide +kernel, by decide +kernel⟩, List.mem_of_getElem? (i := 775) (by decide +kernel), List.mem_of_getElem? (i := 977) (by decide +kernel), List.mem_of_getElem? (i := 978) (by decide +kernel)⟩
theorem lw_p40 : lw_okq (⟨"SleptBreadModel", "weightOf", "(III)I"⟩, 37) := ⟨⟨by decide +kernel, by decide +kernel⟩, List.mem_of_getElem? (i := 775) (by decide +kernel), List.mem_of_getElem? (i := 981) (by decide +kernel), List.mem_of_getElem? (i := 982) (by decide +kernel)⟩
theorem lw_p41 : lw_okq (⟨"SleptBreadModel", "allOf", "(II)I"⟩, 37) := ⟨⟨by decide +kernel, by decide +kernel⟩, List.mem_of_getElem? (i := 775) (by decide +kernel), List.mem_of_getElem? (i := 990) (by decide +kernel), List.mem_of_getElem? (i := 991) (by decide +kernel)⟩
theorem lw_p42 : lw_okq (⟨"SleptBreadModel", "likeliestOf", "(II)I"⟩, 37) := ⟨⟨by decide +kernel, by decide +kernel⟩, List.mem_of_getElem? (i := 775) (by decide +kernel), List.mem_of_getElem? (i := 998) (by decide +kernel), List.mem_of_getElem? (i := 999) (by decide +kernel)⟩
theorem lw_p43 : lw_okq (⟨"SleptBreadModel", "isLoaf", "(I)Z"⟩, 37) := ⟨⟨by decide +kernel, by decide +kernel⟩, List.mem_of_getElem? (i := 775) (by decide +kernel), List.mem_of_getElem? (i := 1006) (by decide +kernel), List.mem_of_getElem? (i := 1007) (by decide +kernel)⟩
theorem lw_p44 : lw_okq (⟨"SleptBreadModel", "worthOf", "(II)I"⟩, 37) := ⟨⟨by decide +kernel, by decide +kernel⟩, List.mem_of_getElem? (i := 775) (by decide +kernel), List.mem_of_getElem? (i := 1015) (by decide +kernel), List.mem_of_getElem? (i := 1016) (by decide +kernel)⟩
theorem lw_p45 : lw_okq (⟨"SleptBreadModel", "isFresh", "(I)Z"⟩, 37) := ⟨⟨by decide +kernel, by decide +kernel⟩, List.mem_of_getElem? (i := 775) (by decide +kernel), List.mem_of_getElem? (i := 1024) (by decide +kernel), List.mem_of_getElem? (i := 1025) (by decide +kernel)⟩
theorem lw_p46 : lw_okq (⟨"SleptBreadModel", "onPillow", "(I)I"⟩, 37) := ⟨⟨by decide +kernel, by decide +kernel⟩, List.mem_of_getElem? (i := 775) (by decide +kernel), List.mem_of_getElem? (i := 1028) (by decide +kernel), List.mem_of_getElem? (i := 1029) (by decide +kernel)⟩
theorem lw_p47 : lw_okq (⟨"SleptBreadModel", "isAwake", "(I)Z"⟩, 37) := ⟨⟨by decide +kernel, by decide +kernel⟩, List.mem_of_getElem? (i := 775) (by decide +kernel), List.mem_of_getElem? (i := 1040) (by decide +kernel), List.mem_of_getElem? (i := 1041) (by decide +kernel)⟩
def lw_privs_3 : List (MethodName × Nat) := [(⟨"SleptBreadModel", "takesNumber", "(II)Z"⟩, 37), (⟨"SleptBreadModel", "takesSleeper", "()Z"⟩, 37), (⟨"SleptBreadModel", "takes", "(I)Z"⟩, 37), (⟨"SleptBreadModel", "takesLoaf", "()Z"⟩, 37), (⟨"SleptBreadModel", "takesMare", "()Z"⟩, 37), (⟨"SleptBreadModel", "loavesBy", "(I)I"⟩, 37), (⟨"SleptBreadModel", "isSleeper", "(I)Z"⟩, 37), (⟨"SleptBreadModel", "isDream", "(I)Z"⟩, 37), (⟨"SleptBreadModel", "weightOf", "(III)I"⟩, 37), (⟨"SleptBreadModel", "allOf", "(II)I"⟩, 37), (⟨"SleptBreadModel", "likeliestOf", "(II)I"⟩, 37), (⟨"SleptBreadModel", "isLoaf", "(I)Z"⟩, 37), (⟨"SleptBreadModel", "worthOf", "(II)I"⟩, 37), (⟨"SleptBreadModel", "isFresh", "(I)Z"⟩, 37), (⟨"SleptBreadModel", "onPillow", "(I)I"⟩, 37), (⟨"SleptBreadModel", "isAwake", "(I)Z"⟩, 37)]
theorem lw_r3 : ∀ q ∈ lw_privs_3, lw_okq q := List.forall_mem_cons.mpr ⟨lw_p32, List.forall_mem_cons.mpr ⟨lw_p33, List.forall_mem_cons.mpr ⟨lw_p34, List.forall_mem_cons.mpr ⟨lw_p35, List.forall_mem_cons.mpr ⟨lw_p36, List.forall_mem_cons.mpr ⟨lw_p37, List.forall_mem_cons.mpr ⟨lw_p38, List.forall_mem_cons.mpr ⟨lw_p39, List.forall_mem_cons.mpr ⟨lw_p40, List.forall_mem_cons.mpr ⟨lw_p41, List.forall_mem_cons.mpr ⟨lw_p42, List.forall_mem_cons.mpr ⟨lw_p43, List.forall_mem_cons.mpr ⟨lw_p44, List.forall_mem_cons.mpr ⟨lw_p45, List.forall_mem_cons.mpr ⟨lw_p46, List.forall_mem_cons.mpr ⟨lw_p47, fun _ h => absurd h List.not_mem_nil⟩⟩⟩⟩⟩⟩⟩⟩⟩⟩⟩⟩⟩⟩⟩⟩
theorem lw_p48 : lw_okq (⟨"SleptBreadModel", "dreamsNow", "(I)V"⟩, 37) := ⟨⟨by decide +kernel, by decide +kernel⟩, List.mem_of_getElem? (i := 775) (by decide +kernel), List.mem_of_getElem? (i := 1053) (by decide +kernel), List.mem_of_getElem? (i := 1054) (by decide +kernel)⟩
theorem lw_p49 : lw_okq (⟨"SleptBreadModel", "draw", "(I)I"⟩, 37) := ⟨⟨by decide +kernel, by decide +kernel⟩, List.mem_of_getElem? (i := 775) (by decide +kernel), List.mem_of_getElem? (i := 1057) (by decide +kernel), List.mem_of_getElem? (i := 1058) (by decide +kernel)⟩
theorem lw_p50 : lw_okq (⟨"SleptBreadModel", "grows", "(III)V"⟩, 37) := ⟨⟨by decide +kernel, by decide +kernel⟩, List.mem_of_getElem? (i := 775) (by decide +kernel), List.mem_of_getElem? (i := 1069) (by decide +kernel), List.mem_of_getElem? (i := 1070) (by decide +kernel)⟩
theorem lw_p51 : lw_okq (⟨"SleptBreadModel", "findBeds", "()V"⟩, 37) := ⟨⟨by decide +kernel, by decide +kernel⟩, List.mem_of_getElem? (i := 775) (by decide +kernel), List.mem_of_getElem? (i := 1082) (by decide +kernel), List.mem_of_getElem? (i := 1083) (by decide +kernel)⟩
theorem lw_p52 : lw_okq (⟨"SleptBreadModel", "mayLie", "(II)Z"⟩, 37) := ⟨⟨by decide +kernel, by decide +kernel⟩, List.mem_of_getElem? (i := 775) (by decide +kernel), List.mem_of_getElem? (i := 1086) (by decide +kernel), List.mem_of_getElem? (i := 1087) (by decide +kernel)⟩
theorem lw_p53 : lw_okq (⟨"SleptBreadModel", "copy", "(II)V"⟩, 37) := ⟨⟨by decide +kernel, by decide +kernel⟩, List.mem_of_getElem? (i := 775) (by decide +kernel), List.mem_of_getElem? (i := 1094) (by decide +kernel), List.mem_of_getElem? (i := 1095) (by decide +kernel)⟩
theorem lw_p54 : lw_okq (⟨"SleptBreadModel", "foretellsMany", "(II)V"⟩, 37) := ⟨⟨by decide +kernel, by decide +kernel⟩, List.mem_of_getElem? (i := 775) (by decide +kernel), List.mem_of_getElem? (i := 1103) (by decide +kernel), List.mem_of_getElem? (i := 1104) (by decide +kernel)⟩
theorem lw_p55 : lw_okq (⟨"SleptBreadModel", "foretells", "(I)Z"⟩, 37) := ⟨⟨by decide +kernel, by decide +kernel⟩, List.mem_of_getElem? (i := 775) (by decide +kernel), List.mem_of_getElem? (i := 1107) (by decide +kernel), List.mem_of_getElem? (i := 1108) (by decide +kernel)⟩
theorem lw_p56 : lw_okq (⟨"SleptBreadModel", "isCalm", "()Z"⟩, 37) := ⟨⟨by decide +kernel, by decide +kernel⟩, List.mem_of_getElem? (i := 775) (by decide +kernel), List.mem_of_getElem? (i := 1122) (by decide +kernel), List.mem_of_getElem? (i := 1123) (by decide +kernel)⟩
theorem lw_p57 : lw_okq (⟨"SleptBreadModel", "partOf", "(I)J"⟩, 37) := ⟨⟨by decide +kernel, by decide +kernel⟩, List.mem_of_getElem? (i := 775) (by decide +kernel), List.mem_of_getElem? (i := 1138) (by decide +kernel), List.mem_of_getElem? (i := 1139) (by decide +kernel)⟩
theorem lw_p58 : lw_okq (⟨"SleptBreadModel", "findCrumbs", "()I"⟩, 37) := ⟨⟨by decide +kernel, by decide +kernel⟩, List.mem_of_getElem? (i := 775) (by decide +kernel), List.mem_of_getElem? (i := 1151) (by decide +kernel), List.mem_of_getElem? (i := 1152) (by decide +kernel)⟩
def lw_privs_4 : List (MethodName × Nat) := [(⟨"SleptBreadModel", "dreamsNow", "(I)V"⟩, 37), (⟨"SleptBreadModel", "draw", "(I)I"⟩, 37), (⟨"SleptBreadModel", "grows", "(III)V"⟩, 37), (⟨"SleptBreadModel", "findBeds", "()V"⟩, 37), (⟨"SleptBreadModel", "mayLie", "(II)Z"⟩, 37), (⟨"SleptBreadModel", "copy", "(II)V"⟩, 37), (⟨"SleptBreadModel", "foretellsMany", "(II)V"⟩, 37), (⟨"SleptBreadModel", "foretells", "(I)Z"⟩, 37), (⟨"SleptBreadModel", "isCalm", "()Z"⟩, 37), (⟨"SleptBreadModel", "partOf", "(I)J"⟩, 37), (⟨"SleptBreadModel", "findCrumbs", "()I"⟩, 37)]
theorem lw_r4 : ∀ q ∈ lw_privs_4, lw_okq q := List.forall_mem_cons.mpr ⟨lw_p48, List.forall_mem_cons.mpr ⟨lw_p49, List.forall_mem_cons.mpr ⟨lw_p50, List.forall_mem_cons.mpr ⟨lw_p51, List.forall_mem_cons.mpr ⟨lw_p52, List.forall_mem_cons.mpr ⟨lw_p53, List.forall_mem_cons.mpr ⟨lw_p54, List.forall_mem_cons.mpr ⟨lw_p55, List.forall_mem_cons.mpr ⟨lw_p56, List.forall_mem_cons.mpr ⟨lw_p57, List.forall_mem_cons.mpr ⟨lw_p58, fun _ h => absurd h List.not_mem_nil⟩⟩⟩⟩⟩⟩⟩⟩⟩⟩⟩
def lw_privs : List (MethodName × Nat) := lw_privs_1 ++ (lw_privs_2 ++ (lw_privs_3 ++ (lw_privs_4)))
def lw_tbl : List Cond := k2_sels lw_privs ++ tables_1
theorem lw_privs_ok : ∀ q ∈ lw_privs, lw_okq q := by
  show ∀ q ∈ lw_privs_1 ++ (lw_privs_2 ++ (lw_privs_3 ++ (lw_privs_4))), lw_okq q
  exact List.forall_mem_append.mpr ⟨lw_r1, List.forall_mem_append.mpr ⟨lw_r2, List.forall_mem_append.mpr ⟨lw_r3, lw_r4⟩⟩⟩
end
section
def RX0 : String := "SleptBread$Beds"
def TX0 : u_T := fun k => match k with
  | 0 => ("SleptBread$Beds", "most", "I", false)
  | 1 => ("SleptBread$Beds", "used", "I", false)
  | 2 => ("SleptBread$Beds", "bedOf", "[I", true)
  | 3 => ("SleptBread$Beds", "worths", "[I", true)
  | _ => ("SleptBread$Beds", "best", "[I", true)
def tyX0 : Nat → FieldType := fun k => match k with
  | 0 => .int
  | 1 => .int
  | 2 => .array .int
  | 3 => .array .int
  | _ => .array .int
abbrev wsX00 : List Cond := u_ws RX0 TX0 5
theorem nmX0 : ∀ a, a < 5 → ∀ b, b < 5 → a ≠ b → (TX0 a).2.1 ≠ (TX0 b).2.1 := by decide +kernel
theorem tyX0_ok : ∀ k, k < 5 → parseFieldDescriptor (TX0 k).2.2.1 = some (tyX0 k) := by decide +kernel
abbrev cX0_init : ByteArray := prog_2_method_1_code
def yX0_init : MethodName := ⟨RX0, "<init>", "()V"⟩
abbrev cX0_make : ByteArray := prog_2_method_2_code
def yX0_make : MethodName := ⟨RX0, "make", "(LSleptBread$Told;LSleptBread$State;)V"⟩
abbrev cX0_follow : ByteArray := prog_2_method_3_code
def yX0_follow : MethodName := ⟨RX0, "follow", "(LSleptBread$Told;LSleptBread$State;)V"⟩
abbrev cX0_bestFrom : ByteArray := prog_2_method_4_code
def yX0_bestFrom : MethodName := ⟨RX0, "bestFrom", "(LSleptBread$Told;II)I"⟩
abbrev cX0_firstBed : ByteArray := prog_2_method_5_code
def yX0_firstBed : MethodName := ⟨RX0, "firstBed", "(LSleptBread$Told;II)I"⟩
abbrev cX0_bestOn : ByteArray := prog_2_method_6_code
def yX0_bestOn : MethodName := ⟨RX0, "bestOn", "(III)I"⟩
abbrev cX0_fillWorths : ByteArray := prog_2_method_7_code
def yX0_fillWorths : MethodName := ⟨RX0, "fillWorths", "(LSleptBread$Told;LSleptBread$State;I)V"⟩
def RX1 : String := "SleptBread$Bites"
def TX1 : u_T := fun k => match k with
  | 0 => ("SleptBread$Bites", "count", "I", false)
  | _ => ("SleptBread$Bites", "dreams", "[I", true)
def tyX1 : Nat → FieldType := fun k => match k with
  | 0 => .int
  | _ => .array .int
abbrev wsX10 : List Cond := u_ws RX1 TX1 2
theorem nmX1 : ∀ a, a < 2 → ∀ b, b < 2 → a ≠ b → (TX1 a).2.1 ≠ (TX1 b).2.1 := by decide +kernel
theorem tyX1_ok : ∀ k, k < 2 → parseFieldDescriptor (TX1 k).2.2.1 = some (tyX1 k) := by decide +kernel
abbrev cX1_init : ByteArray := prog_3_method_1_code
def yX1_init : MethodName := ⟨RX1, "<init>", "()V"⟩
abbrev cX1_add : ByteArray := prog_3_method_2_code
def yX1_add : MethodName := ⟨RX1, "add", "(I)Z"⟩
abbrev cX1_possible : ByteArray := prog_3_method_3_code
def yX1_possible : MethodName := ⟨RX1, "possible", "(LSleptBread$Told;LSleptBread$Weights;)I"⟩
abbrev cX1_greatest : ByteArray := prog_3_method_4_code
def yX1_greatest : MethodName := ⟨RX1, "greatest", "(LSleptBread$Told;LSleptBread$Weights;)I"⟩
abbrev cX1_share : ByteArray := prog_3_method_5_code
def yX1_share : MethodName := ⟨RX1, "share", "(LSleptBread$Told;LSleptBread$Weights;I)I"⟩
abbrev cX1_dreamsAll : ByteArray := prog_3_method_6_code
def yX1_dreamsAll : MethodName := ⟨RX1, "dreamsAll", "(LSleptBread$Weights;I)Z"⟩
abbrev cX1_partOf : ByteArray := prog_3_method_7_code
def yX1_partOf : MethodName := ⟨RX1, "partOf", "(LSleptBread$Weights;I)J"⟩
def RX2 : String := "SleptBread$Book"
def TX2 : u_T := fun k => match k with
  | 0 => ("SleptBread$Book", "count", "I", false)
  | 1 => ("SleptBread$Book", "sleepers", "[I", true)
  | 2 => ("SleptBread$Book", "dreams", "[I", true)
  | _ => ("SleptBread$Book", "weights", "[I", true)
def tyX2 : Nat → FieldType := fun k => match k with
  | 0 => .int
  | 1 => .array .int
  | 2 => .array .int
  | _ => .array .int
abbrev wsX20 : List Cond := u_ws RX2 TX2 4
theorem nmX2 : ∀ a, a < 4 → ∀ b, b < 4 → a ≠ b → (TX2 a).2.1 ≠ (TX2 b).2.1 := by decide +kernel
theorem tyX2_ok : ∀ k, k < 4 → parseFieldDescriptor (TX2 k).2.2.1 = some (tyX2 k) := by decide +kernel
abbrev cX2_init : ByteArray := prog_4_method_1_code
def yX2_init : MethodName := ⟨RX2, "<init>", "()V"⟩
abbrev cX2_add : ByteArray := prog_4_method_2_code
def yX2_add : MethodName := ⟨RX2, "add", "(III)Z"⟩
abbrev cX2_firstWrong : ByteArray := prog_4_method_3_code
def yX2_firstWrong : MethodName := ⟨RX2, "firstWrong", "(LSleptBread$Weights;)I"⟩
def RX3 : String := "SleptBread$Crumbs"
def TX3 : u_T := fun k => match k with
  | _ => ("SleptBread$Crumbs", "counts", "[I", true)
def tyX3 : Nat → FieldType := fun k => match k with
  | _ => .array .int
abbrev wsX30 : List Cond := u_ws RX3 TX3 1
theorem nmX3 : ∀ a, a < 1 → ∀ b, b < 1 → a ≠ b → (TX3 a).2.1 ≠ (TX3 b).2.1 := by decide +kernel
theorem tyX3_ok : ∀ k, k < 1 → parseFieldDescriptor (TX3 k).2.2.1 = some (tyX3 k) := by decide +kernel
abbrev cX3_init : ByteArray := prog_5_method_1_code
def yX3_init : MethodName := ⟨RX3, "<init>", "()V"⟩
abbrev cX3_ways : ByteArray := prog_5_method_2_code
def yX3_ways : MethodName := ⟨RX3, "ways", "(LSleptBread$Told;LSleptBread$State;II)I"⟩
abbrev cX3_sureBed : ByteArray := prog_5_method_3_code
def yX3_sureBed : MethodName := ⟨RX3, "sureBed", "(LSleptBread$Told;LSleptBread$State;I)I"⟩
abbrev cX3_bedsOf : ByteArray := prog_5_method_4_code
def yX3_bedsOf : MethodName := ⟨RX3, "bedsOf", "(LSleptBread$Told;LSleptBread$State;II)I"⟩
abbrev cX3_place : ByteArray := prog_5_method_5_code
def yX3_place : MethodName := ⟨RX3, "place", "(LSleptBread$Told;II)V"⟩
abbrev cX3_countOf : ByteArray := prog_5_method_6_code
def yX3_countOf : MethodName := ⟨RX3, "countOf", "(I)I"⟩
def RX4 : String := "SleptBread$Forecast"
def TX4 : u_T := fun k => match k with
  | 0 => ("SleptBread$Forecast", "weights", "LSleptBread$Weights;", true)
  | _ => ("SleptBread$Forecast", "tastes", "[I", true)
def tyX4 : Nat → FieldType := fun k => match k with
  | 0 => .object "SleptBread$Weights"
  | _ => .array .int
abbrev wsX40 : List Cond := u_ws RX4 TX4 2
theorem nmX4 : ∀ a, a < 2 → ∀ b, b < 2 → a ≠ b → (TX4 a).2.1 ≠ (TX4 b).2.1 := by decide +kernel
theorem tyX4_ok : ∀ k, k < 2 → parseFieldDescriptor (TX4 k).2.2.1 = some (tyX4 k) := by decide +kernel
abbrev cX4_init : ByteArray := prog_6_method_1_code
def yX4_init : MethodName := ⟨RX4, "<init>", "()V"⟩
abbrev cX4_run : ByteArray := prog_6_method_2_code
def yX4_run : MethodName := ⟨RX4, "run", "(LSleptBread$Told;LSleptBread$State;LSleptBread$Beds;II)I"⟩
abbrev cX4_fewestLoaves : ByteArray := prog_6_method_3_code
def yX4_fewestLoaves : MethodName := ⟨RX4, "fewestLoaves", "(LSleptBread$Told;LSleptBread$State;II)I"⟩
abbrev cX4_passNight : ByteArray := prog_6_method_4_code
def yX4_passNight : MethodName := ⟨RX4, "passNight", "(LSleptBread$Told;LSleptBread$Beds;I)Z"⟩
def RX5 : String := "SleptBread$State"
def TX5 : u_T := fun k => match k with
  | 0 => ("SleptBread$State", "weights", "LSleptBread$Weights;", true)
  | 1 => ("SleptBread$State", "pillow", "[I", true)
  | 2 => ("SleptBread$State", "taste", "[I", true)
  | 3 => ("SleptBread$State", "salted", "I", false)
  | 4 => ("SleptBread$State", "awake", "I", false)
  | 5 => ("SleptBread$State", "nights", "I", false)
  | 6 => ("SleptBread$State", "earned", "I", false)
  | _ => ("SleptBread$State", "seed", "I", false)
def tyX5 : Nat → FieldType := fun k => match k with
  | 0 => .object "SleptBread$Weights"
  | 1 => .array .int
  | 2 => .array .int
  | 3 => .int
  | 4 => .int
  | 5 => .int
  | 6 => .int
  | _ => .int
abbrev wsX50 : List Cond := u_ws RX5 TX5 8
theorem nmX5 : ∀ a, a < 8 → ∀ b, b < 8 → a ≠ b → (TX5 a).2.1 ≠ (TX5 b).2.1 := by decide +kernel
theorem tyX5_ok : ∀ k, k < 8 → parseFieldDescriptor (TX5 k).2.2.1 = some (tyX5 k) := by decide +kernel
abbrev cX5_init : ByteArray := prog_7_method_1_code
def yX5_init : MethodName := ⟨RX5, "<init>", "()V"⟩
abbrev cX5_begin : ByteArray := prog_7_method_2_code
def yX5_begin : MethodName := ⟨RX5, "begin", "(LSleptBread$Told;)V"⟩
abbrev cX5_become : ByteArray := prog_7_method_3_code
def yX5_become : MethodName := ⟨RX5, "become", "(LSleptBread$State;)V"⟩
abbrev cX5_isFresh : ByteArray := prog_7_method_4_code
def yX5_isFresh : MethodName := ⟨RX5, "isFresh", "(I)Z"⟩
abbrev cX5_isAwake : ByteArray := prog_7_method_5_code
def yX5_isAwake : MethodName := ⟨RX5, "isAwake", "(I)Z"⟩
abbrev cX5_loafOn : ByteArray := prog_7_method_6_code
def yX5_loafOn : MethodName := ⟨RX5, "loafOn", "(I)I"⟩
abbrev cX5_lyingSet : ByteArray := prog_7_method_7_code
def yX5_lyingSet : MethodName := ⟨RX5, "lyingSet", "()I"⟩
abbrev cX5_sleptOnSet : ByteArray := prog_7_method_8_code
def yX5_sleptOnSet : MethodName := ⟨RX5, "sleptOnSet", "()I"⟩
abbrev cX5_worthOn : ByteArray := prog_7_method_9_code
def yX5_worthOn : MethodName := ⟨RX5, "worthOn", "(LSleptBread$Told;II)I"⟩
abbrev cX5_sleepOnce : ByteArray := prog_7_method_10_code
def yX5_sleepOnce : MethodName := ⟨RX5, "sleepOnce", "(LSleptBread$Told;)V"⟩
abbrev cX5_consume : ByteArray := prog_7_method_11_code
def yX5_consume : MethodName := ⟨RX5, "consume", "(LSleptBread$Told;I)V"⟩
abbrev cX5_drawDream : ByteArray := prog_7_method_12_code
def yX5_drawDream : MethodName := ⟨RX5, "drawDream", "(I)I"⟩
abbrev cX5_draw : ByteArray := prog_7_method_13_code
def yX5_draw : MethodName := ⟨RX5, "draw", "(I)I"⟩
abbrev cX5_setOf : ByteArray := prog_7_method_14_code
def yX5_setOf : MethodName := ⟨RX5, "setOf", "([I)I"⟩
def RX6 : String := "SleptBread$Text"
def TX6 : u_T := fun k => match k with
  | 0 => ("SleptBread$Text", "length", "I", false)
  | 1 => ("SleptBread$Text", "faultAt", "I", false)
  | 2 => ("SleptBread$Text", "draft", "LSleptBread$Told;", true)
  | 3 => ("SleptBread$Text", "letters", "[I", true)
  | 4 => ("SleptBread$Text", "at", "I", false)
  | 5 => ("SleptBread$Text", "faultKind", "I", false)
  | 6 => ("SleptBread$Text", "numberAt", "I", false)
  | _ => ("SleptBread$Text", "nightmareTold", "Z", false)
def tyX6 : Nat → FieldType := fun k => match k with
  | 0 => .int
  | 1 => .int
  | 2 => .object "SleptBread$Told"
  | 3 => .array .int
  | 4 => .int
  | 5 => .int
  | 6 => .int
  | _ => .boolean
abbrev wsX60 : List Cond := u_ws RX6 TX6 8
theorem nmX6 : ∀ a, a < 8 → ∀ b, b < 8 → a ≠ b → (TX6 a).2.1 ≠ (TX6 b).2.1 := by decide +kernel
theorem tyX6_ok : ∀ k, k < 8 → parseFieldDescriptor (TX6 k).2.2.1 = some (tyX6 k) := by decide +kernel
abbrev cX6_init : ByteArray := prog_8_method_1_code
def yX6_init : MethodName := ⟨RX6, "<init>", "()V"⟩
abbrev cX6_add : ByteArray := prog_8_method_2_code
def yX6_add : MethodName := ⟨RX6, "add", "(I)Z"⟩
abbrev cX6_parse : ByteArray := prog_8_method_3_code
def yX6_parse : MethodName := ⟨RX6, "parse", "()I"⟩
abbrev cX6_readClause : ByteArray := prog_8_method_4_code
def yX6_readClause : MethodName := ⟨RX6, "readClause", "(I)V"⟩
abbrev cX6_readDreams : ByteArray := prog_8_method_5_code
def yX6_readDreams : MethodName := ⟨RX6, "readDreams", "()V"⟩
abbrev cX6_readSleeper : ByteArray := prog_8_method_6_code
def yX6_readSleeper : MethodName := ⟨RX6, "readSleeper", "()V"⟩
abbrev cX6_readLoaf : ByteArray := prog_8_method_7_code
def yX6_readLoaf : MethodName := ⟨RX6, "readLoaf", "()V"⟩
abbrev cX6_readNightmare : ByteArray := prog_8_method_8_code
def yX6_readNightmare : MethodName := ⟨RX6, "readNightmare", "()V"⟩
abbrev cX6_passWord : ByteArray := prog_8_method_9_code
def yX6_passWord : MethodName := ⟨RX6, "passWord", "(Z)V"⟩
abbrev cX6_readNumber : ByteArray := prog_8_method_10_code
def yX6_readNumber : MethodName := ⟨RX6, "readNumber", "(II)I"⟩
abbrev cX6_readSign : ByteArray := prog_8_method_11_code
def yX6_readSign : MethodName := ⟨RX6, "readSign", "(I)V"⟩
abbrev cX6_skipBlanks : ByteArray := prog_8_method_12_code
def yX6_skipBlanks : MethodName := ⟨RX6, "skipBlanks", "()V"⟩
abbrev cX6_fail : ByteArray := prog_8_method_13_code
def yX6_fail : MethodName := ⟨RX6, "fail", "(II)V"⟩
abbrev cX6_isFigure : ByteArray := prog_8_method_14_code
def yX6_isFigure : MethodName := ⟨RX6, "isFigure", "(I)Z"⟩
def RX7 : String := "SleptBread$Told"
def TX7 : u_T := fun k => match k with
  | 0 => ("SleptBread$Told", "dreams", "I", false)
  | 1 => ("SleptBread$Told", "gain", "I", false)
  | 2 => ("SleptBread$Told", "sleepers", "I", false)
  | 3 => ("SleptBread$Told", "loaves", "I", false)
  | 4 => ("SleptBread$Told", "nightmare", "I", false)
  | 5 => ("SleptBread$Told", "weights", "LSleptBread$Weights;", true)
  | 6 => ("SleptBread$Told", "eater", "[I", true)
  | 7 => ("SleptBread$Told", "wanted", "[I", true)
  | _ => ("SleptBread$Told", "value", "[I", true)
def tyX7 : Nat → FieldType := fun k => match k with
  | 0 => .int
  | 1 => .int
  | 2 => .int
  | 3 => .int
  | 4 => .int
  | 5 => .object "SleptBread$Weights"
  | 6 => .array .int
  | 7 => .array .int
  | _ => .array .int
abbrev wsX70 : List Cond := u_ws RX7 TX7 9
theorem nmX7 : ∀ a, a < 9 → ∀ b, b < 9 → a ≠ b → (TX7 a).2.1 ≠ (TX7 b).2.1 := by decide +kernel
theorem tyX7_ok : ∀ k, k < 9 → parseFieldDescriptor (TX7 k).2.2.1 = some (tyX7 k) := by decide +kernel
abbrev cX7_init : ByteArray := prog_9_method_1_code
def yX7_init : MethodName := ⟨RX7, "<init>", "()V"⟩
abbrev cX7_hasDream : ByteArray := prog_9_method_2_code
def yX7_hasDream : MethodName := ⟨RX7, "hasDream", "(I)Z"⟩
abbrev cX7_hasSleeper : ByteArray := prog_9_method_3_code
def yX7_hasSleeper : MethodName := ⟨RX7, "hasSleeper", "(I)Z"⟩
abbrev cX7_hasLoaf : ByteArray := prog_9_method_4_code
def yX7_hasLoaf : MethodName := ⟨RX7, "hasLoaf", "(I)Z"⟩
abbrev cX7_clear : ByteArray := prog_9_method_5_code
def yX7_clear : MethodName := ⟨RX7, "clear", "()V"⟩
abbrev cX7_become : ByteArray := prog_9_method_6_code
def yX7_become : MethodName := ⟨RX7, "become", "(LSleptBread$Told;)V"⟩
def RX8 : String := "SleptBread$Tonight"
def TX8 : u_T := fun k => match k with
  | _ => ("SleptBread$Tonight", "parts", "[I", true)
def tyX8 : Nat → FieldType := fun k => match k with
  | _ => .array .int
abbrev wsX80 : List Cond := u_ws RX8 TX8 1
theorem nmX8 : ∀ a, a < 1 → ∀ b, b < 1 → a ≠ b → (TX8 a).2.1 ≠ (TX8 b).2.1 := by decide +kernel
theorem tyX8_ok : ∀ k, k < 1 → parseFieldDescriptor (TX8 k).2.2.1 = some (tyX8 k) := by decide +kernel
abbrev cX8_init : ByteArray := prog_10_method_1_code
def yX8_init : MethodName := ⟨RX8, "<init>", "()V"⟩
abbrev cX8_atLeast : ByteArray := prog_10_method_2_code
def yX8_atLeast : MethodName := ⟨RX8, "atLeast", "(LSleptBread$Told;LSleptBread$State;I)I"⟩
abbrev cX8_spread : ByteArray := prog_10_method_3_code
def yX8_spread : MethodName := ⟨RX8, "spread", "(II)V"⟩
def RX9 : String := "SleptBread$Weights"
def TX9 : u_T := fun k => match k with
  | _ => ("SleptBread$Weights", "cells", "[I", true)
def tyX9 : Nat → FieldType := fun k => match k with
  | _ => .array .int
abbrev wsX90 : List Cond := u_ws RX9 TX9 1
theorem nmX9 : ∀ a, a < 1 → ∀ b, b < 1 → a ≠ b → (TX9 a).2.1 ≠ (TX9 b).2.1 := by decide +kernel
theorem tyX9_ok : ∀ k, k < 1 → parseFieldDescriptor (TX9 k).2.2.1 = some (tyX9 k) := by decide +kernel
abbrev cX9_init : ByteArray := prog_11_method_1_code
def yX9_init : MethodName := ⟨RX9, "<init>", "()V"⟩
abbrev cX9_of : ByteArray := prog_11_method_2_code
def yX9_of : MethodName := ⟨RX9, "of", "(II)I"⟩
abbrev cX9_put : ByteArray := prog_11_method_3_code
def yX9_put : MethodName := ⟨RX9, "put", "(III)V"⟩
abbrev cX9_all : ByteArray := prog_11_method_4_code
def yX9_all : MethodName := ⟨RX9, "all", "(I)I"⟩
abbrev cX9_top : ByteArray := prog_11_method_5_code
def yX9_top : MethodName := ⟨RX9, "top", "(I)I"⟩
abbrev cX9_grow : ByteArray := prog_11_method_6_code
def yX9_grow : MethodName := ⟨RX9, "grow", "(III)Z"⟩
abbrev cX9_become : ByteArray := prog_11_method_7_code
def yX9_become : MethodName := ⟨RX9, "become", "(LSleptBread$Weights;)V"⟩
abbrev cX9_clear : ByteArray := prog_11_method_8_code
def yX9_clear : MethodName := ⟨RX9, "clear", "()V"⟩
def RX10 : String := "SleptBread"
def TX10 : u_T := fun k => match k with
  | 0 => ("SleptBread", "text", "LSleptBread$Text;", true)
  | 1 => ("SleptBread", "told", "LSleptBread$Told;", true)
  | 2 => ("SleptBread", "now", "LSleptBread$State;", true)
  | 3 => ("SleptBread", "images", "[LSleptBread$State;", true)
  | 4 => ("SleptBread", "bedding", "LSleptBread$Beds;", true)
  | 5 => ("SleptBread", "forecast", "LSleptBread$Forecast;", true)
  | 6 => ("SleptBread", "bites", "LSleptBread$Bites;", true)
  | 7 => ("SleptBread", "crumbs", "LSleptBread$Crumbs;", true)
  | 8 => ("SleptBread", "tonight", "LSleptBread$Tonight;", true)
  | 9 => ("SleptBread", "book", "LSleptBread$Book;", true)
  | 10 => ("SleptBread", "kept", "I", false)
  | _ => ("SleptBread", "faultAt", "I", false)
def tyX10 : Nat → FieldType := fun k => match k with
  | 0 => .object "SleptBread$Text"
  | 1 => .object "SleptBread$Told"
  | 2 => .object "SleptBread$State"
  | 3 => .array (.object "SleptBread$State")
  | 4 => .object "SleptBread$Beds"
  | 5 => .object "SleptBread$Forecast"
  | 6 => .object "SleptBread$Bites"
  | 7 => .object "SleptBread$Crumbs"
  | 8 => .object "SleptBread$Tonight"
  | 9 => .object "SleptBread$Book"
  | 10 => .int
  | _ => .int
abbrev wsX100 : List Cond := u_ws RX10 TX10 12
theorem nmX10 : ∀ a, a < 12 → ∀ b, b < 12 → a ≠ b → (TX10 a).2.1 ≠ (TX10 b).2.1 := by decide +kernel
theorem tyX10_ok : ∀ k, k < 12 → parseFieldDescriptor (TX10 k).2.2.1 = some (tyX10 k) := by decide +kernel
abbrev cX10_init : ByteArray := prog_1_method_1_code
def yX10_init : MethodName := ⟨RX10, "<init>", "()V"⟩
abbrev cX10_feed : ByteArray := prog_1_method_2_code
def yX10_feed : MethodName := ⟨RX10, "feed", "(I)I"⟩
abbrev cX10_street : ByteArray := prog_1_method_3_code
def yX10_street : MethodName := ⟨RX10, "street", "()I"⟩
abbrev cX10_fault : ByteArray := prog_1_method_4_code
def yX10_fault : MethodName := ⟨RX10, "fault", "()I"⟩
abbrev cX10_told : ByteArray := prog_1_method_5_code
def yX10_told : MethodName := ⟨RX10, "told", "(I)I"⟩
abbrev cX10_weight : ByteArray := prog_1_method_6_code
def yX10_weight : MethodName := ⟨RX10, "weight", "(II)I"⟩
abbrev cX10_odds : ByteArray := prog_1_method_7_code
def yX10_odds : MethodName := ⟨RX10, "odds", "(III)I"⟩
abbrev cX10_likeliest : ByteArray := prog_1_method_8_code
def yX10_likeliest : MethodName := ⟨RX10, "likeliest", "(I)I"⟩
abbrev cX10_loaf : ByteArray := prog_1_method_9_code
def yX10_loaf : MethodName := ⟨RX10, "loaf", "(II)I"⟩
abbrev cX10_worth : ByteArray := prog_1_method_10_code
def yX10_worth : MethodName := ⟨RX10, "worth", "(II)I"⟩
abbrev cX10_lay : ByteArray := prog_1_method_11_code
def yX10_lay : MethodName := ⟨RX10, "lay", "(II)I"⟩
abbrev cX10_takeOff : ByteArray := prog_1_method_12_code
def yX10_takeOff : MethodName := ⟨RX10, "takeOff", "(I)I"⟩
abbrev cX10_wake : ByteArray := prog_1_method_13_code
def yX10_wake : MethodName := ⟨RX10, "wake", "(IZ)I"⟩
abbrev cX10_night : ByteArray := prog_1_method_14_code
def yX10_night : MethodName := ⟨RX10, "night", "(I)I"⟩
abbrev cX10_eat : ByteArray := prog_1_method_15_code
def yX10_eat : MethodName := ⟨RX10, "eat", "(I)I"⟩
abbrev cX10_salt : ByteArray := prog_1_method_16_code
def yX10_salt : MethodName := ⟨RX10, "salt", "(I)I"⟩
abbrev cX10_beds : ByteArray := prog_1_method_17_code
def yX10_beds : MethodName := ⟨RX10, "beds", "(I)I"⟩
abbrev cX10_feedings : ByteArray := prog_1_method_18_code
def yX10_feedings : MethodName := ⟨RX10, "feedings", "(II)I"⟩
abbrev cX10_foretold : ByteArray := prog_1_method_19_code
def yX10_foretold : MethodName := ⟨RX10, "foretold", "(III)I"⟩
abbrev cX10_settled : ByteArray := prog_1_method_20_code
def yX10_settled : MethodName := ⟨RX10, "settled", "()I"⟩
abbrev cX10_awake : ByteArray := prog_1_method_21_code
def yX10_awake : MethodName := ⟨RX10, "awake", "(II)I"⟩
abbrev cX10_bite : ByteArray := prog_1_method_22_code
def yX10_bite : MethodName := ⟨RX10, "bite", "(I)I"⟩
abbrev cX10_mayBe : ByteArray := prog_1_method_23_code
def yX10_mayBe : MethodName := ⟨RX10, "mayBe", "()I"⟩
abbrev cX10_whose : ByteArray := prog_1_method_24_code
def yX10_whose : MethodName := ⟨RX10, "whose", "()I"⟩
abbrev cX10_howLikely : ByteArray := prog_1_method_25_code
def yX10_howLikely : MethodName := ⟨RX10, "howLikely", "(I)I"⟩
abbrev cX10_crumbs : ByteArray := prog_1_method_26_code
def yX10_crumbs : MethodName := ⟨RX10, "crumbs", "(I)I"⟩
abbrev cX10_hire : ByteArray := prog_1_method_27_code
def yX10_hire : MethodName := ⟨RX10, "hire", "(II)I"⟩
abbrev cX10_bread : ByteArray := prog_1_method_28_code
def yX10_bread : MethodName := ⟨RX10, "bread", "(I)I"⟩
abbrev cX10_write : ByteArray := prog_1_method_29_code
def yX10_write : MethodName := ⟨RX10, "write", "(III)I"⟩
abbrev cX10_tear : ByteArray := prog_1_method_30_code
def yX10_tear : MethodName := ⟨RX10, "tear", "()I"⟩
abbrev cX10_judge : ByteArray := prog_1_method_31_code
def yX10_judge : MethodName := ⟨RX10, "judge", "()I"⟩
abbrev cX10_seed : ByteArray := prog_1_method_32_code
def yX10_seed : MethodName := ⟨RX10, "seed", "(I)I"⟩
abbrev cX10_keep : ByteArray := prog_1_method_33_code
def yX10_keep : MethodName := ⟨RX10, "keep", "(I)I"⟩
abbrev cX10_goBack : ByteArray := prog_1_method_34_code
def yX10_goBack : MethodName := ⟨RX10, "goBack", "(I)I"⟩
abbrev cX10_fewestWoken : ByteArray := prog_1_method_35_code
def yX10_fewestWoken : MethodName := ⟨RX10, "fewestWoken", "(I)I"⟩
abbrev cX10_staysCalm : ByteArray := prog_1_method_36_code
def yX10_staysCalm : MethodName := ⟨RX10, "staysCalm", "(II)Z"⟩
abbrev cX10_bit : ByteArray := prog_1_method_37_code
def yX10_bit : MethodName := ⟨RX10, "bit", "(II)I"⟩
abbrev cX10_greatestShared : ByteArray := prog_1_method_38_code
def yX10_greatestShared : MethodName := ⟨RX10, "greatestShared", "(II)I"⟩
def RX11 : String := "SleptBreadModel"
def TX11 : u_T := fun k => match k with
  | 0 => ("SleptBreadModel", "w", "[I", true)
  | 1 => ("SleptBreadModel", "isKept", "[Z", true)
  | 2 => ("SleptBreadModel", "dreams", "I", false)
  | 3 => ("SleptBreadModel", "more", "I", false)
  | 4 => ("SleptBreadModel", "sleepers", "I", false)
  | 5 => ("SleptBreadModel", "loaves", "I", false)
  | 6 => ("SleptBreadModel", "nightmare", "I", false)
  | 7 => ("SleptBreadModel", "eater", "[I", true)
  | 8 => ("SleptBreadModel", "wanted", "[I", true)
  | 9 => ("SleptBreadModel", "value", "[I", true)
  | 10 => ("SleptBreadModel", "text", "[I", true)
  | 11 => ("SleptBreadModel", "texted", "I", false)
  | 12 => ("SleptBreadModel", "at", "I", false)
  | 13 => ("SleptBreadModel", "start", "I", false)
  | 14 => ("SleptBreadModel", "number", "I", false)
  | 15 => ("SleptBreadModel", "faulty", "I", false)
  | 16 => ("SleptBreadModel", "faultAt", "I", false)
  | 17 => ("SleptBreadModel", "readDreams", "I", false)
  | 18 => ("SleptBreadModel", "readMore", "I", false)
  | 19 => ("SleptBreadModel", "readSleepers", "I", false)
  | 20 => ("SleptBreadModel", "readLoaves", "I", false)
  | 21 => ("SleptBreadModel", "readMare", "I", false)
  | 22 => ("SleptBreadModel", "hasMare", "Z", false)
  | 23 => ("SleptBreadModel", "readWeight", "[I", true)
  | 24 => ("SleptBreadModel", "readLoaf", "[I", true)
  | 25 => ("SleptBreadModel", "most", "[I", true)
  | 26 => ("SleptBreadModel", "lies", "[I", true)
  | 27 => ("SleptBreadModel", "tastes", "[I", true)
  | 28 => ("SleptBreadModel", "bites", "I", false)
  | 29 => ("SleptBreadModel", "bitten", "[I", true)
  | 30 => ("SleptBreadModel", "lay", "[I", true)
  | 31 => ("SleptBreadModel", "sure", "[I", true)
  | 32 => ("SleptBreadModel", "parts", "[J", true)
  | 33 => ("SleptBreadModel", "booked", "I", false)
  | 34 => ("SleptBreadModel", "bookSleeper", "[I", true)
  | 35 => ("SleptBreadModel", "bookDream", "[I", true)
  | _ => ("SleptBreadModel", "bookWeight", "[I", true)
def tyX11 : Nat → FieldType := fun k => match k with
  | 0 => .array .int
  | 1 => .array .boolean
  | 2 => .int
  | 3 => .int
  | 4 => .int
  | 5 => .int
  | 6 => .int
  | 7 => .array .int
  | 8 => .array .int
  | 9 => .array .int
  | 10 => .array .int
  | 11 => .int
  | 12 => .int
  | 13 => .int
  | 14 => .int
  | 15 => .int
  | 16 => .int
  | 17 => .int
  | 18 => .int
  | 19 => .int
  | 20 => .int
  | 21 => .int
  | 22 => .boolean
  | 23 => .array .int
  | 24 => .array .int
  | 25 => .array .int
  | 26 => .array .int
  | 27 => .array .int
  | 28 => .int
  | 29 => .array .int
  | 30 => .array .int
  | 31 => .array .int
  | 32 => .array .long
  | 33 => .int
  | 34 => .array .int
  | 35 => .array .int
  | _ => .array .int
abbrev wsX110 : List Cond := u_ws RX11 TX11 37
theorem nmX11 : ∀ a, a < 37 → ∀ b, b < 37 → a ≠ b → (TX11 a).2.1 ≠ (TX11 b).2.1 := by decide +kernel
theorem tyX11_ok : ∀ k, k < 37 → parseFieldDescriptor (TX11 k).2.2.1 = some (tyX11 k) := by decide +kernel
abbrev cX11_init : ByteArray := prog_13_method_1_code
def yX11_init : MethodName := ⟨RX11, "<init>", "()V"⟩
abbrev cX11_in : ByteArray := prog_13_method_3_code
def yX11_in : MethodName := ⟨RX11, "in", "(JJJ)Z"⟩
abbrev cX11_has : ByteArray := prog_13_method_4_code
def yX11_has : MethodName := ⟨RX11, "has", "(II)Z"⟩
abbrev cX11_ones : ByteArray := prog_13_method_5_code
def yX11_ones : MethodName := ⟨RX11, "ones", "(I)I"⟩
abbrev cX11_copy : ByteArray := prog_13_method_6_code
def yX11_copy : MethodName := ⟨RX11, "copy", "(II)V"⟩
abbrev cX11_begins : ByteArray := prog_13_method_7_code
def yX11_begins : MethodName := ⟨RX11, "begins", "()V"⟩
abbrev cX11_isSleeper : ByteArray := prog_13_method_8_code
def yX11_isSleeper : MethodName := ⟨RX11, "isSleeper", "(I)Z"⟩
abbrev cX11_isDream : ByteArray := prog_13_method_9_code
def yX11_isDream : MethodName := ⟨RX11, "isDream", "(I)Z"⟩
abbrev cX11_isLoaf : ByteArray := prog_13_method_10_code
def yX11_isLoaf : MethodName := ⟨RX11, "isLoaf", "(I)Z"⟩
abbrev cX11_feed : ByteArray := prog_13_method_11_code
def yX11_feed : MethodName := ⟨RX11, "feed", "(I)I"⟩
abbrev cX11_letterAt : ByteArray := prog_13_method_12_code
def yX11_letterAt : MethodName := ⟨RX11, "letterAt", "(I)I"⟩
abbrev cX11_here : ByteArray := prog_13_method_13_code
def yX11_here : MethodName := ⟨RX11, "here", "()I"⟩
abbrev cX11_fails : ByteArray := prog_13_method_14_code
def yX11_fails : MethodName := ⟨RX11, "fails", "(II)Z"⟩
abbrev cX11_takes : ByteArray := prog_13_method_15_code
def yX11_takes : MethodName := ⟨RX11, "takes", "(I)Z"⟩
abbrev cX11_takesNumber : ByteArray := prog_13_method_16_code
def yX11_takesNumber : MethodName := ⟨RX11, "takesNumber", "(II)Z"⟩
abbrev cX11_takesDreams : ByteArray := prog_13_method_17_code
def yX11_takesDreams : MethodName := ⟨RX11, "takesDreams", "()Z"⟩
abbrev cX11_takesSleeper : ByteArray := prog_13_method_18_code
def yX11_takesSleeper : MethodName := ⟨RX11, "takesSleeper", "()Z"⟩
abbrev cX11_takesLoaf : ByteArray := prog_13_method_19_code
def yX11_takesLoaf : MethodName := ⟨RX11, "takesLoaf", "()Z"⟩
abbrev cX11_takesMare : ByteArray := prog_13_method_20_code
def yX11_takesMare : MethodName := ⟨RX11, "takesMare", "()Z"⟩
abbrev cX11_takesClause : ByteArray := prog_13_method_21_code
def yX11_takesClause : MethodName := ⟨RX11, "takesClause", "()Z"⟩
abbrev cX11_street : ByteArray := prog_13_method_22_code
def yX11_street : MethodName := ⟨RX11, "street", "()I"⟩
abbrev cX11_fault : ByteArray := prog_13_method_23_code
def yX11_fault : MethodName := ⟨RX11, "fault", "()I"⟩
abbrev cX11_loavesBy : ByteArray := prog_13_method_24_code
def yX11_loavesBy : MethodName := ⟨RX11, "loavesBy", "(I)I"⟩
abbrev cX11_told : ByteArray := prog_13_method_25_code
def yX11_told : MethodName := ⟨RX11, "told", "(I)I"⟩
abbrev cX11_weightOf : ByteArray := prog_13_method_26_code
def yX11_weightOf : MethodName := ⟨RX11, "weightOf", "(III)I"⟩
abbrev cX11_allOf : ByteArray := prog_13_method_27_code
def yX11_allOf : MethodName := ⟨RX11, "allOf", "(II)I"⟩
abbrev cX11_likeliestOf : ByteArray := prog_13_method_28_code
def yX11_likeliestOf : MethodName := ⟨RX11, "likeliestOf", "(II)I"⟩
abbrev cX11_weight : ByteArray := prog_13_method_29_code
def yX11_weight : MethodName := ⟨RX11, "weight", "(II)I"⟩
abbrev cX11_odds : ByteArray := prog_13_method_30_code
def yX11_odds : MethodName := ⟨RX11, "odds", "(III)I"⟩
abbrev cX11_likeliest : ByteArray := prog_13_method_31_code
def yX11_likeliest : MethodName := ⟨RX11, "likeliest", "(I)I"⟩
abbrev cX11_loaf : ByteArray := prog_13_method_32_code
def yX11_loaf : MethodName := ⟨RX11, "loaf", "(II)I"⟩
abbrev cX11_worthOf : ByteArray := prog_13_method_33_code
def yX11_worthOf : MethodName := ⟨RX11, "worthOf", "(II)I"⟩
abbrev cX11_worth : ByteArray := prog_13_method_34_code
def yX11_worth : MethodName := ⟨RX11, "worth", "(II)I"⟩
abbrev cX11_isFresh : ByteArray := prog_13_method_35_code
def yX11_isFresh : MethodName := ⟨RX11, "isFresh", "(I)Z"⟩
abbrev cX11_onPillow : ByteArray := prog_13_method_36_code
def yX11_onPillow : MethodName := ⟨RX11, "onPillow", "(I)I"⟩
abbrev cX11_lay : ByteArray := prog_13_method_37_code
def yX11_lay : MethodName := ⟨RX11, "lay", "(II)I"⟩
abbrev cX11_takeOff : ByteArray := prog_13_method_38_code
def yX11_takeOff : MethodName := ⟨RX11, "takeOff", "(I)I"⟩
abbrev cX11_isAwake : ByteArray := prog_13_method_39_code
def yX11_isAwake : MethodName := ⟨RX11, "isAwake", "(I)Z"⟩
abbrev cX11_wake : ByteArray := prog_13_method_40_code
def yX11_wake : MethodName := ⟨RX11, "wake", "(IZ)I"⟩
abbrev cX11_draw : ByteArray := prog_13_method_41_code
def yX11_draw : MethodName := ⟨RX11, "draw", "(I)I"⟩
abbrev cX11_dreamsNow : ByteArray := prog_13_method_42_code
def yX11_dreamsNow : MethodName := ⟨RX11, "dreamsNow", "(I)V"⟩
abbrev cX11_night : ByteArray := prog_13_method_43_code
def yX11_night : MethodName := ⟨RX11, "night", "(I)I"⟩
abbrev cX11_grows : ByteArray := prog_13_method_44_code
def yX11_grows : MethodName := ⟨RX11, "grows", "(III)V"⟩
abbrev cX11_eat : ByteArray := prog_13_method_45_code
def yX11_eat : MethodName := ⟨RX11, "eat", "(I)I"⟩
abbrev cX11_salt : ByteArray := prog_13_method_46_code
def yX11_salt : MethodName := ⟨RX11, "salt", "(I)I"⟩
abbrev cX11_mayLie : ByteArray := prog_13_method_47_code
def yX11_mayLie : MethodName := ⟨RX11, "mayLie", "(II)Z"⟩
abbrev cX11_findBeds : ByteArray := prog_13_method_48_code
def yX11_findBeds : MethodName := ⟨RX11, "findBeds", "()V"⟩
abbrev cX11_beds : ByteArray := prog_13_method_49_code
def yX11_beds : MethodName := ⟨RX11, "beds", "(I)I"⟩
abbrev cX11_feedings : ByteArray := prog_13_method_50_code
def yX11_feedings : MethodName := ⟨RX11, "feedings", "(II)I"⟩
abbrev cX11_foretells : ByteArray := prog_13_method_51_code
def yX11_foretells : MethodName := ⟨RX11, "foretells", "(I)Z"⟩
abbrev cX11_foretellsMany : ByteArray := prog_13_method_52_code
def yX11_foretellsMany : MethodName := ⟨RX11, "foretellsMany", "(II)V"⟩
abbrev cX11_foretold : ByteArray := prog_13_method_53_code
def yX11_foretold : MethodName := ⟨RX11, "foretold", "(III)I"⟩
abbrev cX11_settled : ByteArray := prog_13_method_54_code
def yX11_settled : MethodName := ⟨RX11, "settled", "()I"⟩
abbrev cX11_isCalm : ByteArray := prog_13_method_55_code
def yX11_isCalm : MethodName := ⟨RX11, "isCalm", "()Z"⟩
abbrev cX11_awake : ByteArray := prog_13_method_56_code
def yX11_awake : MethodName := ⟨RX11, "awake", "(II)I"⟩
abbrev cX11_bite : ByteArray := prog_13_method_57_code
def yX11_bite : MethodName := ⟨RX11, "bite", "(I)I"⟩
abbrev cX11_mayBe : ByteArray := prog_13_method_58_code
def yX11_mayBe : MethodName := ⟨RX11, "mayBe", "()I"⟩
abbrev cX11_partOf : ByteArray := prog_13_method_59_code
def yX11_partOf : MethodName := ⟨RX11, "partOf", "(I)J"⟩
abbrev cX11_whose : ByteArray := prog_13_method_60_code
def yX11_whose : MethodName := ⟨RX11, "whose", "()I"⟩
abbrev cX11_howLikely : ByteArray := prog_13_method_61_code
def yX11_howLikely : MethodName := ⟨RX11, "howLikely", "(I)I"⟩
abbrev cX11_findCrumbs : ByteArray := prog_13_method_62_code
def yX11_findCrumbs : MethodName := ⟨RX11, "findCrumbs", "()I"⟩
abbrev cX11_crumbs : ByteArray := prog_13_method_63_code
def yX11_crumbs : MethodName := ⟨RX11, "crumbs", "(I)I"⟩
abbrev cX11_hire : ByteArray := prog_13_method_64_code
def yX11_hire : MethodName := ⟨RX11, "hire", "(II)I"⟩
abbrev cX11_bread : ByteArray := prog_13_method_65_code
def yX11_bread : MethodName := ⟨RX11, "bread", "(I)I"⟩
abbrev cX11_write : ByteArray := prog_13_method_66_code
def yX11_write : MethodName := ⟨RX11, "write", "(III)I"⟩
abbrev cX11_tear : ByteArray := prog_13_method_67_code
def yX11_tear : MethodName := ⟨RX11, "tear", "()I"⟩
abbrev cX11_judge : ByteArray := prog_13_method_68_code
def yX11_judge : MethodName := ⟨RX11, "judge", "()I"⟩
abbrev cX11_seed : ByteArray := prog_13_method_69_code
def yX11_seed : MethodName := ⟨RX11, "seed", "(I)I"⟩
abbrev cX11_keep : ByteArray := prog_13_method_70_code
def yX11_keep : MethodName := ⟨RX11, "keep", "(I)I"⟩
abbrev cX11_goBack : ByteArray := prog_13_method_71_code
def yX11_goBack : MethodName := ⟨RX11, "goBack", "(I)I"⟩
def RJ6 : String := "java/lang/Integer"
def TJ6 : u_T := fun k => match k with
  | _ => ("", "", "", false)
def tyJ6 : Nat → FieldType := fun k => match k with
  | _ => .int
abbrev wsJ60 : List Cond := u_ws RJ6 TJ6 0
theorem nmJ6 : ∀ a, a < 0 → ∀ b, b < 0 → a ≠ b → (TJ6 a).2.1 ≠ (TJ6 b).2.1 := by decide +kernel
theorem tyJ6_ok : ∀ k, k < 0 → parseFieldDescriptor (TJ6 k).2.2.1 = some (tyJ6 k) := by decide +kernel
abbrev cJ6_bitCount_0f7a4 : ByteArray := prog_14_method_49_code
def yJ6_bitCount_0f7a4 : MethodName := ⟨RJ6, "bitCount", "(I)I"⟩
def RJ9 : String := "java/lang/Math"
def TJ9 : u_T := fun k => match k with
  | _ => ("", "", "", false)
def tyJ9 : Nat → FieldType := fun k => match k with
  | _ => .int
abbrev wsJ90 : List Cond := u_ws RJ9 TJ9 0
theorem nmJ9 : ∀ a, a < 0 → ∀ b, b < 0 → a ≠ b → (TJ9 a).2.1 ≠ (TJ9 b).2.1 := by decide +kernel
theorem tyJ9_ok : ∀ k, k < 0 → parseFieldDescriptor (TJ9 k).2.2.1 = some (tyJ9 k) := by decide +kernel
abbrev cJ9_max_7cf53 : ByteArray := prog_15_method_65_code
def yJ9_max_7cf53 : MethodName := ⟨RJ9, "max", "(II)I"⟩
abbrev cJ9_min_7cf53 : ByteArray := prog_15_method_69_code
def yJ9_min_7cf53 : MethodName := ⟨RJ9, "min", "(II)I"⟩
def RJ10 : String := "java/lang/System"
def TJ10 : u_T := fun k => match k with
  | _ => ("", "", "", false)
def tyJ10 : Nat → FieldType := fun k => match k with
  | _ => .int
abbrev wsJ100 : List Cond := u_ws RJ10 TJ10 0
theorem nmJ10 : ∀ a, a < 0 → ∀ b, b < 0 → a ≠ b → (TJ10 a).2.1 ≠ (TJ10 b).2.1 := by decide +kernel
theorem tyJ10_ok : ∀ k, k < 0 → parseFieldDescriptor (TJ10 k).2.2.1 = some (tyJ10 k) := by decide +kernel
def RJ7 : String := "java/util/Arrays"
def TJ7 : u_T := fun k => match k with
  | _ => ("", "", "", false)
def tyJ7 : Nat → FieldType := fun k => match k with
  | _ => .int
abbrev wsJ70 : List Cond := u_ws RJ7 TJ7 0
theorem nmJ7 : ∀ a, a < 0 → ∀ b, b < 0 → a ≠ b → (TJ7 a).2.1 ≠ (TJ7 b).2.1 := by decide +kernel
theorem tyJ7_ok : ∀ k, k < 0 → parseFieldDescriptor (TJ7 k).2.2.1 = some (tyJ7 k) := by decide +kernel
abbrev cJ7_fill_53178 : ByteArray := prog_17_method_103_code
def yJ7_fill_53178 : MethodName := ⟨RJ7, "fill", "([II)V"⟩
def RL : String := "SleptBreadLaw"
abbrev cL_law : ByteArray := code
def yL_law : MethodName := ⟨RL, "law", "([I)Z"⟩
abbrev vwCl : List vw_C := [(RX0, TX0, 5), (RX1, TX1, 2), (RX2, TX2, 4), (RX3, TX3, 1), (RX4, TX4, 2), (RX5, TX5, 8), (RX6, TX6, 8), (RX7, TX7, 9), (RX8, TX8, 1), (RX9, TX9, 1), (RX10, TX10, 12), (RX11, TX11, 37)]
end
section
theorem dX0_init_0 : decode cX0_init 0 = .ok (.aload_n 0, 1) := by decide +kernel
theorem dX0_init_1 : decode cX0_init 1 = .ok (.invokespecial 3, 3) := by decide +kernel
theorem dX0_init_4 : decode cX0_init 4 = .ok (.aload_n 0, 1) := by decide +kernel
theorem dX0_init_5 : decode cX0_init 5 = .ok (.bipush 7, 2) := by decide +kernel
theorem dX0_init_7 : decode cX0_init 7 = .ok (.newarray .int, 2) := by decide +kernel
theorem dX0_init_9 : decode cX0_init 9 = .ok (.putfield 9, 3) := by decide +kernel
theorem dX0_init_12 : decode cX0_init 12 = .ok (.aload_n 0, 1) := by decide +kernel
theorem dX0_init_13 : decode cX0_init 13 = .ok (.bipush 6, 2) := by decide +kernel
theorem dX0_init_15 : decode cX0_init 15 = .ok (.newarray .int, 2) := by decide +kernel
theorem dX0_init_17 : decode cX0_init 17 = .ok (.putfield 15, 3) := by decide +kernel
theorem dX0_init_20 : decode cX0_init 20 = .ok (.aload_n 0, 1) := by decide +kernel
theorem dX0_init_21 : decode cX0_init 21 = .ok (.sipush 512, 3) := by decide +kernel
theorem dX0_init_24 : decode cX0_init 24 = .ok (.newarray .int, 2) := by decide +kernel
theorem dX0_init_26 : decode cX0_init 26 = .ok (.putfield 18, 3) := by decide +kernel
theorem dX0_init_29 : decode cX0_init 29 = .ok (.return_, 1) := by decide +kernel
theorem dX0_make_0 : decode cX0_make 0 = .ok (.iconst 1, 1) := by decide +kernel
theorem dX0_make_1 : decode cX0_make 1 = .ok (.aload_n 1, 1) := by decide +kernel
theorem dX0_make_2 : decode cX0_make 2 = .ok (.getfield 21, 3) := by decide +kernel
theorem dX0_make_5 : decode cX0_make 5 = .ok (.ishl, 1) := by decide +kernel
theorem dX0_make_6 : decode cX0_make 6 = .ok (.istore_n 3, 1) := by decide +kernel
theorem dX0_make_7 : decode cX0_make 7 = .ok (.iconst 0, 1) := by decide +kernel
theorem dX0_make_8 : decode cX0_make 8 = .ok (.istore 4, 2) := by decide +kernel
theorem dX0_make_10 : decode cX0_make 10 = .ok (.iload 4, 2) := by decide +kernel
theorem dX0_make_12 : decode cX0_make 12 = .ok (.iload_n 3, 1) := by decide +kernel
theorem dX0_make_13 : decode cX0_make 13 = .ok (.if_icmp .ge 25, 3) := by decide +kernel
theorem dX0_make_16 : decode cX0_make 16 = .ok (.aload_n 0, 1) := by decide +kernel
theorem dX0_make_17 : decode cX0_make 17 = .ok (.getfield 18, 3) := by decide +kernel
theorem dX0_make_20 : decode cX0_make 20 = .ok (.aload_n 1, 1) := by decide +kernel
theorem dX0_make_21 : decode cX0_make 21 = .ok (.getfield 27, 3) := by decide +kernel
theorem dX0_make_24 : decode cX0_make 24 = .ok (.bipush 64, 2) := by decide +kernel
theorem dX0_make_26 : decode cX0_make 26 = .ok (.imul, 1) := by decide +kernel
theorem dX0_make_27 : decode cX0_make 27 = .ok (.iload 4, 2) := by decide +kernel
theorem dX0_make_29 : decode cX0_make 29 = .ok (.iadd, 1) := by decide +kernel
theorem dX0_make_30 : decode cX0_make 30 = .ok (.iconst 0, 1) := by decide +kernel
theorem dX0_make_31 : decode cX0_make 31 = .ok (.iastore, 1) := by decide +kernel
theorem dX0_make_32 : decode cX0_make 32 = .ok (.iinc 4 1, 3) := by decide +kernel
theorem dX0_make_35 : decode cX0_make 35 = .ok (.goto (-25), 3) := by decide +kernel
theorem dX0_make_38 : decode cX0_make 38 = .ok (.aload_n 1, 1) := by decide +kernel
theorem dX0_make_39 : decode cX0_make 39 = .ok (.getfield 27, 3) := by decide +kernel
theorem dX0_make_42 : decode cX0_make 42 = .ok (.iconst 1, 1) := by decide +kernel
theorem dX0_make_43 : decode cX0_make 43 = .ok (.isub, 1) := by decide +kernel
theorem dX0_make_44 : decode cX0_make 44 = .ok (.istore 4, 2) := by decide +kernel
theorem dX0_make_46 : decode cX0_make 46 = .ok (.iload 4, 2) := by decide +kernel
theorem dX0_make_48 : decode cX0_make 48 = .ok (.ifCond .lt 54, 3) := by decide +kernel
theorem dX0_make_51 : decode cX0_make 51 = .ok (.aload_n 0, 1) := by decide +kernel
theorem dX0_make_52 : decode cX0_make 52 = .ok (.aload_n 1, 1) := by decide +kernel
theorem dX0_make_53 : decode cX0_make 53 = .ok (.aload_n 2, 1) := by decide +kernel
theorem dX0_make_54 : decode cX0_make 54 = .ok (.iload 4, 2) := by decide +kernel
theorem dX0_make_56 : decode cX0_make 56 = .ok (.invokevirtual 30, 3) := by decide +kernel
theorem dX0_make_59 : decode cX0_make 59 = .ok (.iconst 0, 1) := by decide +kernel
theorem dX0_make_60 : decode cX0_make 60 = .ok (.istore 5, 2) := by decide +kernel
theorem dX0_make_62 : decode cX0_make 62 = .ok (.iload 5, 2) := by decide +kernel
theorem dX0_make_64 : decode cX0_make 64 = .ok (.iload_n 3, 1) := by decide +kernel
theorem dX0_make_65 : decode cX0_make 65 = .ok (.if_icmp .ge 31, 3) := by decide +kernel
theorem dX0_make_68 : decode cX0_make 68 = .ok (.aload_n 0, 1) := by decide +kernel
theorem dX0_make_69 : decode cX0_make 69 = .ok (.getfield 18, 3) := by decide +kernel
theorem dX0_make_72 : decode cX0_make 72 = .ok (.iload 4, 2) := by decide +kernel
theorem dX0_make_74 : decode cX0_make 74 = .ok (.bipush 64, 2) := by decide +kernel
theorem dX0_make_76 : decode cX0_make 76 = .ok (.imul, 1) := by decide +kernel
theorem dX0_make_77 : decode cX0_make 77 = .ok (.iload 5, 2) := by decide +kernel
theorem dX0_make_79 : decode cX0_make 79 = .ok (.iadd, 1) := by decide +kernel
theorem dX0_make_80 : decode cX0_make 80 = .ok (.aload_n 0, 1) := by decide +kernel
theorem dX0_make_81 : decode cX0_make 81 = .ok (.aload_n 1, 1) := by decide +kernel
theorem dX0_make_82 : decode cX0_make 82 = .ok (.iload 4, 2) := by decide +kernel
theorem dX0_make_84 : decode cX0_make 84 = .ok (.iload 5, 2) := by decide +kernel
theorem dX0_make_86 : decode cX0_make 86 = .ok (.invokevirtual 34, 3) := by decide +kernel
theorem dX0_make_89 : decode cX0_make 89 = .ok (.iastore, 1) := by decide +kernel
theorem dX0_make_90 : decode cX0_make 90 = .ok (.iinc 5 1, 3) := by decide +kernel
theorem dX0_make_93 : decode cX0_make 93 = .ok (.goto (-31), 3) := by decide +kernel
theorem dX0_make_96 : decode cX0_make 96 = .ok (.iinc 4 (-1), 3) := by decide +kernel
theorem dX0_make_99 : decode cX0_make 99 = .ok (.goto (-53), 3) := by decide +kernel
theorem dX0_make_102 : decode cX0_make 102 = .ok (.aload_n 0, 1) := by decide +kernel
theorem dX0_make_103 : decode cX0_make 103 = .ok (.aload_n 0, 1) := by decide +kernel
theorem dX0_make_104 : decode cX0_make 104 = .ok (.getfield 18, 3) := by decide +kernel
theorem dX0_make_107 : decode cX0_make 107 = .ok (.aload_n 2, 1) := by decide +kernel
theorem dX0_make_108 : decode cX0_make 108 = .ok (.getfield 38, 3) := by decide +kernel
theorem dX0_make_111 : decode cX0_make 111 = .ok (.iaload, 1) := by decide +kernel
theorem dX0_make_112 : decode cX0_make 112 = .ok (.putfield 43, 3) := by decide +kernel
theorem dX0_make_115 : decode cX0_make 115 = .ok (.aload_n 0, 1) := by decide +kernel
theorem dX0_make_116 : decode cX0_make 116 = .ok (.aload_n 1, 1) := by decide +kernel
theorem dX0_make_117 : decode cX0_make 117 = .ok (.aload_n 2, 1) := by decide +kernel
theorem dX0_make_118 : decode cX0_make 118 = .ok (.invokevirtual 46, 3) := by decide +kernel
theorem dX0_make_121 : decode cX0_make 121 = .ok (.return_, 1) := by decide +kernel
theorem dX0_follow_0 : decode cX0_follow 0 = .ok (.aload_n 2, 1) := by decide +kernel
theorem dX0_follow_1 : decode cX0_follow 1 = .ok (.getfield 38, 3) := by decide +kernel
theorem dX0_follow_4 : decode cX0_follow 4 = .ok (.istore_n 3, 1) := by decide +kernel
theorem dX0_follow_5 : decode cX0_follow 5 = .ok (.iconst 0, 1) := by decide +kernel
theorem dX0_follow_6 : decode cX0_follow 6 = .ok (.istore 4, 2) := by decide +kernel
theorem dX0_follow_8 : decode cX0_follow 8 = .ok (.iload 4, 2) := by decide +kernel
theorem dX0_follow_10 : decode cX0_follow 10 = .ok (.aload_n 1, 1) := by decide +kernel
theorem dX0_follow_11 : decode cX0_follow 11 = .ok (.getfield 27, 3) := by decide +kernel
theorem dX0_follow_14 : decode cX0_follow 14 = .ok (.if_icmp .ge 55, 3) := by decide +kernel
theorem dX0_follow_17 : decode cX0_follow 17 = .ok (.aload_n 0, 1) := by decide +kernel
theorem dX0_follow_18 : decode cX0_follow 18 = .ok (.aload_n 1, 1) := by decide +kernel
theorem dX0_follow_19 : decode cX0_follow 19 = .ok (.aload_n 2, 1) := by decide +kernel
theorem dX0_follow_20 : decode cX0_follow 20 = .ok (.iload 4, 2) := by decide +kernel
theorem dX0_follow_22 : decode cX0_follow 22 = .ok (.invokevirtual 30, 3) := by decide +kernel
theorem dX0_follow_25 : decode cX0_follow 25 = .ok (.aload_n 0, 1) := by decide +kernel
theorem dX0_follow_26 : decode cX0_follow 26 = .ok (.getfield 9, 3) := by decide +kernel
theorem dX0_follow_29 : decode cX0_follow 29 = .ok (.iload 4, 2) := by decide +kernel
theorem dX0_follow_31 : decode cX0_follow 31 = .ok (.aload_n 0, 1) := by decide +kernel
theorem dX0_follow_32 : decode cX0_follow 32 = .ok (.aload_n 1, 1) := by decide +kernel
theorem dX0_follow_33 : decode cX0_follow 33 = .ok (.iload 4, 2) := by decide +kernel
theorem dX0_follow_35 : decode cX0_follow 35 = .ok (.iload_n 3, 1) := by decide +kernel
theorem dX0_follow_36 : decode cX0_follow 36 = .ok (.invokevirtual 50, 3) := by decide +kernel
theorem dX0_follow_39 : decode cX0_follow 39 = .ok (.iastore, 1) := by decide +kernel
theorem dX0_follow_40 : decode cX0_follow 40 = .ok (.aload_n 0, 1) := by decide +kernel
theorem dX0_follow_41 : decode cX0_follow 41 = .ok (.getfield 9, 3) := by decide +kernel
theorem dX0_follow_44 : decode cX0_follow 44 = .ok (.iload 4, 2) := by decide +kernel
theorem dX0_follow_46 : decode cX0_follow 46 = .ok (.iaload, 1) := by decide +kernel
theorem dX0_follow_47 : decode cX0_follow 47 = .ok (.iconst (-1), 1) := by decide +kernel
theorem dX0_follow_48 : decode cX0_follow 48 = .ok (.if_icmp .eq 15, 3) := by decide +kernel
theorem dX0_follow_51 : decode cX0_follow 51 = .ok (.iload_n 3, 1) := by decide +kernel
theorem dX0_follow_52 : decode cX0_follow 52 = .ok (.iconst 1, 1) := by decide +kernel
theorem dX0_follow_53 : decode cX0_follow 53 = .ok (.aload_n 0, 1) := by decide +kernel
theorem dX0_follow_54 : decode cX0_follow 54 = .ok (.getfield 9, 3) := by decide +kernel
theorem dX0_follow_57 : decode cX0_follow 57 = .ok (.iload 4, 2) := by decide +kernel
theorem dX0_follow_59 : decode cX0_follow 59 = .ok (.iaload, 1) := by decide +kernel
theorem dX0_follow_60 : decode cX0_follow 60 = .ok (.ishl, 1) := by decide +kernel
theorem dX0_follow_61 : decode cX0_follow 61 = .ok (.ior, 1) := by decide +kernel
theorem dX0_follow_62 : decode cX0_follow 62 = .ok (.istore_n 3, 1) := by decide +kernel
theorem dX0_follow_63 : decode cX0_follow 63 = .ok (.iinc 4 1, 3) := by decide +kernel
theorem dX0_follow_66 : decode cX0_follow 66 = .ok (.goto (-58), 3) := by decide +kernel
theorem dX0_follow_69 : decode cX0_follow 69 = .ok (.aload_n 0, 1) := by decide +kernel
theorem dX0_follow_70 : decode cX0_follow 70 = .ok (.iload_n 3, 1) := by decide +kernel
theorem dX0_follow_71 : decode cX0_follow 71 = .ok (.aload_n 2, 1) := by decide +kernel
theorem dX0_follow_72 : decode cX0_follow 72 = .ok (.getfield 38, 3) := by decide +kernel
theorem dX0_follow_75 : decode cX0_follow 75 = .ok (.iconst (-1), 1) := by decide +kernel
theorem dX0_follow_76 : decode cX0_follow 76 = .ok (.ixor, 1) := by decide +kernel
theorem dX0_follow_77 : decode cX0_follow 77 = .ok (.iand, 1) := by decide +kernel
theorem dX0_follow_78 : decode cX0_follow 78 = .ok (.putfield 53, 3) := by decide +kernel
theorem dX0_follow_81 : decode cX0_follow 81 = .ok (.return_, 1) := by decide +kernel
theorem dX0_bestFrom_0 : decode cX0_bestFrom 0 = .ok (.aload_n 0, 1) := by decide +kernel
theorem dX0_bestFrom_1 : decode cX0_bestFrom 1 = .ok (.getfield 18, 3) := by decide +kernel
theorem dX0_bestFrom_4 : decode cX0_bestFrom 4 = .ok (.iload_n 2, 1) := by decide +kernel
theorem dX0_bestFrom_5 : decode cX0_bestFrom 5 = .ok (.iconst 1, 1) := by decide +kernel
theorem dX0_bestFrom_6 : decode cX0_bestFrom 6 = .ok (.iadd, 1) := by decide +kernel
theorem dX0_bestFrom_7 : decode cX0_bestFrom 7 = .ok (.bipush 64, 2) := by decide +kernel
theorem dX0_bestFrom_9 : decode cX0_bestFrom 9 = .ok (.imul, 1) := by decide +kernel
theorem dX0_bestFrom_10 : decode cX0_bestFrom 10 = .ok (.iload_n 3, 1) := by decide +kernel
theorem dX0_bestFrom_11 : decode cX0_bestFrom 11 = .ok (.iadd, 1) := by decide +kernel
theorem dX0_bestFrom_12 : decode cX0_bestFrom 12 = .ok (.iaload, 1) := by decide +kernel
theorem dX0_bestFrom_13 : decode cX0_bestFrom 13 = .ok (.istore 4, 2) := by decide +kernel
theorem dX0_bestFrom_15 : decode cX0_bestFrom 15 = .ok (.iconst 0, 1) := by decide +kernel
theorem dX0_bestFrom_16 : decode cX0_bestFrom 16 = .ok (.istore 5, 2) := by decide +kernel
theorem dX0_bestFrom_18 : decode cX0_bestFrom 18 = .ok (.iload 5, 2) := by decide +kernel
theorem dX0_bestFrom_20 : decode cX0_bestFrom 20 = .ok (.aload_n 1, 1) := by decide +kernel
theorem dX0_bestFrom_21 : decode cX0_bestFrom 21 = .ok (.getfield 21, 3) := by decide +kernel
theorem dX0_bestFrom_24 : decode cX0_bestFrom 24 = .ok (.if_icmp .ge 24, 3) := by decide +kernel
theorem dX0_bestFrom_27 : decode cX0_bestFrom 27 = .ok (.iload 4, 2) := by decide +kernel
theorem dX0_bestFrom_29 : decode cX0_bestFrom 29 = .ok (.aload_n 0, 1) := by decide +kernel
theorem dX0_bestFrom_30 : decode cX0_bestFrom 30 = .ok (.iload_n 2, 1) := by decide +kernel
theorem dX0_bestFrom_31 : decode cX0_bestFrom 31 = .ok (.iload 5, 2) := by decide +kernel
theorem dX0_bestFrom_33 : decode cX0_bestFrom 33 = .ok (.iload_n 3, 1) := by decide +kernel
theorem dX0_bestFrom_34 : decode cX0_bestFrom 34 = .ok (.invokevirtual 56, 3) := by decide +kernel
theorem dX0_bestFrom_37 : decode cX0_bestFrom 37 = .ok (.invokestatic 60, 3) := by decide +kernel
theorem dX0_bestFrom_40 : decode cX0_bestFrom 40 = .ok (.istore 4, 2) := by decide +kernel
theorem dX0_bestFrom_42 : decode cX0_bestFrom 42 = .ok (.iinc 5 1, 3) := by decide +kernel
theorem dX0_bestFrom_45 : decode cX0_bestFrom 45 = .ok (.goto (-27), 3) := by decide +kernel
theorem dX0_bestFrom_48 : decode cX0_bestFrom 48 = .ok (.iload 4, 2) := by decide +kernel
theorem dX0_bestFrom_50 : decode cX0_bestFrom 50 = .ok (.ireturn, 1) := by decide +kernel
theorem dX0_firstBed_0 : decode cX0_firstBed 0 = .ok (.aload_n 0, 1) := by decide +kernel
theorem dX0_firstBed_1 : decode cX0_firstBed 1 = .ok (.getfield 18, 3) := by decide +kernel
theorem dX0_firstBed_4 : decode cX0_firstBed 4 = .ok (.iload_n 2, 1) := by decide +kernel
theorem dX0_firstBed_5 : decode cX0_firstBed 5 = .ok (.bipush 64, 2) := by decide +kernel
theorem dX0_firstBed_7 : decode cX0_firstBed 7 = .ok (.imul, 1) := by decide +kernel
theorem dX0_firstBed_8 : decode cX0_firstBed 8 = .ok (.iload_n 3, 1) := by decide +kernel
theorem dX0_firstBed_9 : decode cX0_firstBed 9 = .ok (.iadd, 1) := by decide +kernel
theorem dX0_firstBed_10 : decode cX0_firstBed 10 = .ok (.iaload, 1) := by decide +kernel
theorem dX0_firstBed_11 : decode cX0_firstBed 11 = .ok (.istore 4, 2) := by decide +kernel
theorem dX0_firstBed_13 : decode cX0_firstBed 13 = .ok (.aload_n 0, 1) := by decide +kernel
theorem dX0_firstBed_14 : decode cX0_firstBed 14 = .ok (.getfield 18, 3) := by decide +kernel
theorem dX0_firstBed_17 : decode cX0_firstBed 17 = .ok (.iload_n 2, 1) := by decide +kernel
theorem dX0_firstBed_18 : decode cX0_firstBed 18 = .ok (.iconst 1, 1) := by decide +kernel
theorem dX0_firstBed_19 : decode cX0_firstBed 19 = .ok (.iadd, 1) := by decide +kernel
theorem dX0_firstBed_20 : decode cX0_firstBed 20 = .ok (.bipush 64, 2) := by decide +kernel
theorem dX0_firstBed_22 : decode cX0_firstBed 22 = .ok (.imul, 1) := by decide +kernel
theorem dX0_firstBed_23 : decode cX0_firstBed 23 = .ok (.iload_n 3, 1) := by decide +kernel
theorem dX0_firstBed_24 : decode cX0_firstBed 24 = .ok (.iadd, 1) := by decide +kernel
theorem dX0_firstBed_25 : decode cX0_firstBed 25 = .ok (.iaload, 1) := by decide +kernel
theorem dX0_firstBed_26 : decode cX0_firstBed 26 = .ok (.iload 4, 2) := by decide +kernel
theorem dX0_firstBed_28 : decode cX0_firstBed 28 = .ok (.if_icmp .ne 5, 3) := by decide +kernel
theorem dX0_firstBed_31 : decode cX0_firstBed 31 = .ok (.iconst (-1), 1) := by decide +kernel
theorem dX0_firstBed_32 : decode cX0_firstBed 32 = .ok (.ireturn, 1) := by decide +kernel
theorem dX0_firstBed_33 : decode cX0_firstBed 33 = .ok (.iconst 0, 1) := by decide +kernel
theorem dX0_firstBed_34 : decode cX0_firstBed 34 = .ok (.istore 5, 2) := by decide +kernel
theorem dX0_firstBed_36 : decode cX0_firstBed 36 = .ok (.iload 5, 2) := by decide +kernel
theorem dX0_firstBed_38 : decode cX0_firstBed 38 = .ok (.aload_n 1, 1) := by decide +kernel
theorem dX0_firstBed_39 : decode cX0_firstBed 39 = .ok (.getfield 21, 3) := by decide +kernel
theorem dX0_firstBed_42 : decode cX0_firstBed 42 = .ok (.if_icmp .ge 25, 3) := by decide +kernel
theorem dX0_firstBed_45 : decode cX0_firstBed 45 = .ok (.aload_n 0, 1) := by decide +kernel
theorem dX0_firstBed_46 : decode cX0_firstBed 46 = .ok (.iload_n 2, 1) := by decide +kernel
theorem dX0_firstBed_47 : decode cX0_firstBed 47 = .ok (.iload 5, 2) := by decide +kernel
theorem dX0_firstBed_49 : decode cX0_firstBed 49 = .ok (.iload_n 3, 1) := by decide +kernel
theorem dX0_firstBed_50 : decode cX0_firstBed 50 = .ok (.invokevirtual 56, 3) := by decide +kernel
theorem dX0_firstBed_53 : decode cX0_firstBed 53 = .ok (.iload 4, 2) := by decide +kernel
theorem dX0_firstBed_55 : decode cX0_firstBed 55 = .ok (.if_icmp .ne 6, 3) := by decide +kernel
theorem dX0_firstBed_58 : decode cX0_firstBed 58 = .ok (.iload 5, 2) := by decide +kernel
theorem dX0_firstBed_60 : decode cX0_firstBed 60 = .ok (.ireturn, 1) := by decide +kernel
theorem dX0_firstBed_61 : decode cX0_firstBed 61 = .ok (.iinc 5 1, 3) := by decide +kernel
theorem dX0_firstBed_64 : decode cX0_firstBed 64 = .ok (.goto (-28), 3) := by decide +kernel
theorem dX0_firstBed_67 : decode cX0_firstBed 67 = .ok (.iconst (-1), 1) := by decide +kernel
theorem dX0_firstBed_68 : decode cX0_firstBed 68 = .ok (.ireturn, 1) := by decide +kernel
theorem dX0_bestOn_0 : decode cX0_bestOn 0 = .ok (.aload_n 0, 1) := by decide +kernel
theorem dX0_bestOn_1 : decode cX0_bestOn 1 = .ok (.getfield 15, 3) := by decide +kernel
theorem dX0_bestOn_4 : decode cX0_bestOn 4 = .ok (.iload_n 2, 1) := by decide +kernel
theorem dX0_bestOn_5 : decode cX0_bestOn 5 = .ok (.iaload, 1) := by decide +kernel
theorem dX0_bestOn_6 : decode cX0_bestOn 6 = .ok (.iconst (-1), 1) := by decide +kernel
theorem dX0_bestOn_7 : decode cX0_bestOn 7 = .ok (.if_icmp .eq 12, 3) := by decide +kernel
theorem dX0_bestOn_10 : decode cX0_bestOn 10 = .ok (.iload_n 3, 1) := by decide +kernel
theorem dX0_bestOn_11 : decode cX0_bestOn 11 = .ok (.iload_n 2, 1) := by decide +kernel
theorem dX0_bestOn_12 : decode cX0_bestOn 12 = .ok (.ishr, 1) := by decide +kernel
theorem dX0_bestOn_13 : decode cX0_bestOn 13 = .ok (.iconst 1, 1) := by decide +kernel
theorem dX0_bestOn_14 : decode cX0_bestOn 14 = .ok (.iand, 1) := by decide +kernel
theorem dX0_bestOn_15 : decode cX0_bestOn 15 = .ok (.iconst 1, 1) := by decide +kernel
theorem dX0_bestOn_16 : decode cX0_bestOn 16 = .ok (.if_icmp .ne 5, 3) := by decide +kernel
theorem dX0_bestOn_19 : decode cX0_bestOn 19 = .ok (.iconst (-1), 1) := by decide +kernel
theorem dX0_bestOn_20 : decode cX0_bestOn 20 = .ok (.ireturn, 1) := by decide +kernel
theorem dX0_bestOn_21 : decode cX0_bestOn 21 = .ok (.aload_n 0, 1) := by decide +kernel
theorem dX0_bestOn_22 : decode cX0_bestOn 22 = .ok (.getfield 15, 3) := by decide +kernel
theorem dX0_bestOn_25 : decode cX0_bestOn 25 = .ok (.iload_n 2, 1) := by decide +kernel
theorem dX0_bestOn_26 : decode cX0_bestOn 26 = .ok (.iaload, 1) := by decide +kernel
theorem dX0_bestOn_27 : decode cX0_bestOn 27 = .ok (.aload_n 0, 1) := by decide +kernel
theorem dX0_bestOn_28 : decode cX0_bestOn 28 = .ok (.getfield 18, 3) := by decide +kernel
theorem dX0_bestOn_31 : decode cX0_bestOn 31 = .ok (.iload_n 1, 1) := by decide +kernel
theorem dX0_bestOn_32 : decode cX0_bestOn 32 = .ok (.iconst 1, 1) := by decide +kernel
theorem dX0_bestOn_33 : decode cX0_bestOn 33 = .ok (.iadd, 1) := by decide +kernel
theorem dX0_bestOn_34 : decode cX0_bestOn 34 = .ok (.bipush 64, 2) := by decide +kernel
theorem dX0_bestOn_36 : decode cX0_bestOn 36 = .ok (.imul, 1) := by decide +kernel
theorem dX0_bestOn_37 : decode cX0_bestOn 37 = .ok (.iload_n 3, 1) := by decide +kernel
theorem dX0_bestOn_38 : decode cX0_bestOn 38 = .ok (.iconst 1, 1) := by decide +kernel
theorem dX0_bestOn_39 : decode cX0_bestOn 39 = .ok (.iload_n 2, 1) := by decide +kernel
theorem dX0_bestOn_40 : decode cX0_bestOn 40 = .ok (.ishl, 1) := by decide +kernel
theorem dX0_bestOn_41 : decode cX0_bestOn 41 = .ok (.ior, 1) := by decide +kernel
theorem dX0_bestOn_42 : decode cX0_bestOn 42 = .ok (.iadd, 1) := by decide +kernel
theorem dX0_bestOn_43 : decode cX0_bestOn 43 = .ok (.iaload, 1) := by decide +kernel
theorem dX0_bestOn_44 : decode cX0_bestOn 44 = .ok (.iadd, 1) := by decide +kernel
theorem dX0_bestOn_45 : decode cX0_bestOn 45 = .ok (.ireturn, 1) := by decide +kernel
theorem dX0_fillWorths_0 : decode cX0_fillWorths 0 = .ok (.iconst 0, 1) := by decide +kernel
theorem dX0_fillWorths_1 : decode cX0_fillWorths 1 = .ok (.istore 4, 2) := by decide +kernel
theorem dX0_fillWorths_3 : decode cX0_fillWorths 3 = .ok (.iload 4, 2) := by decide +kernel
theorem dX0_fillWorths_5 : decode cX0_fillWorths 5 = .ok (.aload_n 1, 1) := by decide +kernel
theorem dX0_fillWorths_6 : decode cX0_fillWorths 6 = .ok (.getfield 21, 3) := by decide +kernel
theorem dX0_fillWorths_9 : decode cX0_fillWorths 9 = .ok (.if_icmp .ge 59, 3) := by decide +kernel
theorem dX0_fillWorths_12 : decode cX0_fillWorths 12 = .ok (.aload_n 2, 1) := by decide +kernel
theorem dX0_fillWorths_13 : decode cX0_fillWorths 13 = .ok (.iload_n 3, 1) := by decide +kernel
theorem dX0_fillWorths_14 : decode cX0_fillWorths 14 = .ok (.invokevirtual 66, 3) := by decide +kernel
theorem dX0_fillWorths_17 : decode cX0_fillWorths 17 = .ok (.ifCond .eq 18, 3) := by decide +kernel
theorem dX0_fillWorths_20 : decode cX0_fillWorths 20 = .ok (.aload_n 1, 1) := by decide +kernel
theorem dX0_fillWorths_21 : decode cX0_fillWorths 21 = .ok (.getfield 70, 3) := by decide +kernel
theorem dX0_fillWorths_24 : decode cX0_fillWorths 24 = .ok (.iload_n 3, 1) := by decide +kernel
theorem dX0_fillWorths_25 : decode cX0_fillWorths 25 = .ok (.iaload, 1) := by decide +kernel
theorem dX0_fillWorths_26 : decode cX0_fillWorths 26 = .ok (.iload 4, 2) := by decide +kernel
theorem dX0_fillWorths_28 : decode cX0_fillWorths 28 = .ok (.if_icmp .eq 7, 3) := by decide +kernel
theorem dX0_fillWorths_31 : decode cX0_fillWorths 31 = .ok (.iconst 1, 1) := by decide +kernel
theorem dX0_fillWorths_32 : decode cX0_fillWorths 32 = .ok (.goto 4, 3) := by decide +kernel
theorem dX0_fillWorths_35 : decode cX0_fillWorths 35 = .ok (.iconst 0, 1) := by decide +kernel
theorem dX0_fillWorths_36 : decode cX0_fillWorths 36 = .ok (.istore 5, 2) := by decide +kernel
theorem dX0_fillWorths_38 : decode cX0_fillWorths 38 = .ok (.aload_n 0, 1) := by decide +kernel
theorem dX0_fillWorths_39 : decode cX0_fillWorths 39 = .ok (.getfield 15, 3) := by decide +kernel
theorem dX0_fillWorths_42 : decode cX0_fillWorths 42 = .ok (.iload 4, 2) := by decide +kernel
theorem dX0_fillWorths_44 : decode cX0_fillWorths 44 = .ok (.iload 5, 2) := by decide +kernel
theorem dX0_fillWorths_46 : decode cX0_fillWorths 46 = .ok (.ifCond .eq 14, 3) := by decide +kernel
theorem dX0_fillWorths_49 : decode cX0_fillWorths 49 = .ok (.aload_n 2, 1) := by decide +kernel
theorem dX0_fillWorths_50 : decode cX0_fillWorths 50 = .ok (.aload_n 1, 1) := by decide +kernel
theorem dX0_fillWorths_51 : decode cX0_fillWorths 51 = .ok (.iload_n 3, 1) := by decide +kernel
theorem dX0_fillWorths_52 : decode cX0_fillWorths 52 = .ok (.iload 4, 2) := by decide +kernel
theorem dX0_fillWorths_54 : decode cX0_fillWorths 54 = .ok (.invokevirtual 73, 3) := by decide +kernel
theorem dX0_fillWorths_57 : decode cX0_fillWorths 57 = .ok (.goto 4, 3) := by decide +kernel
theorem dX0_fillWorths_60 : decode cX0_fillWorths 60 = .ok (.iconst (-1), 1) := by decide +kernel
theorem dX0_fillWorths_61 : decode cX0_fillWorths 61 = .ok (.iastore, 1) := by decide +kernel
theorem dX0_fillWorths_62 : decode cX0_fillWorths 62 = .ok (.iinc 4 1, 3) := by decide +kernel
theorem dX0_fillWorths_65 : decode cX0_fillWorths 65 = .ok (.goto (-62), 3) := by decide +kernel
theorem dX0_fillWorths_68 : decode cX0_fillWorths 68 = .ok (.return_, 1) := by decide +kernel
theorem dX1_init_0 : decode cX1_init 0 = .ok (.aload_n 0, 1) := by decide +kernel
theorem dX1_init_1 : decode cX1_init 1 = .ok (.invokespecial 3, 3) := by decide +kernel
theorem dX1_init_4 : decode cX1_init 4 = .ok (.aload_n 0, 1) := by decide +kernel
theorem dX1_init_5 : decode cX1_init 5 = .ok (.bipush 8, 2) := by decide +kernel
theorem dX1_init_7 : decode cX1_init 7 = .ok (.newarray .int, 2) := by decide +kernel
theorem dX1_init_9 : decode cX1_init 9 = .ok (.putfield 9, 3) := by decide +kernel
theorem dX1_init_12 : decode cX1_init 12 = .ok (.return_, 1) := by decide +kernel
theorem dX1_add_0 : decode cX1_add 0 = .ok (.aload_n 0, 1) := by decide +kernel
theorem dX1_add_1 : decode cX1_add 1 = .ok (.getfield 15, 3) := by decide +kernel
theorem dX1_add_4 : decode cX1_add 4 = .ok (.bipush 8, 2) := by decide +kernel
theorem dX1_add_6 : decode cX1_add 6 = .ok (.if_icmp .lt 5, 3) := by decide +kernel
theorem dX1_add_9 : decode cX1_add 9 = .ok (.iconst 0, 1) := by decide +kernel
theorem dX1_add_10 : decode cX1_add 10 = .ok (.ireturn, 1) := by decide +kernel
theorem dX1_add_11 : decode cX1_add 11 = .ok (.aload_n 0, 1) := by decide +kernel
theorem dX1_add_12 : decode cX1_add 12 = .ok (.getfield 9, 3) := by decide +kernel
theorem dX1_add_15 : decode cX1_add 15 = .ok (.aload_n 0, 1) := by decide +kernel
theorem dX1_add_16 : decode cX1_add 16 = .ok (.getfield 15, 3) := by decide +kernel
theorem dX1_add_19 : decode cX1_add 19 = .ok (.iload_n 1, 1) := by decide +kernel
theorem dX1_add_20 : decode cX1_add 20 = .ok (.iastore, 1) := by decide +kernel
theorem dX1_add_21 : decode cX1_add 21 = .ok (.aload_n 0, 1) := by decide +kernel
theorem dX1_add_22 : decode cX1_add 22 = .ok (.dup, 1) := by decide +kernel
theorem dX1_add_23 : decode cX1_add 23 = .ok (.getfield 15, 3) := by decide +kernel
theorem dX1_add_26 : decode cX1_add 26 = .ok (.iconst 1, 1) := by decide +kernel
theorem dX1_add_27 : decode cX1_add 27 = .ok (.iadd, 1) := by decide +kernel
theorem dX1_add_28 : decode cX1_add 28 = .ok (.putfield 15, 3) := by decide +kernel
theorem dX1_add_31 : decode cX1_add 31 = .ok (.iconst 1, 1) := by decide +kernel
theorem dX1_add_32 : decode cX1_add 32 = .ok (.ireturn, 1) := by decide +kernel
theorem dX1_possible_0 : decode cX1_possible 0 = .ok (.iconst 0, 1) := by decide +kernel
theorem dX1_possible_1 : decode cX1_possible 1 = .ok (.istore_n 3, 1) := by decide +kernel
theorem dX1_possible_2 : decode cX1_possible 2 = .ok (.iconst 0, 1) := by decide +kernel
theorem dX1_possible_3 : decode cX1_possible 3 = .ok (.istore 4, 2) := by decide +kernel
theorem dX1_possible_5 : decode cX1_possible 5 = .ok (.iload 4, 2) := by decide +kernel
theorem dX1_possible_7 : decode cX1_possible 7 = .ok (.aload_n 1, 1) := by decide +kernel
theorem dX1_possible_8 : decode cX1_possible 8 = .ok (.getfield 19, 3) := by decide +kernel
theorem dX1_possible_11 : decode cX1_possible 11 = .ok (.if_icmp .ge 26, 3) := by decide +kernel
theorem dX1_possible_14 : decode cX1_possible 14 = .ok (.aload_n 0, 1) := by decide +kernel
theorem dX1_possible_15 : decode cX1_possible 15 = .ok (.aload_n 2, 1) := by decide +kernel
theorem dX1_possible_16 : decode cX1_possible 16 = .ok (.iload 4, 2) := by decide +kernel
theorem dX1_possible_18 : decode cX1_possible 18 = .ok (.invokevirtual 24, 3) := by decide +kernel
theorem dX1_possible_21 : decode cX1_possible 21 = .ok (.ifCond .eq 10, 3) := by decide +kernel
theorem dX1_possible_24 : decode cX1_possible 24 = .ok (.iload_n 3, 1) := by decide +kernel
theorem dX1_possible_25 : decode cX1_possible 25 = .ok (.iconst 1, 1) := by decide +kernel
theorem dX1_possible_26 : decode cX1_possible 26 = .ok (.iload 4, 2) := by decide +kernel
theorem dX1_possible_28 : decode cX1_possible 28 = .ok (.ishl, 1) := by decide +kernel
theorem dX1_possible_29 : decode cX1_possible 29 = .ok (.ior, 1) := by decide +kernel
theorem dX1_possible_30 : decode cX1_possible 30 = .ok (.istore_n 3, 1) := by decide +kernel
theorem dX1_possible_31 : decode cX1_possible 31 = .ok (.iinc 4 1, 3) := by decide +kernel
theorem dX1_possible_34 : decode cX1_possible 34 = .ok (.goto (-29), 3) := by decide +kernel
theorem dX1_possible_37 : decode cX1_possible 37 = .ok (.iload_n 3, 1) := by decide +kernel
theorem dX1_possible_38 : decode cX1_possible 38 = .ok (.ireturn, 1) := by decide +kernel
theorem dX1_greatest_0 : decode cX1_greatest 0 = .ok (.iconst (-1), 1) := by decide +kernel
theorem dX1_greatest_1 : decode cX1_greatest 1 = .ok (.istore_n 3, 1) := by decide +kernel
theorem dX1_greatest_2 : decode cX1_greatest 2 = .ok (.lconst 0, 1) := by decide +kernel
theorem dX1_greatest_3 : decode cX1_greatest 3 = .ok (.lstore 4, 2) := by decide +kernel
theorem dX1_greatest_5 : decode cX1_greatest 5 = .ok (.iconst 0, 1) := by decide +kernel
theorem dX1_greatest_6 : decode cX1_greatest 6 = .ok (.istore 6, 2) := by decide +kernel
theorem dX1_greatest_8 : decode cX1_greatest 8 = .ok (.iload 6, 2) := by decide +kernel
theorem dX1_greatest_10 : decode cX1_greatest 10 = .ok (.aload_n 1, 1) := by decide +kernel
theorem dX1_greatest_11 : decode cX1_greatest 11 = .ok (.getfield 19, 3) := by decide +kernel
theorem dX1_greatest_14 : decode cX1_greatest 14 = .ok (.if_icmp .ge 33, 3) := by decide +kernel
theorem dX1_greatest_17 : decode cX1_greatest 17 = .ok (.aload_n 0, 1) := by decide +kernel
theorem dX1_greatest_18 : decode cX1_greatest 18 = .ok (.aload_n 2, 1) := by decide +kernel
theorem dX1_greatest_19 : decode cX1_greatest 19 = .ok (.iload 6, 2) := by decide +kernel
theorem dX1_greatest_21 : decode cX1_greatest 21 = .ok (.invokevirtual 28, 3) := by decide +kernel
theorem dX1_greatest_24 : decode cX1_greatest 24 = .ok (.lstore 7, 2) := by decide +kernel
theorem dX1_greatest_26 : decode cX1_greatest 26 = .ok (.lload 7, 2) := by decide +kernel
theorem dX1_greatest_28 : decode cX1_greatest 28 = .ok (.lload 4, 2) := by decide +kernel
theorem dX1_greatest_30 : decode cX1_greatest 30 = .ok (.lcmp, 1) := by decide +kernel
theorem dX1_greatest_31 : decode cX1_greatest 31 = .ok (.ifCond .le 10, 3) := by decide +kernel
theorem dX1_greatest_34 : decode cX1_greatest 34 = .ok (.lload 7, 2) := by decide +kernel
theorem dX1_greatest_36 : decode cX1_greatest 36 = .ok (.lstore 4, 2) := by decide +kernel
theorem dX1_greatest_38 : decode cX1_greatest 38 = .ok (.iload 6, 2) := by decide +kernel
theorem dX1_greatest_40 : decode cX1_greatest 40 = .ok (.istore_n 3, 1) := by decide +kernel
theorem dX1_greatest_41 : decode cX1_greatest 41 = .ok (.iinc 6 1, 3) := by decide +kernel
theorem dX1_greatest_44 : decode cX1_greatest 44 = .ok (.goto (-36), 3) := by decide +kernel
theorem dX1_greatest_47 : decode cX1_greatest 47 = .ok (.iload_n 3, 1) := by decide +kernel
theorem dX1_greatest_48 : decode cX1_greatest 48 = .ok (.ireturn, 1) := by decide +kernel
theorem dX1_share_0 : decode cX1_share 0 = .ok (.lconst 0, 1) := by decide +kernel
theorem dX1_share_1 : decode cX1_share 1 = .ok (.lstore 4, 2) := by decide +kernel
theorem dX1_share_3 : decode cX1_share 3 = .ok (.iconst 0, 1) := by decide +kernel
theorem dX1_share_4 : decode cX1_share 4 = .ok (.istore 6, 2) := by decide +kernel
theorem dX1_share_6 : decode cX1_share 6 = .ok (.iload 6, 2) := by decide +kernel
theorem dX1_share_8 : decode cX1_share 8 = .ok (.aload_n 1, 1) := by decide +kernel
theorem dX1_share_9 : decode cX1_share 9 = .ok (.getfield 19, 3) := by decide +kernel
theorem dX1_share_12 : decode cX1_share 12 = .ok (.if_icmp .ge 21, 3) := by decide +kernel
theorem dX1_share_15 : decode cX1_share 15 = .ok (.lload 4, 2) := by decide +kernel
theorem dX1_share_17 : decode cX1_share 17 = .ok (.aload_n 0, 1) := by decide +kernel
theorem dX1_share_18 : decode cX1_share 18 = .ok (.aload_n 2, 1) := by decide +kernel
theorem dX1_share_19 : decode cX1_share 19 = .ok (.iload 6, 2) := by decide +kernel
theorem dX1_share_21 : decode cX1_share 21 = .ok (.invokevirtual 28, 3) := by decide +kernel
theorem dX1_share_24 : decode cX1_share 24 = .ok (.ladd, 1) := by decide +kernel
theorem dX1_share_25 : decode cX1_share 25 = .ok (.lstore 4, 2) := by decide +kernel
theorem dX1_share_27 : decode cX1_share 27 = .ok (.iinc 6 1, 3) := by decide +kernel
theorem dX1_share_30 : decode cX1_share 30 = .ok (.goto (-24), 3) := by decide +kernel
theorem dX1_share_33 : decode cX1_share 33 = .ok (.lload 4, 2) := by decide +kernel
theorem dX1_share_35 : decode cX1_share 35 = .ok (.lconst 0, 1) := by decide +kernel
theorem dX1_share_36 : decode cX1_share 36 = .ok (.lcmp, 1) := by decide +kernel
theorem dX1_share_37 : decode cX1_share 37 = .ok (.ifCond .le 20, 3) := by decide +kernel
theorem dX1_share_40 : decode cX1_share 40 = .ok (.aload_n 0, 1) := by decide +kernel
theorem dX1_share_41 : decode cX1_share 41 = .ok (.aload_n 2, 1) := by decide +kernel
theorem dX1_share_42 : decode cX1_share 42 = .ok (.iload_n 3, 1) := by decide +kernel
theorem dX1_share_43 : decode cX1_share 43 = .ok (.invokevirtual 28, 3) := by decide +kernel
theorem dX1_share_46 : decode cX1_share 46 = .ok (.ldc2_w 32, 3) := by decide +kernel
theorem dX1_share_49 : decode cX1_share 49 = .ok (.lmul, 1) := by decide +kernel
theorem dX1_share_50 : decode cX1_share 50 = .ok (.lload 4, 2) := by decide +kernel
theorem dX1_share_52 : decode cX1_share 52 = .ok (.ldiv, 1) := by decide +kernel
theorem dX1_share_53 : decode cX1_share 53 = .ok (.l2i, 1) := by decide +kernel
theorem dX1_share_54 : decode cX1_share 54 = .ok (.goto 4, 3) := by decide +kernel
theorem dX1_share_57 : decode cX1_share 57 = .ok (.iconst 0, 1) := by decide +kernel
theorem dX1_share_58 : decode cX1_share 58 = .ok (.ireturn, 1) := by decide +kernel
theorem dX1_dreamsAll_0 : decode cX1_dreamsAll 0 = .ok (.iconst 0, 1) := by decide +kernel
theorem dX1_dreamsAll_1 : decode cX1_dreamsAll 1 = .ok (.istore_n 3, 1) := by decide +kernel
theorem dX1_dreamsAll_2 : decode cX1_dreamsAll 2 = .ok (.iload_n 3, 1) := by decide +kernel
theorem dX1_dreamsAll_3 : decode cX1_dreamsAll 3 = .ok (.aload_n 0, 1) := by decide +kernel
theorem dX1_dreamsAll_4 : decode cX1_dreamsAll 4 = .ok (.getfield 15, 3) := by decide +kernel
theorem dX1_dreamsAll_7 : decode cX1_dreamsAll 7 = .ok (.if_icmp .ge 25, 3) := by decide +kernel
theorem dX1_dreamsAll_10 : decode cX1_dreamsAll 10 = .ok (.aload_n 1, 1) := by decide +kernel
theorem dX1_dreamsAll_11 : decode cX1_dreamsAll 11 = .ok (.iload_n 2, 1) := by decide +kernel
theorem dX1_dreamsAll_12 : decode cX1_dreamsAll 12 = .ok (.aload_n 0, 1) := by decide +kernel
theorem dX1_dreamsAll_13 : decode cX1_dreamsAll 13 = .ok (.getfield 9, 3) := by decide +kernel
theorem dX1_dreamsAll_16 : decode cX1_dreamsAll 16 = .ok (.iload_n 3, 1) := by decide +kernel
theorem dX1_dreamsAll_17 : decode cX1_dreamsAll 17 = .ok (.iaload, 1) := by decide +kernel
theorem dX1_dreamsAll_18 : decode cX1_dreamsAll 18 = .ok (.invokevirtual 34, 3) := by decide +kernel
theorem dX1_dreamsAll_21 : decode cX1_dreamsAll 21 = .ok (.ifCond .ne 5, 3) := by decide +kernel
theorem dX1_dreamsAll_24 : decode cX1_dreamsAll 24 = .ok (.iconst 0, 1) := by decide +kernel
theorem dX1_dreamsAll_25 : decode cX1_dreamsAll 25 = .ok (.ireturn, 1) := by decide +kernel
theorem dX1_dreamsAll_26 : decode cX1_dreamsAll 26 = .ok (.iinc 3 1, 3) := by decide +kernel
theorem dX1_dreamsAll_29 : decode cX1_dreamsAll 29 = .ok (.goto (-27), 3) := by decide +kernel
theorem dX1_dreamsAll_32 : decode cX1_dreamsAll 32 = .ok (.iconst 1, 1) := by decide +kernel
theorem dX1_dreamsAll_33 : decode cX1_dreamsAll 33 = .ok (.ireturn, 1) := by decide +kernel
theorem dX1_partOf_0 : decode cX1_partOf 0 = .ok (.aload_n 1, 1) := by decide +kernel
theorem dX1_partOf_1 : decode cX1_partOf 1 = .ok (.iload_n 2, 1) := by decide +kernel
theorem dX1_partOf_2 : decode cX1_partOf 2 = .ok (.invokevirtual 40, 3) := by decide +kernel
theorem dX1_partOf_5 : decode cX1_partOf 5 = .ok (.istore_n 3, 1) := by decide +kernel
theorem dX1_partOf_6 : decode cX1_partOf 6 = .ok (.iload_n 3, 1) := by decide +kernel
theorem dX1_partOf_7 : decode cX1_partOf 7 = .ok (.ifCond .gt 5, 3) := by decide +kernel
theorem dX1_partOf_10 : decode cX1_partOf 10 = .ok (.lconst 0, 1) := by decide +kernel
theorem dX1_partOf_11 : decode cX1_partOf 11 = .ok (.lreturn, 1) := by decide +kernel
theorem dX1_partOf_12 : decode cX1_partOf 12 = .ok (.ldc2_w 44, 3) := by decide +kernel
theorem dX1_partOf_15 : decode cX1_partOf 15 = .ok (.lstore 4, 2) := by decide +kernel
theorem dX1_partOf_17 : decode cX1_partOf 17 = .ok (.iconst 0, 1) := by decide +kernel
theorem dX1_partOf_18 : decode cX1_partOf 18 = .ok (.istore 6, 2) := by decide +kernel
theorem dX1_partOf_20 : decode cX1_partOf 20 = .ok (.iload 6, 2) := by decide +kernel
theorem dX1_partOf_22 : decode cX1_partOf 22 = .ok (.aload_n 0, 1) := by decide +kernel
theorem dX1_partOf_23 : decode cX1_partOf 23 = .ok (.getfield 15, 3) := by decide +kernel
theorem dX1_partOf_26 : decode cX1_partOf 26 = .ok (.if_icmp .ge 30, 3) := by decide +kernel
theorem dX1_partOf_29 : decode cX1_partOf 29 = .ok (.lload 4, 2) := by decide +kernel
theorem dX1_partOf_31 : decode cX1_partOf 31 = .ok (.aload_n 1, 1) := by decide +kernel
theorem dX1_partOf_32 : decode cX1_partOf 32 = .ok (.iload_n 2, 1) := by decide +kernel
theorem dX1_partOf_33 : decode cX1_partOf 33 = .ok (.aload_n 0, 1) := by decide +kernel
theorem dX1_partOf_34 : decode cX1_partOf 34 = .ok (.getfield 9, 3) := by decide +kernel
theorem dX1_partOf_37 : decode cX1_partOf 37 = .ok (.iload 6, 2) := by decide +kernel
theorem dX1_partOf_39 : decode cX1_partOf 39 = .ok (.iaload, 1) := by decide +kernel
theorem dX1_partOf_40 : decode cX1_partOf 40 = .ok (.invokevirtual 34, 3) := by decide +kernel
theorem dX1_partOf_43 : decode cX1_partOf 43 = .ok (.i2l, 1) := by decide +kernel
theorem dX1_partOf_44 : decode cX1_partOf 44 = .ok (.lmul, 1) := by decide +kernel
theorem dX1_partOf_45 : decode cX1_partOf 45 = .ok (.iload_n 3, 1) := by decide +kernel
theorem dX1_partOf_46 : decode cX1_partOf 46 = .ok (.i2l, 1) := by decide +kernel
theorem dX1_partOf_47 : decode cX1_partOf 47 = .ok (.ldiv, 1) := by decide +kernel
theorem dX1_partOf_48 : decode cX1_partOf 48 = .ok (.lstore 4, 2) := by decide +kernel
theorem dX1_partOf_50 : decode cX1_partOf 50 = .ok (.iinc 6 1, 3) := by decide +kernel
theorem dX1_partOf_53 : decode cX1_partOf 53 = .ok (.goto (-33), 3) := by decide +kernel
theorem dX1_partOf_56 : decode cX1_partOf 56 = .ok (.lload 4, 2) := by decide +kernel
theorem dX1_partOf_58 : decode cX1_partOf 58 = .ok (.lreturn, 1) := by decide +kernel
theorem dX2_init_0 : decode cX2_init 0 = .ok (.aload_n 0, 1) := by decide +kernel
theorem dX2_init_1 : decode cX2_init 1 = .ok (.invokespecial 3, 3) := by decide +kernel
theorem dX2_init_4 : decode cX2_init 4 = .ok (.aload_n 0, 1) := by decide +kernel
theorem dX2_init_5 : decode cX2_init 5 = .ok (.bipush 15, 2) := by decide +kernel
theorem dX2_init_7 : decode cX2_init 7 = .ok (.newarray .int, 2) := by decide +kernel
theorem dX2_init_9 : decode cX2_init 9 = .ok (.putfield 9, 3) := by decide +kernel
theorem dX2_init_12 : decode cX2_init 12 = .ok (.aload_n 0, 1) := by decide +kernel
theorem dX2_init_13 : decode cX2_init 13 = .ok (.bipush 15, 2) := by decide +kernel
theorem dX2_init_15 : decode cX2_init 15 = .ok (.newarray .int, 2) := by decide +kernel
theorem dX2_init_17 : decode cX2_init 17 = .ok (.putfield 15, 3) := by decide +kernel
theorem dX2_init_20 : decode cX2_init 20 = .ok (.aload_n 0, 1) := by decide +kernel
theorem dX2_init_21 : decode cX2_init 21 = .ok (.bipush 15, 2) := by decide +kernel
theorem dX2_init_23 : decode cX2_init 23 = .ok (.newarray .int, 2) := by decide +kernel
theorem dX2_init_25 : decode cX2_init 25 = .ok (.putfield 18, 3) := by decide +kernel
theorem dX2_init_28 : decode cX2_init 28 = .ok (.return_, 1) := by decide +kernel
theorem dX2_add_0 : decode cX2_add 0 = .ok (.aload_n 0, 1) := by decide +kernel
theorem dX2_add_1 : decode cX2_add 1 = .ok (.getfield 21, 3) := by decide +kernel
theorem dX2_add_4 : decode cX2_add 4 = .ok (.bipush 15, 2) := by decide +kernel
theorem dX2_add_6 : decode cX2_add 6 = .ok (.if_icmp .lt 5, 3) := by decide +kernel
theorem dX2_add_9 : decode cX2_add 9 = .ok (.iconst 0, 1) := by decide +kernel
theorem dX2_add_10 : decode cX2_add 10 = .ok (.ireturn, 1) := by decide +kernel
theorem dX2_add_11 : decode cX2_add 11 = .ok (.aload_n 0, 1) := by decide +kernel
theorem dX2_add_12 : decode cX2_add 12 = .ok (.getfield 9, 3) := by decide +kernel
theorem dX2_add_15 : decode cX2_add 15 = .ok (.aload_n 0, 1) := by decide +kernel
theorem dX2_add_16 : decode cX2_add 16 = .ok (.getfield 21, 3) := by decide +kernel
theorem dX2_add_19 : decode cX2_add 19 = .ok (.iload_n 1, 1) := by decide +kernel
theorem dX2_add_20 : decode cX2_add 20 = .ok (.iastore, 1) := by decide +kernel
theorem dX2_add_21 : decode cX2_add 21 = .ok (.aload_n 0, 1) := by decide +kernel
theorem dX2_add_22 : decode cX2_add 22 = .ok (.getfield 15, 3) := by decide +kernel
theorem dX2_add_25 : decode cX2_add 25 = .ok (.aload_n 0, 1) := by decide +kernel
theorem dX2_add_26 : decode cX2_add 26 = .ok (.getfield 21, 3) := by decide +kernel
theorem dX2_add_29 : decode cX2_add 29 = .ok (.iload_n 2, 1) := by decide +kernel
theorem dX2_add_30 : decode cX2_add 30 = .ok (.iastore, 1) := by decide +kernel
theorem dX2_add_31 : decode cX2_add 31 = .ok (.aload_n 0, 1) := by decide +kernel
theorem dX2_add_32 : decode cX2_add 32 = .ok (.getfield 18, 3) := by decide +kernel
theorem dX2_add_35 : decode cX2_add 35 = .ok (.aload_n 0, 1) := by decide +kernel
theorem dX2_add_36 : decode cX2_add 36 = .ok (.getfield 21, 3) := by decide +kernel
theorem dX2_add_39 : decode cX2_add 39 = .ok (.iload_n 3, 1) := by decide +kernel
theorem dX2_add_40 : decode cX2_add 40 = .ok (.iastore, 1) := by decide +kernel
theorem dX2_add_41 : decode cX2_add 41 = .ok (.aload_n 0, 1) := by decide +kernel
theorem dX2_add_42 : decode cX2_add 42 = .ok (.dup, 1) := by decide +kernel
theorem dX2_add_43 : decode cX2_add 43 = .ok (.getfield 21, 3) := by decide +kernel
theorem dX2_add_46 : decode cX2_add 46 = .ok (.iconst 1, 1) := by decide +kernel
theorem dX2_add_47 : decode cX2_add 47 = .ok (.iadd, 1) := by decide +kernel
theorem dX2_add_48 : decode cX2_add 48 = .ok (.putfield 21, 3) := by decide +kernel
theorem dX2_add_51 : decode cX2_add 51 = .ok (.iconst 1, 1) := by decide +kernel
theorem dX2_add_52 : decode cX2_add 52 = .ok (.ireturn, 1) := by decide +kernel
theorem dX2_firstWrong_0 : decode cX2_firstWrong 0 = .ok (.iconst 0, 1) := by decide +kernel
theorem dX2_firstWrong_1 : decode cX2_firstWrong 1 = .ok (.istore_n 2, 1) := by decide +kernel
theorem dX2_firstWrong_2 : decode cX2_firstWrong 2 = .ok (.iload_n 2, 1) := by decide +kernel
theorem dX2_firstWrong_3 : decode cX2_firstWrong 3 = .ok (.aload_n 0, 1) := by decide +kernel
theorem dX2_firstWrong_4 : decode cX2_firstWrong 4 = .ok (.getfield 21, 3) := by decide +kernel
theorem dX2_firstWrong_7 : decode cX2_firstWrong 7 = .ok (.if_icmp .ge 36, 3) := by decide +kernel
theorem dX2_firstWrong_10 : decode cX2_firstWrong 10 = .ok (.aload_n 1, 1) := by decide +kernel
theorem dX2_firstWrong_11 : decode cX2_firstWrong 11 = .ok (.aload_n 0, 1) := by decide +kernel
theorem dX2_firstWrong_12 : decode cX2_firstWrong 12 = .ok (.getfield 9, 3) := by decide +kernel
theorem dX2_firstWrong_15 : decode cX2_firstWrong 15 = .ok (.iload_n 2, 1) := by decide +kernel
theorem dX2_firstWrong_16 : decode cX2_firstWrong 16 = .ok (.iaload, 1) := by decide +kernel
theorem dX2_firstWrong_17 : decode cX2_firstWrong 17 = .ok (.aload_n 0, 1) := by decide +kernel
theorem dX2_firstWrong_18 : decode cX2_firstWrong 18 = .ok (.getfield 15, 3) := by decide +kernel
theorem dX2_firstWrong_21 : decode cX2_firstWrong 21 = .ok (.iload_n 2, 1) := by decide +kernel
theorem dX2_firstWrong_22 : decode cX2_firstWrong 22 = .ok (.iaload, 1) := by decide +kernel
theorem dX2_firstWrong_23 : decode cX2_firstWrong 23 = .ok (.invokevirtual 25, 3) := by decide +kernel
theorem dX2_firstWrong_26 : decode cX2_firstWrong 26 = .ok (.aload_n 0, 1) := by decide +kernel
theorem dX2_firstWrong_27 : decode cX2_firstWrong 27 = .ok (.getfield 18, 3) := by decide +kernel
theorem dX2_firstWrong_30 : decode cX2_firstWrong 30 = .ok (.iload_n 2, 1) := by decide +kernel
theorem dX2_firstWrong_31 : decode cX2_firstWrong 31 = .ok (.iaload, 1) := by decide +kernel
theorem dX2_firstWrong_32 : decode cX2_firstWrong 32 = .ok (.if_icmp .eq 5, 3) := by decide +kernel
theorem dX2_firstWrong_35 : decode cX2_firstWrong 35 = .ok (.iload_n 2, 1) := by decide +kernel
theorem dX2_firstWrong_36 : decode cX2_firstWrong 36 = .ok (.ireturn, 1) := by decide +kernel
theorem dX2_firstWrong_37 : decode cX2_firstWrong 37 = .ok (.iinc 2 1, 3) := by decide +kernel
theorem dX2_firstWrong_40 : decode cX2_firstWrong 40 = .ok (.goto (-38), 3) := by decide +kernel
theorem dX2_firstWrong_43 : decode cX2_firstWrong 43 = .ok (.iconst (-1), 1) := by decide +kernel
theorem dX2_firstWrong_44 : decode cX2_firstWrong 44 = .ok (.ireturn, 1) := by decide +kernel
theorem dX3_init_0 : decode cX3_init 0 = .ok (.aload_n 0, 1) := by decide +kernel
theorem dX3_init_1 : decode cX3_init 1 = .ok (.invokespecial 3, 3) := by decide +kernel
theorem dX3_init_4 : decode cX3_init 4 = .ok (.aload_n 0, 1) := by decide +kernel
theorem dX3_init_5 : decode cX3_init 5 = .ok (.bipush 64, 2) := by decide +kernel
theorem dX3_init_7 : decode cX3_init 7 = .ok (.newarray .int, 2) := by decide +kernel
theorem dX3_init_9 : decode cX3_init 9 = .ok (.putfield 9, 3) := by decide +kernel
theorem dX3_init_12 : decode cX3_init 12 = .ok (.return_, 1) := by decide +kernel
theorem dX3_ways_0 : decode cX3_ways 0 = .ok (.aload_n 0, 1) := by decide +kernel
theorem dX3_ways_1 : decode cX3_ways 1 = .ok (.getfield 9, 3) := by decide +kernel
theorem dX3_ways_4 : decode cX3_ways 4 = .ok (.iconst 0, 1) := by decide +kernel
theorem dX3_ways_5 : decode cX3_ways 5 = .ok (.invokestatic 15, 3) := by decide +kernel
theorem dX3_ways_8 : decode cX3_ways 8 = .ok (.aload_n 0, 1) := by decide +kernel
theorem dX3_ways_9 : decode cX3_ways 9 = .ok (.getfield 9, 3) := by decide +kernel
theorem dX3_ways_12 : decode cX3_ways 12 = .ok (.iconst 0, 1) := by decide +kernel
theorem dX3_ways_13 : decode cX3_ways 13 = .ok (.iconst 1, 1) := by decide +kernel
theorem dX3_ways_14 : decode cX3_ways 14 = .ok (.iastore, 1) := by decide +kernel
theorem dX3_ways_15 : decode cX3_ways 15 = .ok (.iconst 0, 1) := by decide +kernel
theorem dX3_ways_16 : decode cX3_ways 16 = .ok (.istore 5, 2) := by decide +kernel
theorem dX3_ways_18 : decode cX3_ways 18 = .ok (.iconst 0, 1) := by decide +kernel
theorem dX3_ways_19 : decode cX3_ways 19 = .ok (.istore 6, 2) := by decide +kernel
theorem dX3_ways_21 : decode cX3_ways 21 = .ok (.iload 6, 2) := by decide +kernel
theorem dX3_ways_23 : decode cX3_ways 23 = .ok (.aload_n 1, 1) := by decide +kernel
theorem dX3_ways_24 : decode cX3_ways 24 = .ok (.getfield 21, 3) := by decide +kernel
theorem dX3_ways_27 : decode cX3_ways 27 = .ok (.if_icmp .ge 52, 3) := by decide +kernel
theorem dX3_ways_30 : decode cX3_ways 30 = .ok (.aload_n 2, 1) := by decide +kernel
theorem dX3_ways_31 : decode cX3_ways 31 = .ok (.iload 6, 2) := by decide +kernel
theorem dX3_ways_33 : decode cX3_ways 33 = .ok (.invokevirtual 27, 3) := by decide +kernel
theorem dX3_ways_36 : decode cX3_ways 36 = .ok (.ifCond .ne 37, 3) := by decide +kernel
theorem dX3_ways_39 : decode cX3_ways 39 = .ok (.iload 6, 2) := by decide +kernel
theorem dX3_ways_41 : decode cX3_ways 41 = .ok (.iload_n 3, 1) := by decide +kernel
theorem dX3_ways_42 : decode cX3_ways 42 = .ok (.if_icmp .ne 8, 3) := by decide +kernel
theorem dX3_ways_45 : decode cX3_ways 45 = .ok (.iload 4, 2) := by decide +kernel
theorem dX3_ways_47 : decode cX3_ways 47 = .ok (.goto 4, 3) := by decide +kernel
theorem dX3_ways_50 : decode cX3_ways 50 = .ok (.iconst (-1), 1) := by decide +kernel
theorem dX3_ways_51 : decode cX3_ways 51 = .ok (.istore 7, 2) := by decide +kernel
theorem dX3_ways_53 : decode cX3_ways 53 = .ok (.aload_n 0, 1) := by decide +kernel
theorem dX3_ways_54 : decode cX3_ways 54 = .ok (.aload_n 1, 1) := by decide +kernel
theorem dX3_ways_55 : decode cX3_ways 55 = .ok (.aload_n 0, 1) := by decide +kernel
theorem dX3_ways_56 : decode cX3_ways 56 = .ok (.aload_n 1, 1) := by decide +kernel
theorem dX3_ways_57 : decode cX3_ways 57 = .ok (.aload_n 2, 1) := by decide +kernel
theorem dX3_ways_58 : decode cX3_ways 58 = .ok (.iload 6, 2) := by decide +kernel
theorem dX3_ways_60 : decode cX3_ways 60 = .ok (.iload 7, 2) := by decide +kernel
theorem dX3_ways_62 : decode cX3_ways 62 = .ok (.invokevirtual 33, 3) := by decide +kernel
theorem dX3_ways_65 : decode cX3_ways 65 = .ok (.iload 5, 2) := by decide +kernel
theorem dX3_ways_67 : decode cX3_ways 67 = .ok (.invokevirtual 37, 3) := by decide +kernel
theorem dX3_ways_70 : decode cX3_ways 70 = .ok (.iinc 5 1, 3) := by decide +kernel
theorem dX3_ways_73 : decode cX3_ways 73 = .ok (.iinc 6 1, 3) := by decide +kernel
theorem dX3_ways_76 : decode cX3_ways 76 = .ok (.goto (-55), 3) := by decide +kernel
theorem dX3_ways_79 : decode cX3_ways 79 = .ok (.aload_n 0, 1) := by decide +kernel
theorem dX3_ways_80 : decode cX3_ways 80 = .ok (.iload 5, 2) := by decide +kernel
theorem dX3_ways_82 : decode cX3_ways 82 = .ok (.invokevirtual 41, 3) := by decide +kernel
theorem dX3_ways_85 : decode cX3_ways 85 = .ok (.ireturn, 1) := by decide +kernel
theorem dX3_sureBed_0 : decode cX3_sureBed 0 = .ok (.aload_n 2, 1) := by decide +kernel
theorem dX3_sureBed_1 : decode cX3_sureBed 1 = .ok (.iload_n 3, 1) := by decide +kernel
theorem dX3_sureBed_2 : decode cX3_sureBed 2 = .ok (.invokevirtual 27, 3) := by decide +kernel
theorem dX3_sureBed_5 : decode cX3_sureBed 5 = .ok (.ifCond .eq 5, 3) := by decide +kernel
theorem dX3_sureBed_8 : decode cX3_sureBed 8 = .ok (.iconst (-1), 1) := by decide +kernel
theorem dX3_sureBed_9 : decode cX3_sureBed 9 = .ok (.ireturn, 1) := by decide +kernel
theorem dX3_sureBed_10 : decode cX3_sureBed 10 = .ok (.iconst (-1), 1) := by decide +kernel
theorem dX3_sureBed_11 : decode cX3_sureBed 11 = .ok (.istore 4, 2) := by decide +kernel
theorem dX3_sureBed_13 : decode cX3_sureBed 13 = .ok (.iconst 0, 1) := by decide +kernel
theorem dX3_sureBed_14 : decode cX3_sureBed 14 = .ok (.istore 5, 2) := by decide +kernel
theorem dX3_sureBed_16 : decode cX3_sureBed 16 = .ok (.iload 5, 2) := by decide +kernel
theorem dX3_sureBed_18 : decode cX3_sureBed 18 = .ok (.aload_n 1, 1) := by decide +kernel
theorem dX3_sureBed_19 : decode cX3_sureBed 19 = .ok (.getfield 45, 3) := by decide +kernel
theorem dX3_sureBed_22 : decode cX3_sureBed 22 = .ok (.if_icmp .ge 33, 3) := by decide +kernel
theorem dX3_sureBed_25 : decode cX3_sureBed 25 = .ok (.aload_n 0, 1) := by decide +kernel
theorem dX3_sureBed_26 : decode cX3_sureBed 26 = .ok (.aload_n 1, 1) := by decide +kernel
theorem dX3_sureBed_27 : decode cX3_sureBed 27 = .ok (.aload_n 2, 1) := by decide +kernel
theorem dX3_sureBed_28 : decode cX3_sureBed 28 = .ok (.iload_n 3, 1) := by decide +kernel
theorem dX3_sureBed_29 : decode cX3_sureBed 29 = .ok (.iload 5, 2) := by decide +kernel
theorem dX3_sureBed_31 : decode cX3_sureBed 31 = .ok (.invokevirtual 48, 3) := by decide +kernel
theorem dX3_sureBed_34 : decode cX3_sureBed 34 = .ok (.ifCond .le 15, 3) := by decide +kernel
theorem dX3_sureBed_37 : decode cX3_sureBed 37 = .ok (.iload 4, 2) := by decide +kernel
theorem dX3_sureBed_39 : decode cX3_sureBed 39 = .ok (.iconst (-1), 1) := by decide +kernel
theorem dX3_sureBed_40 : decode cX3_sureBed 40 = .ok (.if_icmp .eq 5, 3) := by decide +kernel
theorem dX3_sureBed_43 : decode cX3_sureBed 43 = .ok (.iconst (-1), 1) := by decide +kernel
theorem dX3_sureBed_44 : decode cX3_sureBed 44 = .ok (.ireturn, 1) := by decide +kernel
theorem dX3_sureBed_45 : decode cX3_sureBed 45 = .ok (.iload 5, 2) := by decide +kernel
theorem dX3_sureBed_47 : decode cX3_sureBed 47 = .ok (.istore 4, 2) := by decide +kernel
theorem dX3_sureBed_49 : decode cX3_sureBed 49 = .ok (.iinc 5 1, 3) := by decide +kernel
theorem dX3_sureBed_52 : decode cX3_sureBed 52 = .ok (.goto (-36), 3) := by decide +kernel
theorem dX3_sureBed_55 : decode cX3_sureBed 55 = .ok (.iload 4, 2) := by decide +kernel
theorem dX3_sureBed_57 : decode cX3_sureBed 57 = .ok (.ireturn, 1) := by decide +kernel
theorem dX3_bedsOf_0 : decode cX3_bedsOf 0 = .ok (.iconst 0, 1) := by decide +kernel
theorem dX3_bedsOf_1 : decode cX3_bedsOf 1 = .ok (.istore 5, 2) := by decide +kernel
theorem dX3_bedsOf_3 : decode cX3_bedsOf 3 = .ok (.iconst 0, 1) := by decide +kernel
theorem dX3_bedsOf_4 : decode cX3_bedsOf 4 = .ok (.istore 6, 2) := by decide +kernel
theorem dX3_bedsOf_6 : decode cX3_bedsOf 6 = .ok (.iload 6, 2) := by decide +kernel
theorem dX3_bedsOf_8 : decode cX3_bedsOf 8 = .ok (.aload_n 1, 1) := by decide +kernel
theorem dX3_bedsOf_9 : decode cX3_bedsOf 9 = .ok (.getfield 45, 3) := by decide +kernel
theorem dX3_bedsOf_12 : decode cX3_bedsOf 12 = .ok (.if_icmp .ge 72, 3) := by decide +kernel
theorem dX3_bedsOf_15 : decode cX3_bedsOf 15 = .ok (.iload 6, 2) := by decide +kernel
theorem dX3_bedsOf_17 : decode cX3_bedsOf 17 = .ok (.aload_n 1, 1) := by decide +kernel
theorem dX3_bedsOf_18 : decode cX3_bedsOf 18 = .ok (.getfield 51, 3) := by decide +kernel
theorem dX3_bedsOf_21 : decode cX3_bedsOf 21 = .ok (.iload_n 3, 1) := by decide +kernel
theorem dX3_bedsOf_22 : decode cX3_bedsOf 22 = .ok (.iaload, 1) := by decide +kernel
theorem dX3_bedsOf_23 : decode cX3_bedsOf 23 = .ok (.if_icmp .eq 25, 3) := by decide +kernel
theorem dX3_bedsOf_26 : decode cX3_bedsOf 26 = .ok (.aload_n 2, 1) := by decide +kernel
theorem dX3_bedsOf_27 : decode cX3_bedsOf 27 = .ok (.getfield 54, 3) := by decide +kernel
theorem dX3_bedsOf_30 : decode cX3_bedsOf 30 = .ok (.iload 6, 2) := by decide +kernel
theorem dX3_bedsOf_32 : decode cX3_bedsOf 32 = .ok (.aload_n 2, 1) := by decide +kernel
theorem dX3_bedsOf_33 : decode cX3_bedsOf 33 = .ok (.getfield 58, 3) := by decide +kernel
theorem dX3_bedsOf_36 : decode cX3_bedsOf 36 = .ok (.iload_n 3, 1) := by decide +kernel
theorem dX3_bedsOf_37 : decode cX3_bedsOf 37 = .ok (.iaload, 1) := by decide +kernel
theorem dX3_bedsOf_38 : decode cX3_bedsOf 38 = .ok (.invokevirtual 61, 3) := by decide +kernel
theorem dX3_bedsOf_41 : decode cX3_bedsOf 41 = .ok (.ifCond .le 7, 3) := by decide +kernel
theorem dX3_bedsOf_44 : decode cX3_bedsOf 44 = .ok (.iconst 1, 1) := by decide +kernel
theorem dX3_bedsOf_45 : decode cX3_bedsOf 45 = .ok (.goto 4, 3) := by decide +kernel
theorem dX3_bedsOf_48 : decode cX3_bedsOf 48 = .ok (.iconst 0, 1) := by decide +kernel
theorem dX3_bedsOf_49 : decode cX3_bedsOf 49 = .ok (.istore 7, 2) := by decide +kernel
theorem dX3_bedsOf_51 : decode cX3_bedsOf 51 = .ok (.iload 7, 2) := by decide +kernel
theorem dX3_bedsOf_53 : decode cX3_bedsOf 53 = .ok (.ifCond .eq 25, 3) := by decide +kernel
theorem dX3_bedsOf_56 : decode cX3_bedsOf 56 = .ok (.iload 4, 2) := by decide +kernel
theorem dX3_bedsOf_58 : decode cX3_bedsOf 58 = .ok (.iconst (-1), 1) := by decide +kernel
theorem dX3_bedsOf_59 : decode cX3_bedsOf 59 = .ok (.if_icmp .eq 10, 3) := by decide +kernel
theorem dX3_bedsOf_62 : decode cX3_bedsOf 62 = .ok (.iload 4, 2) := by decide +kernel
theorem dX3_bedsOf_64 : decode cX3_bedsOf 64 = .ok (.iload 6, 2) := by decide +kernel
theorem dX3_bedsOf_66 : decode cX3_bedsOf 66 = .ok (.if_icmp .ne 12, 3) := by decide +kernel
theorem dX3_bedsOf_69 : decode cX3_bedsOf 69 = .ok (.iload 5, 2) := by decide +kernel
theorem dX3_bedsOf_71 : decode cX3_bedsOf 71 = .ok (.iconst 1, 1) := by decide +kernel
theorem dX3_bedsOf_72 : decode cX3_bedsOf 72 = .ok (.iload 6, 2) := by decide +kernel
theorem dX3_bedsOf_74 : decode cX3_bedsOf 74 = .ok (.ishl, 1) := by decide +kernel
theorem dX3_bedsOf_75 : decode cX3_bedsOf 75 = .ok (.ior, 1) := by decide +kernel
theorem dX3_bedsOf_76 : decode cX3_bedsOf 76 = .ok (.istore 5, 2) := by decide +kernel
theorem dX3_bedsOf_78 : decode cX3_bedsOf 78 = .ok (.iinc 6 1, 3) := by decide +kernel
theorem dX3_bedsOf_81 : decode cX3_bedsOf 81 = .ok (.goto (-75), 3) := by decide +kernel
theorem dX3_bedsOf_84 : decode cX3_bedsOf 84 = .ok (.iload 5, 2) := by decide +kernel
theorem dX3_bedsOf_86 : decode cX3_bedsOf 86 = .ok (.ireturn, 1) := by decide +kernel
theorem dX3_place_0 : decode cX3_place 0 = .ok (.iconst 0, 1) := by decide +kernel
theorem dX3_place_1 : decode cX3_place 1 = .ok (.istore 4, 2) := by decide +kernel
theorem dX3_place_3 : decode cX3_place 3 = .ok (.iload 4, 2) := by decide +kernel
theorem dX3_place_5 : decode cX3_place 5 = .ok (.bipush 64, 2) := by decide +kernel
theorem dX3_place_7 : decode cX3_place 7 = .ok (.if_icmp .ge 89, 3) := by decide +kernel
theorem dX3_place_10 : decode cX3_place 10 = .ok (.iload 4, 2) := by decide +kernel
theorem dX3_place_12 : decode cX3_place 12 = .ok (.invokestatic 67, 3) := by decide +kernel
theorem dX3_place_15 : decode cX3_place 15 = .ok (.iload_n 3, 1) := by decide +kernel
theorem dX3_place_16 : decode cX3_place 16 = .ok (.if_icmp .ne 12, 3) := by decide +kernel
theorem dX3_place_19 : decode cX3_place 19 = .ok (.iload_n 2, 1) := by decide +kernel
theorem dX3_place_20 : decode cX3_place 20 = .ok (.iload 4, 2) := by decide +kernel
theorem dX3_place_22 : decode cX3_place 22 = .ok (.iconst (-1), 1) := by decide +kernel
theorem dX3_place_23 : decode cX3_place 23 = .ok (.ixor, 1) := by decide +kernel
theorem dX3_place_24 : decode cX3_place 24 = .ok (.iand, 1) := by decide +kernel
theorem dX3_place_25 : decode cX3_place 25 = .ok (.goto 4, 3) := by decide +kernel
theorem dX3_place_28 : decode cX3_place 28 = .ok (.iconst 0, 1) := by decide +kernel
theorem dX3_place_29 : decode cX3_place 29 = .ok (.istore 5, 2) := by decide +kernel
theorem dX3_place_31 : decode cX3_place 31 = .ok (.iconst 0, 1) := by decide +kernel
theorem dX3_place_32 : decode cX3_place 32 = .ok (.istore 6, 2) := by decide +kernel
theorem dX3_place_34 : decode cX3_place 34 = .ok (.iload 6, 2) := by decide +kernel
theorem dX3_place_36 : decode cX3_place 36 = .ok (.aload_n 1, 1) := by decide +kernel
theorem dX3_place_37 : decode cX3_place 37 = .ok (.getfield 45, 3) := by decide +kernel
theorem dX3_place_40 : decode cX3_place 40 = .ok (.if_icmp .ge 50, 3) := by decide +kernel
theorem dX3_place_43 : decode cX3_place 43 = .ok (.iload 5, 2) := by decide +kernel
theorem dX3_place_45 : decode cX3_place 45 = .ok (.iload 6, 2) := by decide +kernel
theorem dX3_place_47 : decode cX3_place 47 = .ok (.ishr, 1) := by decide +kernel
theorem dX3_place_48 : decode cX3_place 48 = .ok (.ifCond .eq 42, 3) := by decide +kernel
theorem dX3_place_51 : decode cX3_place 51 = .ok (.iload 5, 2) := by decide +kernel
theorem dX3_place_53 : decode cX3_place 53 = .ok (.iload 6, 2) := by decide +kernel
theorem dX3_place_55 : decode cX3_place 55 = .ok (.ishr, 1) := by decide +kernel
theorem dX3_place_56 : decode cX3_place 56 = .ok (.iconst 1, 1) := by decide +kernel
theorem dX3_place_57 : decode cX3_place 57 = .ok (.iand, 1) := by decide +kernel
theorem dX3_place_58 : decode cX3_place 58 = .ok (.iconst 1, 1) := by decide +kernel
theorem dX3_place_59 : decode cX3_place 59 = .ok (.if_icmp .ne 25, 3) := by decide +kernel
theorem dX3_place_62 : decode cX3_place 62 = .ok (.aload_n 0, 1) := by decide +kernel
theorem dX3_place_63 : decode cX3_place 63 = .ok (.getfield 9, 3) := by decide +kernel
theorem dX3_place_66 : decode cX3_place 66 = .ok (.iload 4, 2) := by decide +kernel
theorem dX3_place_68 : decode cX3_place 68 = .ok (.iconst 1, 1) := by decide +kernel
theorem dX3_place_69 : decode cX3_place 69 = .ok (.iload 6, 2) := by decide +kernel
theorem dX3_place_71 : decode cX3_place 71 = .ok (.ishl, 1) := by decide +kernel
theorem dX3_place_72 : decode cX3_place 72 = .ok (.ior, 1) := by decide +kernel
theorem dX3_place_73 : decode cX3_place 73 = .ok (.dup2, 1) := by decide +kernel
theorem dX3_place_74 : decode cX3_place 74 = .ok (.iaload, 1) := by decide +kernel
theorem dX3_place_75 : decode cX3_place 75 = .ok (.aload_n 0, 1) := by decide +kernel
theorem dX3_place_76 : decode cX3_place 76 = .ok (.getfield 9, 3) := by decide +kernel
theorem dX3_place_79 : decode cX3_place 79 = .ok (.iload 4, 2) := by decide +kernel
theorem dX3_place_81 : decode cX3_place 81 = .ok (.iaload, 1) := by decide +kernel
theorem dX3_place_82 : decode cX3_place 82 = .ok (.iadd, 1) := by decide +kernel
theorem dX3_place_83 : decode cX3_place 83 = .ok (.iastore, 1) := by decide +kernel
theorem dX3_place_84 : decode cX3_place 84 = .ok (.iinc 6 1, 3) := by decide +kernel
theorem dX3_place_87 : decode cX3_place 87 = .ok (.goto (-53), 3) := by decide +kernel
theorem dX3_place_90 : decode cX3_place 90 = .ok (.iinc 4 1, 3) := by decide +kernel
theorem dX3_place_93 : decode cX3_place 93 = .ok (.goto (-90), 3) := by decide +kernel
theorem dX3_place_96 : decode cX3_place 96 = .ok (.return_, 1) := by decide +kernel
theorem dX3_countOf_0 : decode cX3_countOf 0 = .ok (.iconst 0, 1) := by decide +kernel
theorem dX3_countOf_1 : decode cX3_countOf 1 = .ok (.istore_n 2, 1) := by decide +kernel
theorem dX3_countOf_2 : decode cX3_countOf 2 = .ok (.iconst 0, 1) := by decide +kernel
theorem dX3_countOf_3 : decode cX3_countOf 3 = .ok (.istore_n 3, 1) := by decide +kernel
theorem dX3_countOf_4 : decode cX3_countOf 4 = .ok (.iload_n 3, 1) := by decide +kernel
theorem dX3_countOf_5 : decode cX3_countOf 5 = .ok (.bipush 64, 2) := by decide +kernel
theorem dX3_countOf_7 : decode cX3_countOf 7 = .ok (.if_icmp .ge 26, 3) := by decide +kernel
theorem dX3_countOf_10 : decode cX3_countOf 10 = .ok (.iload_n 3, 1) := by decide +kernel
theorem dX3_countOf_11 : decode cX3_countOf 11 = .ok (.invokestatic 67, 3) := by decide +kernel
theorem dX3_countOf_14 : decode cX3_countOf 14 = .ok (.iload_n 1, 1) := by decide +kernel
theorem dX3_countOf_15 : decode cX3_countOf 15 = .ok (.if_icmp .ne 12, 3) := by decide +kernel
theorem dX3_countOf_18 : decode cX3_countOf 18 = .ok (.iload_n 2, 1) := by decide +kernel
theorem dX3_countOf_19 : decode cX3_countOf 19 = .ok (.aload_n 0, 1) := by decide +kernel
theorem dX3_countOf_20 : decode cX3_countOf 20 = .ok (.getfield 9, 3) := by decide +kernel
theorem dX3_countOf_23 : decode cX3_countOf 23 = .ok (.iload_n 3, 1) := by decide +kernel
theorem dX3_countOf_24 : decode cX3_countOf 24 = .ok (.iaload, 1) := by decide +kernel
theorem dX3_countOf_25 : decode cX3_countOf 25 = .ok (.iadd, 1) := by decide +kernel
theorem dX3_countOf_26 : decode cX3_countOf 26 = .ok (.istore_n 2, 1) := by decide +kernel
theorem dX3_countOf_27 : decode cX3_countOf 27 = .ok (.iinc 3 1, 3) := by decide +kernel
theorem dX3_countOf_30 : decode cX3_countOf 30 = .ok (.goto (-26), 3) := by decide +kernel
theorem dX3_countOf_33 : decode cX3_countOf 33 = .ok (.iload_n 2, 1) := by decide +kernel
theorem dX3_countOf_34 : decode cX3_countOf 34 = .ok (.ireturn, 1) := by decide +kernel
theorem dX4_init_0 : decode cX4_init 0 = .ok (.aload_n 0, 1) := by decide +kernel
theorem dX4_init_1 : decode cX4_init 1 = .ok (.invokespecial 3, 3) := by decide +kernel
theorem dX4_init_4 : decode cX4_init 4 = .ok (.aload_n 0, 1) := by decide +kernel
theorem dX4_init_5 : decode cX4_init 5 = .ok (.new 9, 3) := by decide +kernel
theorem dX4_init_8 : decode cX4_init 8 = .ok (.dup, 1) := by decide +kernel
theorem dX4_init_9 : decode cX4_init 9 = .ok (.invokespecial 11, 3) := by decide +kernel
theorem dX4_init_12 : decode cX4_init 12 = .ok (.putfield 12, 3) := by decide +kernel
theorem dX4_init_15 : decode cX4_init 15 = .ok (.aload_n 0, 1) := by decide +kernel
theorem dX4_init_16 : decode cX4_init 16 = .ok (.bipush 7, 2) := by decide +kernel
theorem dX4_init_18 : decode cX4_init 18 = .ok (.newarray .int, 2) := by decide +kernel
theorem dX4_init_20 : decode cX4_init 20 = .ok (.putfield 18, 3) := by decide +kernel
theorem dX4_init_23 : decode cX4_init 23 = .ok (.return_, 1) := by decide +kernel
theorem dX4_run_0 : decode cX4_run 0 = .ok (.aload_n 0, 1) := by decide +kernel
theorem dX4_run_1 : decode cX4_run 1 = .ok (.getfield 12, 3) := by decide +kernel
theorem dX4_run_4 : decode cX4_run 4 = .ok (.aload_n 2, 1) := by decide +kernel
theorem dX4_run_5 : decode cX4_run 5 = .ok (.getfield 22, 3) := by decide +kernel
theorem dX4_run_8 : decode cX4_run 8 = .ok (.invokevirtual 25, 3) := by decide +kernel
theorem dX4_run_11 : decode cX4_run 11 = .ok (.iconst 0, 1) := by decide +kernel
theorem dX4_run_12 : decode cX4_run 12 = .ok (.istore 6, 2) := by decide +kernel
theorem dX4_run_14 : decode cX4_run 14 = .ok (.iload 6, 2) := by decide +kernel
theorem dX4_run_16 : decode cX4_run 16 = .ok (.iload 5, 2) := by decide +kernel
theorem dX4_run_18 : decode cX4_run 18 = .ok (.if_icmp .ge 23, 3) := by decide +kernel
theorem dX4_run_21 : decode cX4_run 21 = .ok (.aload_n 0, 1) := by decide +kernel
theorem dX4_run_22 : decode cX4_run 22 = .ok (.aload_n 1, 1) := by decide +kernel
theorem dX4_run_23 : decode cX4_run 23 = .ok (.aload_n 3, 1) := by decide +kernel
theorem dX4_run_24 : decode cX4_run 24 = .ok (.iload 4, 2) := by decide +kernel
theorem dX4_run_26 : decode cX4_run 26 = .ok (.invokevirtual 29, 3) := by decide +kernel
theorem dX4_run_29 : decode cX4_run 29 = .ok (.ifCond .ne 6, 3) := by decide +kernel
theorem dX4_run_32 : decode cX4_run 32 = .ok (.iload 6, 2) := by decide +kernel
theorem dX4_run_34 : decode cX4_run 34 = .ok (.ireturn, 1) := by decide +kernel
theorem dX4_run_35 : decode cX4_run 35 = .ok (.iinc 6 1, 3) := by decide +kernel
theorem dX4_run_38 : decode cX4_run 38 = .ok (.goto (-24), 3) := by decide +kernel
theorem dX4_run_41 : decode cX4_run 41 = .ok (.iload 5, 2) := by decide +kernel
theorem dX4_run_43 : decode cX4_run 43 = .ok (.ireturn, 1) := by decide +kernel
theorem dX4_fewestLoaves_0 : decode cX4_fewestLoaves 0 = .ok (.aload_n 0, 1) := by decide +kernel
theorem dX4_fewestLoaves_1 : decode cX4_fewestLoaves 1 = .ok (.getfield 12, 3) := by decide +kernel
theorem dX4_fewestLoaves_4 : decode cX4_fewestLoaves 4 = .ok (.aload_n 2, 1) := by decide +kernel
theorem dX4_fewestLoaves_5 : decode cX4_fewestLoaves 5 = .ok (.getfield 22, 3) := by decide +kernel
theorem dX4_fewestLoaves_8 : decode cX4_fewestLoaves 8 = .ok (.invokevirtual 25, 3) := by decide +kernel
theorem dX4_fewestLoaves_11 : decode cX4_fewestLoaves 11 = .ok (.iconst 0, 1) := by decide +kernel
theorem dX4_fewestLoaves_12 : decode cX4_fewestLoaves 12 = .ok (.istore 5, 2) := by decide +kernel
theorem dX4_fewestLoaves_14 : decode cX4_fewestLoaves 14 = .ok (.iload 5, 2) := by decide +kernel
theorem dX4_fewestLoaves_16 : decode cX4_fewestLoaves 16 = .ok (.bipush 9, 2) := by decide +kernel
theorem dX4_fewestLoaves_18 : decode cX4_fewestLoaves 18 = .ok (.if_icmp .gt 40, 3) := by decide +kernel
theorem dX4_fewestLoaves_21 : decode cX4_fewestLoaves 21 = .ok (.aload_n 0, 1) := by decide +kernel
theorem dX4_fewestLoaves_22 : decode cX4_fewestLoaves 22 = .ok (.getfield 12, 3) := by decide +kernel
theorem dX4_fewestLoaves_25 : decode cX4_fewestLoaves 25 = .ok (.iload_n 3, 1) := by decide +kernel
theorem dX4_fewestLoaves_26 : decode cX4_fewestLoaves 26 = .ok (.invokevirtual 33, 3) := by decide +kernel
theorem dX4_fewestLoaves_29 : decode cX4_fewestLoaves 29 = .ok (.iload 4, 2) := by decide +kernel
theorem dX4_fewestLoaves_31 : decode cX4_fewestLoaves 31 = .ok (.if_icmp .ne 6, 3) := by decide +kernel
theorem dX4_fewestLoaves_34 : decode cX4_fewestLoaves 34 = .ok (.iload 5, 2) := by decide +kernel
theorem dX4_fewestLoaves_36 : decode cX4_fewestLoaves 36 = .ok (.ireturn, 1) := by decide +kernel
theorem dX4_fewestLoaves_37 : decode cX4_fewestLoaves 37 = .ok (.aload_n 0, 1) := by decide +kernel
theorem dX4_fewestLoaves_38 : decode cX4_fewestLoaves 38 = .ok (.getfield 12, 3) := by decide +kernel
theorem dX4_fewestLoaves_41 : decode cX4_fewestLoaves 41 = .ok (.iload_n 3, 1) := by decide +kernel
theorem dX4_fewestLoaves_42 : decode cX4_fewestLoaves 42 = .ok (.iload 4, 2) := by decide +kernel
theorem dX4_fewestLoaves_44 : decode cX4_fewestLoaves 44 = .ok (.aload_n 1, 1) := by decide +kernel
theorem dX4_fewestLoaves_45 : decode cX4_fewestLoaves 45 = .ok (.getfield 37, 3) := by decide +kernel
theorem dX4_fewestLoaves_48 : decode cX4_fewestLoaves 48 = .ok (.invokevirtual 43, 3) := by decide +kernel
theorem dX4_fewestLoaves_51 : decode cX4_fewestLoaves 51 = .ok (.pop, 1) := by decide +kernel
theorem dX4_fewestLoaves_52 : decode cX4_fewestLoaves 52 = .ok (.iinc 5 1, 3) := by decide +kernel
theorem dX4_fewestLoaves_55 : decode cX4_fewestLoaves 55 = .ok (.goto (-41), 3) := by decide +kernel
theorem dX4_fewestLoaves_58 : decode cX4_fewestLoaves 58 = .ok (.iconst (-1), 1) := by decide +kernel
theorem dX4_fewestLoaves_59 : decode cX4_fewestLoaves 59 = .ok (.ireturn, 1) := by decide +kernel
theorem dX4_passNight_0 : decode cX4_passNight 0 = .ok (.iconst 0, 1) := by decide +kernel
theorem dX4_passNight_1 : decode cX4_passNight 1 = .ok (.istore 4, 2) := by decide +kernel
theorem dX4_passNight_3 : decode cX4_passNight 3 = .ok (.iload 4, 2) := by decide +kernel
theorem dX4_passNight_5 : decode cX4_passNight 5 = .ok (.aload_n 1, 1) := by decide +kernel
theorem dX4_passNight_6 : decode cX4_passNight 6 = .ok (.getfield 47, 3) := by decide +kernel
theorem dX4_passNight_9 : decode cX4_passNight 9 = .ok (.if_icmp .ge 65, 3) := by decide +kernel
theorem dX4_passNight_12 : decode cX4_passNight 12 = .ok (.aload_n 2, 1) := by decide +kernel
theorem dX4_passNight_13 : decode cX4_passNight 13 = .ok (.getfield 50, 3) := by decide +kernel
theorem dX4_passNight_16 : decode cX4_passNight 16 = .ok (.iload 4, 2) := by decide +kernel
theorem dX4_passNight_18 : decode cX4_passNight 18 = .ok (.iaload, 1) := by decide +kernel
theorem dX4_passNight_19 : decode cX4_passNight 19 = .ok (.istore 5, 2) := by decide +kernel
theorem dX4_passNight_21 : decode cX4_passNight 21 = .ok (.iload 5, 2) := by decide +kernel
theorem dX4_passNight_23 : decode cX4_passNight 23 = .ok (.iconst (-1), 1) := by decide +kernel
theorem dX4_passNight_24 : decode cX4_passNight 24 = .ok (.if_icmp .eq 16, 3) := by decide +kernel
theorem dX4_passNight_27 : decode cX4_passNight 27 = .ok (.iload_n 3, 1) := by decide +kernel
theorem dX4_passNight_28 : decode cX4_passNight 28 = .ok (.iload 5, 2) := by decide +kernel
theorem dX4_passNight_30 : decode cX4_passNight 30 = .ok (.ishr, 1) := by decide +kernel
theorem dX4_passNight_31 : decode cX4_passNight 31 = .ok (.iconst 1, 1) := by decide +kernel
theorem dX4_passNight_32 : decode cX4_passNight 32 = .ok (.iand, 1) := by decide +kernel
theorem dX4_passNight_33 : decode cX4_passNight 33 = .ok (.ifCond .ne 7, 3) := by decide +kernel
theorem dX4_passNight_36 : decode cX4_passNight 36 = .ok (.iconst 1, 1) := by decide +kernel
theorem dX4_passNight_37 : decode cX4_passNight 37 = .ok (.goto 4, 3) := by decide +kernel
theorem dX4_passNight_40 : decode cX4_passNight 40 = .ok (.iconst 0, 1) := by decide +kernel
theorem dX4_passNight_41 : decode cX4_passNight 41 = .ok (.istore 6, 2) := by decide +kernel
theorem dX4_passNight_43 : decode cX4_passNight 43 = .ok (.aload_n 0, 1) := by decide +kernel
theorem dX4_passNight_44 : decode cX4_passNight 44 = .ok (.getfield 18, 3) := by decide +kernel
theorem dX4_passNight_47 : decode cX4_passNight 47 = .ok (.iload 4, 2) := by decide +kernel
theorem dX4_passNight_49 : decode cX4_passNight 49 = .ok (.iload 6, 2) := by decide +kernel
theorem dX4_passNight_51 : decode cX4_passNight 51 = .ok (.ifCond .eq 15, 3) := by decide +kernel
theorem dX4_passNight_54 : decode cX4_passNight 54 = .ok (.aload_n 0, 1) := by decide +kernel
theorem dX4_passNight_55 : decode cX4_passNight 55 = .ok (.getfield 12, 3) := by decide +kernel
theorem dX4_passNight_58 : decode cX4_passNight 58 = .ok (.iload 5, 2) := by decide +kernel
theorem dX4_passNight_60 : decode cX4_passNight 60 = .ok (.invokevirtual 33, 3) := by decide +kernel
theorem dX4_passNight_63 : decode cX4_passNight 63 = .ok (.goto 4, 3) := by decide +kernel
theorem dX4_passNight_66 : decode cX4_passNight 66 = .ok (.iconst (-1), 1) := by decide +kernel
theorem dX4_passNight_67 : decode cX4_passNight 67 = .ok (.iastore, 1) := by decide +kernel
theorem dX4_passNight_68 : decode cX4_passNight 68 = .ok (.iinc 4 1, 3) := by decide +kernel
theorem dX4_passNight_71 : decode cX4_passNight 71 = .ok (.goto (-68), 3) := by decide +kernel
theorem dX4_passNight_74 : decode cX4_passNight 74 = .ok (.iconst 0, 1) := by decide +kernel
theorem dX4_passNight_75 : decode cX4_passNight 75 = .ok (.istore 4, 2) := by decide +kernel
theorem dX4_passNight_77 : decode cX4_passNight 77 = .ok (.iconst 0, 1) := by decide +kernel
theorem dX4_passNight_78 : decode cX4_passNight 78 = .ok (.istore 5, 2) := by decide +kernel
theorem dX4_passNight_80 : decode cX4_passNight 80 = .ok (.iload 5, 2) := by decide +kernel
theorem dX4_passNight_82 : decode cX4_passNight 82 = .ok (.aload_n 1, 1) := by decide +kernel
theorem dX4_passNight_83 : decode cX4_passNight 83 = .ok (.getfield 47, 3) := by decide +kernel
theorem dX4_passNight_86 : decode cX4_passNight 86 = .ok (.if_icmp .ge 51, 3) := by decide +kernel
theorem dX4_passNight_89 : decode cX4_passNight 89 = .ok (.aload_n 0, 1) := by decide +kernel
theorem dX4_passNight_90 : decode cX4_passNight 90 = .ok (.getfield 18, 3) := by decide +kernel
theorem dX4_passNight_93 : decode cX4_passNight 93 = .ok (.iload 5, 2) := by decide +kernel
theorem dX4_passNight_95 : decode cX4_passNight 95 = .ok (.iaload, 1) := by decide +kernel
theorem dX4_passNight_96 : decode cX4_passNight 96 = .ok (.iconst (-1), 1) := by decide +kernel
theorem dX4_passNight_97 : decode cX4_passNight 97 = .ok (.if_icmp .eq 34, 3) := by decide +kernel
theorem dX4_passNight_100 : decode cX4_passNight 100 = .ok (.aload_n 0, 1) := by decide +kernel
theorem dX4_passNight_101 : decode cX4_passNight 101 = .ok (.getfield 12, 3) := by decide +kernel
theorem dX4_passNight_104 : decode cX4_passNight 104 = .ok (.aload_n 1, 1) := by decide +kernel
theorem dX4_passNight_105 : decode cX4_passNight 105 = .ok (.getfield 55, 3) := by decide +kernel
theorem dX4_passNight_108 : decode cX4_passNight 108 = .ok (.iload 5, 2) := by decide +kernel
theorem dX4_passNight_110 : decode cX4_passNight 110 = .ok (.iaload, 1) := by decide +kernel
theorem dX4_passNight_111 : decode cX4_passNight 111 = .ok (.aload_n 0, 1) := by decide +kernel
theorem dX4_passNight_112 : decode cX4_passNight 112 = .ok (.getfield 18, 3) := by decide +kernel
theorem dX4_passNight_115 : decode cX4_passNight 115 = .ok (.iload 5, 2) := by decide +kernel
theorem dX4_passNight_117 : decode cX4_passNight 117 = .ok (.iaload, 1) := by decide +kernel
theorem dX4_passNight_118 : decode cX4_passNight 118 = .ok (.aload_n 1, 1) := by decide +kernel
theorem dX4_passNight_119 : decode cX4_passNight 119 = .ok (.getfield 37, 3) := by decide +kernel
theorem dX4_passNight_122 : decode cX4_passNight 122 = .ok (.invokevirtual 43, 3) := by decide +kernel
theorem dX4_passNight_125 : decode cX4_passNight 125 = .ok (.ifCond .eq 6, 3) := by decide +kernel
theorem dX4_passNight_128 : decode cX4_passNight 128 = .ok (.iconst 1, 1) := by decide +kernel
theorem dX4_passNight_129 : decode cX4_passNight 129 = .ok (.istore 4, 2) := by decide +kernel
theorem dX4_passNight_131 : decode cX4_passNight 131 = .ok (.iinc 5 1, 3) := by decide +kernel
theorem dX4_passNight_134 : decode cX4_passNight 134 = .ok (.goto (-54), 3) := by decide +kernel
theorem dX4_passNight_137 : decode cX4_passNight 137 = .ok (.iload 4, 2) := by decide +kernel
theorem dX4_passNight_139 : decode cX4_passNight 139 = .ok (.ireturn, 1) := by decide +kernel
theorem dX5_init_0 : decode cX5_init 0 = .ok (.aload_n 0, 1) := by decide +kernel
theorem dX5_init_1 : decode cX5_init 1 = .ok (.invokespecial 3, 3) := by decide +kernel
theorem dX5_init_4 : decode cX5_init 4 = .ok (.aload_n 0, 1) := by decide +kernel
theorem dX5_init_5 : decode cX5_init 5 = .ok (.new 9, 3) := by decide +kernel
theorem dX5_init_8 : decode cX5_init 8 = .ok (.dup, 1) := by decide +kernel
theorem dX5_init_9 : decode cX5_init 9 = .ok (.invokespecial 11, 3) := by decide +kernel
theorem dX5_init_12 : decode cX5_init 12 = .ok (.putfield 12, 3) := by decide +kernel
theorem dX5_init_15 : decode cX5_init 15 = .ok (.aload_n 0, 1) := by decide +kernel
theorem dX5_init_16 : decode cX5_init 16 = .ok (.bipush 7, 2) := by decide +kernel
theorem dX5_init_18 : decode cX5_init 18 = .ok (.newarray .int, 2) := by decide +kernel
theorem dX5_init_20 : decode cX5_init 20 = .ok (.putfield 18, 3) := by decide +kernel
theorem dX5_init_23 : decode cX5_init 23 = .ok (.aload_n 0, 1) := by decide +kernel
theorem dX5_init_24 : decode cX5_init 24 = .ok (.bipush 7, 2) := by decide +kernel
theorem dX5_init_26 : decode cX5_init 26 = .ok (.newarray .int, 2) := by decide +kernel
theorem dX5_init_28 : decode cX5_init 28 = .ok (.putfield 22, 3) := by decide +kernel
theorem dX5_init_31 : decode cX5_init 31 = .ok (.aload_n 0, 1) := by decide +kernel
theorem dX5_init_32 : decode cX5_init 32 = .ok (.getfield 18, 3) := by decide +kernel
theorem dX5_init_35 : decode cX5_init 35 = .ok (.iconst (-1), 1) := by decide +kernel
theorem dX5_init_36 : decode cX5_init 36 = .ok (.invokestatic 25, 3) := by decide +kernel
theorem dX5_init_39 : decode cX5_init 39 = .ok (.aload_n 0, 1) := by decide +kernel
theorem dX5_init_40 : decode cX5_init 40 = .ok (.getfield 22, 3) := by decide +kernel
theorem dX5_init_43 : decode cX5_init 43 = .ok (.iconst (-1), 1) := by decide +kernel
theorem dX5_init_44 : decode cX5_init 44 = .ok (.invokestatic 25, 3) := by decide +kernel
theorem dX5_init_47 : decode cX5_init 47 = .ok (.return_, 1) := by decide +kernel
theorem dX5_begin_0 : decode cX5_begin 0 = .ok (.aload_n 0, 1) := by decide +kernel
theorem dX5_begin_1 : decode cX5_begin 1 = .ok (.getfield 12, 3) := by decide +kernel
theorem dX5_begin_4 : decode cX5_begin 4 = .ok (.aload_n 1, 1) := by decide +kernel
theorem dX5_begin_5 : decode cX5_begin 5 = .ok (.getfield 31, 3) := by decide +kernel
theorem dX5_begin_8 : decode cX5_begin 8 = .ok (.invokevirtual 34, 3) := by decide +kernel
theorem dX5_begin_11 : decode cX5_begin 11 = .ok (.aload_n 0, 1) := by decide +kernel
theorem dX5_begin_12 : decode cX5_begin 12 = .ok (.getfield 18, 3) := by decide +kernel
theorem dX5_begin_15 : decode cX5_begin 15 = .ok (.iconst (-1), 1) := by decide +kernel
theorem dX5_begin_16 : decode cX5_begin 16 = .ok (.invokestatic 25, 3) := by decide +kernel
theorem dX5_begin_19 : decode cX5_begin 19 = .ok (.aload_n 0, 1) := by decide +kernel
theorem dX5_begin_20 : decode cX5_begin 20 = .ok (.getfield 22, 3) := by decide +kernel
theorem dX5_begin_23 : decode cX5_begin 23 = .ok (.iconst (-1), 1) := by decide +kernel
theorem dX5_begin_24 : decode cX5_begin 24 = .ok (.invokestatic 25, 3) := by decide +kernel
theorem dX5_begin_27 : decode cX5_begin 27 = .ok (.aload_n 0, 1) := by decide +kernel
theorem dX5_begin_28 : decode cX5_begin 28 = .ok (.iconst 0, 1) := by decide +kernel
theorem dX5_begin_29 : decode cX5_begin 29 = .ok (.putfield 38, 3) := by decide +kernel
theorem dX5_begin_32 : decode cX5_begin 32 = .ok (.aload_n 0, 1) := by decide +kernel
theorem dX5_begin_33 : decode cX5_begin 33 = .ok (.iconst 0, 1) := by decide +kernel
theorem dX5_begin_34 : decode cX5_begin 34 = .ok (.putfield 42, 3) := by decide +kernel
theorem dX5_begin_37 : decode cX5_begin 37 = .ok (.aload_n 0, 1) := by decide +kernel
theorem dX5_begin_38 : decode cX5_begin 38 = .ok (.iconst 0, 1) := by decide +kernel
theorem dX5_begin_39 : decode cX5_begin 39 = .ok (.putfield 45, 3) := by decide +kernel
theorem dX5_begin_42 : decode cX5_begin 42 = .ok (.aload_n 0, 1) := by decide +kernel
theorem dX5_begin_43 : decode cX5_begin 43 = .ok (.iconst 0, 1) := by decide +kernel
theorem dX5_begin_44 : decode cX5_begin 44 = .ok (.putfield 48, 3) := by decide +kernel
theorem dX5_begin_47 : decode cX5_begin 47 = .ok (.return_, 1) := by decide +kernel
theorem dX5_become_0 : decode cX5_become 0 = .ok (.aload_n 0, 1) := by decide +kernel
theorem dX5_become_1 : decode cX5_become 1 = .ok (.getfield 12, 3) := by decide +kernel
theorem dX5_become_4 : decode cX5_become 4 = .ok (.aload_n 1, 1) := by decide +kernel
theorem dX5_become_5 : decode cX5_become 5 = .ok (.getfield 12, 3) := by decide +kernel
theorem dX5_become_8 : decode cX5_become 8 = .ok (.invokevirtual 34, 3) := by decide +kernel
theorem dX5_become_11 : decode cX5_become 11 = .ok (.aload_n 1, 1) := by decide +kernel
theorem dX5_become_12 : decode cX5_become 12 = .ok (.getfield 18, 3) := by decide +kernel
theorem dX5_become_15 : decode cX5_become 15 = .ok (.iconst 0, 1) := by decide +kernel
theorem dX5_become_16 : decode cX5_become 16 = .ok (.aload_n 0, 1) := by decide +kernel
theorem dX5_become_17 : decode cX5_become 17 = .ok (.getfield 18, 3) := by decide +kernel
theorem dX5_become_20 : decode cX5_become 20 = .ok (.iconst 0, 1) := by decide +kernel
theorem dX5_become_21 : decode cX5_become 21 = .ok (.bipush 7, 2) := by decide +kernel
theorem dX5_become_23 : decode cX5_become 23 = .ok (.invokestatic 51, 3) := by decide +kernel
theorem dX5_become_26 : decode cX5_become 26 = .ok (.aload_n 1, 1) := by decide +kernel
theorem dX5_become_27 : decode cX5_become 27 = .ok (.getfield 22, 3) := by decide +kernel
theorem dX5_become_30 : decode cX5_become 30 = .ok (.iconst 0, 1) := by decide +kernel
theorem dX5_become_31 : decode cX5_become 31 = .ok (.aload_n 0, 1) := by decide +kernel
theorem dX5_become_32 : decode cX5_become 32 = .ok (.getfield 22, 3) := by decide +kernel
theorem dX5_become_35 : decode cX5_become 35 = .ok (.iconst 0, 1) := by decide +kernel
theorem dX5_become_36 : decode cX5_become 36 = .ok (.bipush 7, 2) := by decide +kernel
theorem dX5_become_38 : decode cX5_become 38 = .ok (.invokestatic 51, 3) := by decide +kernel
theorem dX5_become_41 : decode cX5_become 41 = .ok (.aload_n 0, 1) := by decide +kernel
theorem dX5_become_42 : decode cX5_become 42 = .ok (.aload_n 1, 1) := by decide +kernel
theorem dX5_become_43 : decode cX5_become 43 = .ok (.getfield 38, 3) := by decide +kernel
theorem dX5_become_46 : decode cX5_become 46 = .ok (.putfield 38, 3) := by decide +kernel
theorem dX5_become_49 : decode cX5_become 49 = .ok (.aload_n 0, 1) := by decide +kernel
theorem dX5_become_50 : decode cX5_become 50 = .ok (.aload_n 1, 1) := by decide +kernel
theorem dX5_become_51 : decode cX5_become 51 = .ok (.getfield 42, 3) := by decide +kernel
theorem dX5_become_54 : decode cX5_become 54 = .ok (.putfield 42, 3) := by decide +kernel
theorem dX5_become_57 : decode cX5_become 57 = .ok (.aload_n 0, 1) := by decide +kernel
theorem dX5_become_58 : decode cX5_become 58 = .ok (.aload_n 1, 1) := by decide +kernel
theorem dX5_become_59 : decode cX5_become 59 = .ok (.getfield 45, 3) := by decide +kernel
theorem dX5_become_62 : decode cX5_become 62 = .ok (.putfield 45, 3) := by decide +kernel
theorem dX5_become_65 : decode cX5_become 65 = .ok (.aload_n 0, 1) := by decide +kernel
theorem dX5_become_66 : decode cX5_become 66 = .ok (.aload_n 1, 1) := by decide +kernel
theorem dX5_become_67 : decode cX5_become 67 = .ok (.getfield 48, 3) := by decide +kernel
theorem dX5_become_70 : decode cX5_become 70 = .ok (.putfield 48, 3) := by decide +kernel
theorem dX5_become_73 : decode cX5_become 73 = .ok (.aload_n 0, 1) := by decide +kernel
theorem dX5_become_74 : decode cX5_become 74 = .ok (.aload_n 1, 1) := by decide +kernel
theorem dX5_become_75 : decode cX5_become 75 = .ok (.getfield 57, 3) := by decide +kernel
theorem dX5_become_78 : decode cX5_become 78 = .ok (.putfield 57, 3) := by decide +kernel
theorem dX5_become_81 : decode cX5_become 81 = .ok (.return_, 1) := by decide +kernel
theorem dX5_isFresh_0 : decode cX5_isFresh 0 = .ok (.aload_n 0, 1) := by decide +kernel
theorem dX5_isFresh_1 : decode cX5_isFresh 1 = .ok (.getfield 22, 3) := by decide +kernel
theorem dX5_isFresh_4 : decode cX5_isFresh 4 = .ok (.iload_n 1, 1) := by decide +kernel
theorem dX5_isFresh_5 : decode cX5_isFresh 5 = .ok (.iaload, 1) := by decide +kernel
theorem dX5_isFresh_6 : decode cX5_isFresh 6 = .ok (.iconst (-1), 1) := by decide +kernel
theorem dX5_isFresh_7 : decode cX5_isFresh 7 = .ok (.if_icmp .ne 7, 3) := by decide +kernel
theorem dX5_isFresh_10 : decode cX5_isFresh 10 = .ok (.iconst 1, 1) := by decide +kernel
theorem dX5_isFresh_11 : decode cX5_isFresh 11 = .ok (.goto 4, 3) := by decide +kernel
theorem dX5_isFresh_14 : decode cX5_isFresh 14 = .ok (.iconst 0, 1) := by decide +kernel
theorem dX5_isFresh_15 : decode cX5_isFresh 15 = .ok (.ireturn, 1) := by decide +kernel
theorem dX5_isAwake_0 : decode cX5_isAwake 0 = .ok (.aload_n 0, 1) := by decide +kernel
theorem dX5_isAwake_1 : decode cX5_isAwake 1 = .ok (.getfield 42, 3) := by decide +kernel
theorem dX5_isAwake_4 : decode cX5_isAwake 4 = .ok (.iload_n 1, 1) := by decide +kernel
theorem dX5_isAwake_5 : decode cX5_isAwake 5 = .ok (.ishr, 1) := by decide +kernel
theorem dX5_isAwake_6 : decode cX5_isAwake 6 = .ok (.iconst 1, 1) := by decide +kernel
theorem dX5_isAwake_7 : decode cX5_isAwake 7 = .ok (.iand, 1) := by decide +kernel
theorem dX5_isAwake_8 : decode cX5_isAwake 8 = .ok (.iconst 1, 1) := by decide +kernel
theorem dX5_isAwake_9 : decode cX5_isAwake 9 = .ok (.if_icmp .ne 7, 3) := by decide +kernel
theorem dX5_isAwake_12 : decode cX5_isAwake 12 = .ok (.iconst 1, 1) := by decide +kernel
theorem dX5_isAwake_13 : decode cX5_isAwake 13 = .ok (.goto 4, 3) := by decide +kernel
theorem dX5_isAwake_16 : decode cX5_isAwake 16 = .ok (.iconst 0, 1) := by decide +kernel
theorem dX5_isAwake_17 : decode cX5_isAwake 17 = .ok (.ireturn, 1) := by decide +kernel
theorem dX5_loafOn_0 : decode cX5_loafOn 0 = .ok (.iconst 0, 1) := by decide +kernel
theorem dX5_loafOn_1 : decode cX5_loafOn 1 = .ok (.istore_n 2, 1) := by decide +kernel
theorem dX5_loafOn_2 : decode cX5_loafOn 2 = .ok (.iload_n 2, 1) := by decide +kernel
theorem dX5_loafOn_3 : decode cX5_loafOn 3 = .ok (.bipush 7, 2) := by decide +kernel
theorem dX5_loafOn_5 : decode cX5_loafOn 5 = .ok (.if_icmp .ge 21, 3) := by decide +kernel
theorem dX5_loafOn_8 : decode cX5_loafOn 8 = .ok (.aload_n 0, 1) := by decide +kernel
theorem dX5_loafOn_9 : decode cX5_loafOn 9 = .ok (.getfield 18, 3) := by decide +kernel
theorem dX5_loafOn_12 : decode cX5_loafOn 12 = .ok (.iload_n 2, 1) := by decide +kernel
theorem dX5_loafOn_13 : decode cX5_loafOn 13 = .ok (.iaload, 1) := by decide +kernel
theorem dX5_loafOn_14 : decode cX5_loafOn 14 = .ok (.iload_n 1, 1) := by decide +kernel
theorem dX5_loafOn_15 : decode cX5_loafOn 15 = .ok (.if_icmp .ne 5, 3) := by decide +kernel
theorem dX5_loafOn_18 : decode cX5_loafOn 18 = .ok (.iload_n 2, 1) := by decide +kernel
theorem dX5_loafOn_19 : decode cX5_loafOn 19 = .ok (.ireturn, 1) := by decide +kernel
theorem dX5_loafOn_20 : decode cX5_loafOn 20 = .ok (.iinc 2 1, 3) := by decide +kernel
theorem dX5_loafOn_23 : decode cX5_loafOn 23 = .ok (.goto (-21), 3) := by decide +kernel
theorem dX5_loafOn_26 : decode cX5_loafOn 26 = .ok (.iconst (-1), 1) := by decide +kernel
theorem dX5_loafOn_27 : decode cX5_loafOn 27 = .ok (.ireturn, 1) := by decide +kernel
theorem dX5_lyingSet_0 : decode cX5_lyingSet 0 = .ok (.aload_n 0, 1) := by decide +kernel
theorem dX5_lyingSet_1 : decode cX5_lyingSet 1 = .ok (.getfield 18, 3) := by decide +kernel
theorem dX5_lyingSet_4 : decode cX5_lyingSet 4 = .ok (.invokestatic 60, 3) := by decide +kernel
theorem dX5_lyingSet_7 : decode cX5_lyingSet 7 = .ok (.ireturn, 1) := by decide +kernel
theorem dX5_sleptOnSet_0 : decode cX5_sleptOnSet 0 = .ok (.aload_n 0, 1) := by decide +kernel
theorem dX5_sleptOnSet_1 : decode cX5_sleptOnSet 1 = .ok (.getfield 22, 3) := by decide +kernel
theorem dX5_sleptOnSet_4 : decode cX5_sleptOnSet 4 = .ok (.invokestatic 60, 3) := by decide +kernel
theorem dX5_sleptOnSet_7 : decode cX5_sleptOnSet 7 = .ok (.ireturn, 1) := by decide +kernel
theorem dX5_worthOn_0 : decode cX5_worthOn 0 = .ok (.aload_n 0, 1) := by decide +kernel
theorem dX5_worthOn_1 : decode cX5_worthOn 1 = .ok (.getfield 12, 3) := by decide +kernel
theorem dX5_worthOn_4 : decode cX5_worthOn 4 = .ok (.iload_n 3, 1) := by decide +kernel
theorem dX5_worthOn_5 : decode cX5_worthOn 5 = .ok (.invokevirtual 64, 3) := by decide +kernel
theorem dX5_worthOn_8 : decode cX5_worthOn 8 = .ok (.istore 4, 2) := by decide +kernel
theorem dX5_worthOn_10 : decode cX5_worthOn 10 = .ok (.iload 4, 2) := by decide +kernel
theorem dX5_worthOn_12 : decode cX5_worthOn 12 = .ok (.ifCond .gt 5, 3) := by decide +kernel
theorem dX5_worthOn_15 : decode cX5_worthOn 15 = .ok (.iconst 0, 1) := by decide +kernel
theorem dX5_worthOn_16 : decode cX5_worthOn 16 = .ok (.ireturn, 1) := by decide +kernel
theorem dX5_worthOn_17 : decode cX5_worthOn 17 = .ok (.ldc 68, 2) := by decide +kernel
theorem dX5_worthOn_19 : decode cX5_worthOn 19 = .ok (.aload_n 1, 1) := by decide +kernel
theorem dX5_worthOn_20 : decode cX5_worthOn 20 = .ok (.getfield 69, 3) := by decide +kernel
theorem dX5_worthOn_23 : decode cX5_worthOn 23 = .ok (.iload_n 2, 1) := by decide +kernel
theorem dX5_worthOn_24 : decode cX5_worthOn 24 = .ok (.iaload, 1) := by decide +kernel
theorem dX5_worthOn_25 : decode cX5_worthOn 25 = .ok (.imul, 1) := by decide +kernel
theorem dX5_worthOn_26 : decode cX5_worthOn 26 = .ok (.aload_n 0, 1) := by decide +kernel
theorem dX5_worthOn_27 : decode cX5_worthOn 27 = .ok (.getfield 12, 3) := by decide +kernel
theorem dX5_worthOn_30 : decode cX5_worthOn 30 = .ok (.iload_n 3, 1) := by decide +kernel
theorem dX5_worthOn_31 : decode cX5_worthOn 31 = .ok (.aload_n 1, 1) := by decide +kernel
theorem dX5_worthOn_32 : decode cX5_worthOn 32 = .ok (.getfield 72, 3) := by decide +kernel
theorem dX5_worthOn_35 : decode cX5_worthOn 35 = .ok (.iload_n 2, 1) := by decide +kernel
theorem dX5_worthOn_36 : decode cX5_worthOn 36 = .ok (.iaload, 1) := by decide +kernel
theorem dX5_worthOn_37 : decode cX5_worthOn 37 = .ok (.invokevirtual 75, 3) := by decide +kernel
theorem dX5_worthOn_40 : decode cX5_worthOn 40 = .ok (.imul, 1) := by decide +kernel
theorem dX5_worthOn_41 : decode cX5_worthOn 41 = .ok (.iload 4, 2) := by decide +kernel
theorem dX5_worthOn_43 : decode cX5_worthOn 43 = .ok (.idiv, 1) := by decide +kernel
theorem dX5_worthOn_44 : decode cX5_worthOn 44 = .ok (.ireturn, 1) := by decide +kernel
theorem dX5_sleepOnce_0 : decode cX5_sleepOnce 0 = .ok (.iconst 0, 1) := by decide +kernel
theorem dX5_sleepOnce_1 : decode cX5_sleepOnce 1 = .ok (.istore_n 2, 1) := by decide +kernel
theorem dX5_sleepOnce_2 : decode cX5_sleepOnce 2 = .ok (.iload_n 2, 1) := by decide +kernel
theorem dX5_sleepOnce_3 : decode cX5_sleepOnce 3 = .ok (.aload_n 1, 1) := by decide +kernel
theorem dX5_sleepOnce_4 : decode cX5_sleepOnce 4 = .ok (.getfield 79, 3) := by decide +kernel
theorem dX5_sleepOnce_7 : decode cX5_sleepOnce 7 = .ok (.if_icmp .ge 52, 3) := by decide +kernel
theorem dX5_sleepOnce_10 : decode cX5_sleepOnce 10 = .ok (.aload_n 0, 1) := by decide +kernel
theorem dX5_sleepOnce_11 : decode cX5_sleepOnce 11 = .ok (.iload_n 2, 1) := by decide +kernel
theorem dX5_sleepOnce_12 : decode cX5_sleepOnce 12 = .ok (.invokevirtual 82, 3) := by decide +kernel
theorem dX5_sleepOnce_15 : decode cX5_sleepOnce 15 = .ok (.ifCond .ne 38, 3) := by decide +kernel
theorem dX5_sleepOnce_18 : decode cX5_sleepOnce 18 = .ok (.aload_n 0, 1) := by decide +kernel
theorem dX5_sleepOnce_19 : decode cX5_sleepOnce 19 = .ok (.iload_n 2, 1) := by decide +kernel
theorem dX5_sleepOnce_20 : decode cX5_sleepOnce 20 = .ok (.invokevirtual 86, 3) := by decide +kernel
theorem dX5_sleepOnce_23 : decode cX5_sleepOnce 23 = .ok (.istore_n 3, 1) := by decide +kernel
theorem dX5_sleepOnce_24 : decode cX5_sleepOnce 24 = .ok (.aload_n 0, 1) := by decide +kernel
theorem dX5_sleepOnce_25 : decode cX5_sleepOnce 25 = .ok (.iload_n 2, 1) := by decide +kernel
theorem dX5_sleepOnce_26 : decode cX5_sleepOnce 26 = .ok (.invokevirtual 89, 3) := by decide +kernel
theorem dX5_sleepOnce_29 : decode cX5_sleepOnce 29 = .ok (.istore 4, 2) := by decide +kernel
theorem dX5_sleepOnce_31 : decode cX5_sleepOnce 31 = .ok (.iload 4, 2) := by decide +kernel
theorem dX5_sleepOnce_33 : decode cX5_sleepOnce 33 = .ok (.iconst (-1), 1) := by decide +kernel
theorem dX5_sleepOnce_34 : decode cX5_sleepOnce 34 = .ok (.if_icmp .eq 19, 3) := by decide +kernel
theorem dX5_sleepOnce_37 : decode cX5_sleepOnce 37 = .ok (.aload_n 0, 1) := by decide +kernel
theorem dX5_sleepOnce_38 : decode cX5_sleepOnce 38 = .ok (.getfield 22, 3) := by decide +kernel
theorem dX5_sleepOnce_41 : decode cX5_sleepOnce 41 = .ok (.iload 4, 2) := by decide +kernel
theorem dX5_sleepOnce_43 : decode cX5_sleepOnce 43 = .ok (.iload_n 3, 1) := by decide +kernel
theorem dX5_sleepOnce_44 : decode cX5_sleepOnce 44 = .ok (.iastore, 1) := by decide +kernel
theorem dX5_sleepOnce_45 : decode cX5_sleepOnce 45 = .ok (.aload_n 0, 1) := by decide +kernel
theorem dX5_sleepOnce_46 : decode cX5_sleepOnce 46 = .ok (.getfield 18, 3) := by decide +kernel
theorem dX5_sleepOnce_49 : decode cX5_sleepOnce 49 = .ok (.iload 4, 2) := by decide +kernel
theorem dX5_sleepOnce_51 : decode cX5_sleepOnce 51 = .ok (.iconst (-1), 1) := by decide +kernel
theorem dX5_sleepOnce_52 : decode cX5_sleepOnce 52 = .ok (.iastore, 1) := by decide +kernel
theorem dX5_sleepOnce_53 : decode cX5_sleepOnce 53 = .ok (.iinc 2 1, 3) := by decide +kernel
theorem dX5_sleepOnce_56 : decode cX5_sleepOnce 56 = .ok (.goto (-54), 3) := by decide +kernel
theorem dX5_sleepOnce_59 : decode cX5_sleepOnce 59 = .ok (.aload_n 0, 1) := by decide +kernel
theorem dX5_sleepOnce_60 : decode cX5_sleepOnce 60 = .ok (.dup, 1) := by decide +kernel
theorem dX5_sleepOnce_61 : decode cX5_sleepOnce 61 = .ok (.getfield 45, 3) := by decide +kernel
theorem dX5_sleepOnce_64 : decode cX5_sleepOnce 64 = .ok (.iconst 1, 1) := by decide +kernel
theorem dX5_sleepOnce_65 : decode cX5_sleepOnce 65 = .ok (.iadd, 1) := by decide +kernel
theorem dX5_sleepOnce_66 : decode cX5_sleepOnce 66 = .ok (.putfield 45, 3) := by decide +kernel
theorem dX5_sleepOnce_69 : decode cX5_sleepOnce 69 = .ok (.return_, 1) := by decide +kernel
theorem dX5_consume_0 : decode cX5_consume 0 = .ok (.aload_n 0, 1) := by decide +kernel
theorem dX5_consume_1 : decode cX5_consume 1 = .ok (.getfield 38, 3) := by decide +kernel
theorem dX5_consume_4 : decode cX5_consume 4 = .ok (.iload_n 2, 1) := by decide +kernel
theorem dX5_consume_5 : decode cX5_consume 5 = .ok (.ishr, 1) := by decide +kernel
theorem dX5_consume_6 : decode cX5_consume 6 = .ok (.iconst 1, 1) := by decide +kernel
theorem dX5_consume_7 : decode cX5_consume 7 = .ok (.iand, 1) := by decide +kernel
theorem dX5_consume_8 : decode cX5_consume 8 = .ok (.ifCond .ne 27, 3) := by decide +kernel
theorem dX5_consume_11 : decode cX5_consume 11 = .ok (.aload_n 0, 1) := by decide +kernel
theorem dX5_consume_12 : decode cX5_consume 12 = .ok (.getfield 12, 3) := by decide +kernel
theorem dX5_consume_15 : decode cX5_consume 15 = .ok (.aload_n 1, 1) := by decide +kernel
theorem dX5_consume_16 : decode cX5_consume 16 = .ok (.getfield 92, 3) := by decide +kernel
theorem dX5_consume_19 : decode cX5_consume 19 = .ok (.iload_n 2, 1) := by decide +kernel
theorem dX5_consume_20 : decode cX5_consume 20 = .ok (.iaload, 1) := by decide +kernel
theorem dX5_consume_21 : decode cX5_consume 21 = .ok (.aload_n 0, 1) := by decide +kernel
theorem dX5_consume_22 : decode cX5_consume 22 = .ok (.getfield 22, 3) := by decide +kernel
theorem dX5_consume_25 : decode cX5_consume 25 = .ok (.iload_n 2, 1) := by decide +kernel
theorem dX5_consume_26 : decode cX5_consume 26 = .ok (.iaload, 1) := by decide +kernel
theorem dX5_consume_27 : decode cX5_consume 27 = .ok (.aload_n 1, 1) := by decide +kernel
theorem dX5_consume_28 : decode cX5_consume 28 = .ok (.getfield 95, 3) := by decide +kernel
theorem dX5_consume_31 : decode cX5_consume 31 = .ok (.invokevirtual 98, 3) := by decide +kernel
theorem dX5_consume_34 : decode cX5_consume 34 = .ok (.pop, 1) := by decide +kernel
theorem dX5_consume_35 : decode cX5_consume 35 = .ok (.aload_n 0, 1) := by decide +kernel
theorem dX5_consume_36 : decode cX5_consume 36 = .ok (.getfield 22, 3) := by decide +kernel
theorem dX5_consume_39 : decode cX5_consume 39 = .ok (.iload_n 2, 1) := by decide +kernel
theorem dX5_consume_40 : decode cX5_consume 40 = .ok (.iaload, 1) := by decide +kernel
theorem dX5_consume_41 : decode cX5_consume 41 = .ok (.aload_n 1, 1) := by decide +kernel
theorem dX5_consume_42 : decode cX5_consume 42 = .ok (.getfield 72, 3) := by decide +kernel
theorem dX5_consume_45 : decode cX5_consume 45 = .ok (.iload_n 2, 1) := by decide +kernel
theorem dX5_consume_46 : decode cX5_consume 46 = .ok (.iaload, 1) := by decide +kernel
theorem dX5_consume_47 : decode cX5_consume 47 = .ok (.if_icmp .ne 23, 3) := by decide +kernel
theorem dX5_consume_50 : decode cX5_consume 50 = .ok (.aload_n 0, 1) := by decide +kernel
theorem dX5_consume_51 : decode cX5_consume 51 = .ok (.ldc 102, 2) := by decide +kernel
theorem dX5_consume_53 : decode cX5_consume 53 = .ok (.aload_n 0, 1) := by decide +kernel
theorem dX5_consume_54 : decode cX5_consume 54 = .ok (.getfield 48, 3) := by decide +kernel
theorem dX5_consume_57 : decode cX5_consume 57 = .ok (.aload_n 1, 1) := by decide +kernel
theorem dX5_consume_58 : decode cX5_consume 58 = .ok (.getfield 69, 3) := by decide +kernel
theorem dX5_consume_61 : decode cX5_consume 61 = .ok (.iload_n 2, 1) := by decide +kernel
theorem dX5_consume_62 : decode cX5_consume 62 = .ok (.iaload, 1) := by decide +kernel
theorem dX5_consume_63 : decode cX5_consume 63 = .ok (.iadd, 1) := by decide +kernel
theorem dX5_consume_64 : decode cX5_consume 64 = .ok (.invokestatic 103, 3) := by decide +kernel
theorem dX5_consume_67 : decode cX5_consume 67 = .ok (.putfield 48, 3) := by decide +kernel
theorem dX5_consume_70 : decode cX5_consume 70 = .ok (.aload_n 0, 1) := by decide +kernel
theorem dX5_consume_71 : decode cX5_consume 71 = .ok (.getfield 22, 3) := by decide +kernel
theorem dX5_consume_74 : decode cX5_consume 74 = .ok (.iload_n 2, 1) := by decide +kernel
theorem dX5_consume_75 : decode cX5_consume 75 = .ok (.iconst (-1), 1) := by decide +kernel
theorem dX5_consume_76 : decode cX5_consume 76 = .ok (.iastore, 1) := by decide +kernel
theorem dX5_consume_77 : decode cX5_consume 77 = .ok (.aload_n 0, 1) := by decide +kernel
theorem dX5_consume_78 : decode cX5_consume 78 = .ok (.dup, 1) := by decide +kernel
theorem dX5_consume_79 : decode cX5_consume 79 = .ok (.getfield 38, 3) := by decide +kernel
theorem dX5_consume_82 : decode cX5_consume 82 = .ok (.iconst 1, 1) := by decide +kernel
theorem dX5_consume_83 : decode cX5_consume 83 = .ok (.iload_n 2, 1) := by decide +kernel
theorem dX5_consume_84 : decode cX5_consume 84 = .ok (.ishl, 1) := by decide +kernel
theorem dX5_consume_85 : decode cX5_consume 85 = .ok (.iconst (-1), 1) := by decide +kernel
theorem dX5_consume_86 : decode cX5_consume 86 = .ok (.ixor, 1) := by decide +kernel
theorem dX5_consume_87 : decode cX5_consume 87 = .ok (.iand, 1) := by decide +kernel
theorem dX5_consume_88 : decode cX5_consume 88 = .ok (.putfield 38, 3) := by decide +kernel
theorem dX5_consume_91 : decode cX5_consume 91 = .ok (.return_, 1) := by decide +kernel
theorem dX5_drawDream_0 : decode cX5_drawDream 0 = .ok (.aload_n 0, 1) := by decide +kernel
theorem dX5_drawDream_1 : decode cX5_drawDream 1 = .ok (.aload_n 0, 1) := by decide +kernel
theorem dX5_drawDream_2 : decode cX5_drawDream 2 = .ok (.getfield 12, 3) := by decide +kernel
theorem dX5_drawDream_5 : decode cX5_drawDream 5 = .ok (.iload_n 1, 1) := by decide +kernel
theorem dX5_drawDream_6 : decode cX5_drawDream 6 = .ok (.invokevirtual 64, 3) := by decide +kernel
theorem dX5_drawDream_9 : decode cX5_drawDream 9 = .ok (.invokevirtual 108, 3) := by decide +kernel
theorem dX5_drawDream_12 : decode cX5_drawDream 12 = .ok (.istore_n 2, 1) := by decide +kernel
theorem dX5_drawDream_13 : decode cX5_drawDream 13 = .ok (.iconst 0, 1) := by decide +kernel
theorem dX5_drawDream_14 : decode cX5_drawDream 14 = .ok (.istore_n 3, 1) := by decide +kernel
theorem dX5_drawDream_15 : decode cX5_drawDream 15 = .ok (.iconst 0, 1) := by decide +kernel
theorem dX5_drawDream_16 : decode cX5_drawDream 16 = .ok (.istore 4, 2) := by decide +kernel
theorem dX5_drawDream_18 : decode cX5_drawDream 18 = .ok (.iload 4, 2) := by decide +kernel
theorem dX5_drawDream_20 : decode cX5_drawDream 20 = .ok (.iconst 5, 1) := by decide +kernel
theorem dX5_drawDream_21 : decode cX5_drawDream 21 = .ok (.if_icmp .ge 30, 3) := by decide +kernel
theorem dX5_drawDream_24 : decode cX5_drawDream 24 = .ok (.iload_n 3, 1) := by decide +kernel
theorem dX5_drawDream_25 : decode cX5_drawDream 25 = .ok (.aload_n 0, 1) := by decide +kernel
theorem dX5_drawDream_26 : decode cX5_drawDream 26 = .ok (.getfield 12, 3) := by decide +kernel
theorem dX5_drawDream_29 : decode cX5_drawDream 29 = .ok (.iload_n 1, 1) := by decide +kernel
theorem dX5_drawDream_30 : decode cX5_drawDream 30 = .ok (.iload 4, 2) := by decide +kernel
theorem dX5_drawDream_32 : decode cX5_drawDream 32 = .ok (.invokevirtual 75, 3) := by decide +kernel
theorem dX5_drawDream_35 : decode cX5_drawDream 35 = .ok (.iadd, 1) := by decide +kernel
theorem dX5_drawDream_36 : decode cX5_drawDream 36 = .ok (.istore_n 3, 1) := by decide +kernel
theorem dX5_drawDream_37 : decode cX5_drawDream 37 = .ok (.iload_n 3, 1) := by decide +kernel
theorem dX5_drawDream_38 : decode cX5_drawDream 38 = .ok (.iload_n 2, 1) := by decide +kernel
theorem dX5_drawDream_39 : decode cX5_drawDream 39 = .ok (.if_icmp .le 6, 3) := by decide +kernel
theorem dX5_drawDream_42 : decode cX5_drawDream 42 = .ok (.iload 4, 2) := by decide +kernel
theorem dX5_drawDream_44 : decode cX5_drawDream 44 = .ok (.ireturn, 1) := by decide +kernel
theorem dX5_drawDream_45 : decode cX5_drawDream 45 = .ok (.iinc 4 1, 3) := by decide +kernel
theorem dX5_drawDream_48 : decode cX5_drawDream 48 = .ok (.goto (-30), 3) := by decide +kernel
theorem dX5_drawDream_51 : decode cX5_drawDream 51 = .ok (.iconst 0, 1) := by decide +kernel
theorem dX5_drawDream_52 : decode cX5_drawDream 52 = .ok (.ireturn, 1) := by decide +kernel
theorem dX5_draw_0 : decode cX5_draw 0 = .ok (.aload_n 0, 1) := by decide +kernel
theorem dX5_draw_1 : decode cX5_draw 1 = .ok (.aload_n 0, 1) := by decide +kernel
theorem dX5_draw_2 : decode cX5_draw 2 = .ok (.getfield 57, 3) := by decide +kernel
theorem dX5_draw_5 : decode cX5_draw 5 = .ok (.i2l, 1) := by decide +kernel
theorem dX5_draw_6 : decode cX5_draw 6 = .ok (.ldc2_w 111, 3) := by decide +kernel
theorem dX5_draw_9 : decode cX5_draw 9 = .ok (.lmul, 1) := by decide +kernel
theorem dX5_draw_10 : decode cX5_draw 10 = .ok (.ldc2_w 113, 3) := by decide +kernel
theorem dX5_draw_13 : decode cX5_draw 13 = .ok (.ladd, 1) := by decide +kernel
theorem dX5_draw_14 : decode cX5_draw 14 = .ok (.ldc2_w 115, 3) := by decide +kernel
theorem dX5_draw_17 : decode cX5_draw 17 = .ok (.land, 1) := by decide +kernel
theorem dX5_draw_18 : decode cX5_draw 18 = .ok (.l2i, 1) := by decide +kernel
theorem dX5_draw_19 : decode cX5_draw 19 = .ok (.putfield 57, 3) := by decide +kernel
theorem dX5_draw_22 : decode cX5_draw 22 = .ok (.iload_n 1, 1) := by decide +kernel
theorem dX5_draw_23 : decode cX5_draw 23 = .ok (.ifCond .le 15, 3) := by decide +kernel
theorem dX5_draw_26 : decode cX5_draw 26 = .ok (.aload_n 0, 1) := by decide +kernel
theorem dX5_draw_27 : decode cX5_draw 27 = .ok (.getfield 57, 3) := by decide +kernel
theorem dX5_draw_30 : decode cX5_draw 30 = .ok (.ldc 117, 2) := by decide +kernel
theorem dX5_draw_32 : decode cX5_draw 32 = .ok (.idiv, 1) := by decide +kernel
theorem dX5_draw_33 : decode cX5_draw 33 = .ok (.iload_n 1, 1) := by decide +kernel
theorem dX5_draw_34 : decode cX5_draw 34 = .ok (.irem, 1) := by decide +kernel
theorem dX5_draw_35 : decode cX5_draw 35 = .ok (.goto 4, 3) := by decide +kernel
theorem dX5_draw_38 : decode cX5_draw 38 = .ok (.iconst 0, 1) := by decide +kernel
theorem dX5_draw_39 : decode cX5_draw 39 = .ok (.ireturn, 1) := by decide +kernel
theorem dX5_setOf_0 : decode cX5_setOf 0 = .ok (.iconst 0, 1) := by decide +kernel
theorem dX5_setOf_1 : decode cX5_setOf 1 = .ok (.istore_n 1, 1) := by decide +kernel
theorem dX5_setOf_2 : decode cX5_setOf 2 = .ok (.iconst 0, 1) := by decide +kernel
theorem dX5_setOf_3 : decode cX5_setOf 3 = .ok (.istore_n 2, 1) := by decide +kernel
theorem dX5_setOf_4 : decode cX5_setOf 4 = .ok (.iload_n 2, 1) := by decide +kernel
theorem dX5_setOf_5 : decode cX5_setOf 5 = .ok (.aload_n 0, 1) := by decide +kernel
theorem dX5_setOf_6 : decode cX5_setOf 6 = .ok (.arraylength, 1) := by decide +kernel
theorem dX5_setOf_7 : decode cX5_setOf 7 = .ok (.if_icmp .ge 22, 3) := by decide +kernel
theorem dX5_setOf_10 : decode cX5_setOf 10 = .ok (.aload_n 0, 1) := by decide +kernel
theorem dX5_setOf_11 : decode cX5_setOf 11 = .ok (.iload_n 2, 1) := by decide +kernel
theorem dX5_setOf_12 : decode cX5_setOf 12 = .ok (.iaload, 1) := by decide +kernel
theorem dX5_setOf_13 : decode cX5_setOf 13 = .ok (.iconst (-1), 1) := by decide +kernel
theorem dX5_setOf_14 : decode cX5_setOf 14 = .ok (.if_icmp .eq 9, 3) := by decide +kernel
theorem dX5_setOf_17 : decode cX5_setOf 17 = .ok (.iload_n 1, 1) := by decide +kernel
theorem dX5_setOf_18 : decode cX5_setOf 18 = .ok (.iconst 1, 1) := by decide +kernel
theorem dX5_setOf_19 : decode cX5_setOf 19 = .ok (.iload_n 2, 1) := by decide +kernel
theorem dX5_setOf_20 : decode cX5_setOf 20 = .ok (.ishl, 1) := by decide +kernel
theorem dX5_setOf_21 : decode cX5_setOf 21 = .ok (.ior, 1) := by decide +kernel
theorem dX5_setOf_22 : decode cX5_setOf 22 = .ok (.istore_n 1, 1) := by decide +kernel
theorem dX5_setOf_23 : decode cX5_setOf 23 = .ok (.iinc 2 1, 3) := by decide +kernel
theorem dX5_setOf_26 : decode cX5_setOf 26 = .ok (.goto (-22), 3) := by decide +kernel
theorem dX5_setOf_29 : decode cX5_setOf 29 = .ok (.iload_n 1, 1) := by decide +kernel
theorem dX5_setOf_30 : decode cX5_setOf 30 = .ok (.ireturn, 1) := by decide +kernel
theorem dX6_init_0 : decode cX6_init 0 = .ok (.aload_n 0, 1) := by decide +kernel
theorem dX6_init_1 : decode cX6_init 1 = .ok (.invokespecial 3, 3) := by decide +kernel
theorem dX6_init_4 : decode cX6_init 4 = .ok (.aload_n 0, 1) := by decide +kernel
theorem dX6_init_5 : decode cX6_init 5 = .ok (.iconst (-1), 1) := by decide +kernel
theorem dX6_init_6 : decode cX6_init 6 = .ok (.putfield 9, 3) := by decide +kernel
theorem dX6_init_9 : decode cX6_init 9 = .ok (.aload_n 0, 1) := by decide +kernel
theorem dX6_init_10 : decode cX6_init 10 = .ok (.new 15, 3) := by decide +kernel
theorem dX6_init_13 : decode cX6_init 13 = .ok (.dup, 1) := by decide +kernel
theorem dX6_init_14 : decode cX6_init 14 = .ok (.invokespecial 17, 3) := by decide +kernel
theorem dX6_init_17 : decode cX6_init 17 = .ok (.putfield 18, 3) := by decide +kernel
theorem dX6_init_20 : decode cX6_init 20 = .ok (.aload_n 0, 1) := by decide +kernel
theorem dX6_init_21 : decode cX6_init 21 = .ok (.sipush 240, 3) := by decide +kernel
theorem dX6_init_24 : decode cX6_init 24 = .ok (.newarray .int, 2) := by decide +kernel
theorem dX6_init_26 : decode cX6_init 26 = .ok (.putfield 22, 3) := by decide +kernel
theorem dX6_init_29 : decode cX6_init 29 = .ok (.return_, 1) := by decide +kernel
theorem dX6_add_0 : decode cX6_add 0 = .ok (.aload_n 0, 1) := by decide +kernel
theorem dX6_add_1 : decode cX6_add 1 = .ok (.getfield 26, 3) := by decide +kernel
theorem dX6_add_4 : decode cX6_add 4 = .ok (.sipush 240, 3) := by decide +kernel
theorem dX6_add_7 : decode cX6_add 7 = .ok (.if_icmp .lt 5, 3) := by decide +kernel
theorem dX6_add_10 : decode cX6_add 10 = .ok (.iconst 0, 1) := by decide +kernel
theorem dX6_add_11 : decode cX6_add 11 = .ok (.ireturn, 1) := by decide +kernel
theorem dX6_add_12 : decode cX6_add 12 = .ok (.aload_n 0, 1) := by decide +kernel
theorem dX6_add_13 : decode cX6_add 13 = .ok (.getfield 22, 3) := by decide +kernel
theorem dX6_add_16 : decode cX6_add 16 = .ok (.aload_n 0, 1) := by decide +kernel
theorem dX6_add_17 : decode cX6_add 17 = .ok (.getfield 26, 3) := by decide +kernel
theorem dX6_add_20 : decode cX6_add 20 = .ok (.iload_n 1, 1) := by decide +kernel
theorem dX6_add_21 : decode cX6_add 21 = .ok (.iastore, 1) := by decide +kernel
theorem dX6_add_22 : decode cX6_add 22 = .ok (.aload_n 0, 1) := by decide +kernel
theorem dX6_add_23 : decode cX6_add 23 = .ok (.dup, 1) := by decide +kernel
theorem dX6_add_24 : decode cX6_add 24 = .ok (.getfield 26, 3) := by decide +kernel
theorem dX6_add_27 : decode cX6_add 27 = .ok (.iconst 1, 1) := by decide +kernel
theorem dX6_add_28 : decode cX6_add 28 = .ok (.iadd, 1) := by decide +kernel
theorem dX6_add_29 : decode cX6_add 29 = .ok (.putfield 26, 3) := by decide +kernel
theorem dX6_add_32 : decode cX6_add 32 = .ok (.iconst 1, 1) := by decide +kernel
theorem dX6_add_33 : decode cX6_add 33 = .ok (.ireturn, 1) := by decide +kernel
theorem dX6_parse_0 : decode cX6_parse 0 = .ok (.aload_n 0, 1) := by decide +kernel
theorem dX6_parse_1 : decode cX6_parse 1 = .ok (.getfield 18, 3) := by decide +kernel
theorem dX6_parse_4 : decode cX6_parse 4 = .ok (.invokevirtual 29, 3) := by decide +kernel
theorem dX6_parse_7 : decode cX6_parse 7 = .ok (.aload_n 0, 1) := by decide +kernel
theorem dX6_parse_8 : decode cX6_parse 8 = .ok (.iconst 0, 1) := by decide +kernel
theorem dX6_parse_9 : decode cX6_parse 9 = .ok (.putfield 32, 3) := by decide +kernel
theorem dX6_parse_12 : decode cX6_parse 12 = .ok (.aload_n 0, 1) := by decide +kernel
theorem dX6_parse_13 : decode cX6_parse 13 = .ok (.iconst 0, 1) := by decide +kernel
theorem dX6_parse_14 : decode cX6_parse 14 = .ok (.putfield 35, 3) := by decide +kernel
theorem dX6_parse_17 : decode cX6_parse 17 = .ok (.aload_n 0, 1) := by decide +kernel
theorem dX6_parse_18 : decode cX6_parse 18 = .ok (.iconst (-1), 1) := by decide +kernel
theorem dX6_parse_19 : decode cX6_parse 19 = .ok (.putfield 9, 3) := by decide +kernel
theorem dX6_parse_22 : decode cX6_parse 22 = .ok (.aload_n 0, 1) := by decide +kernel
theorem dX6_parse_23 : decode cX6_parse 23 = .ok (.iconst 0, 1) := by decide +kernel
theorem dX6_parse_24 : decode cX6_parse 24 = .ok (.putfield 38, 3) := by decide +kernel
theorem dX6_parse_27 : decode cX6_parse 27 = .ok (.aload_n 0, 1) := by decide +kernel
theorem dX6_parse_28 : decode cX6_parse 28 = .ok (.invokevirtual 42, 3) := by decide +kernel
theorem dX6_parse_31 : decode cX6_parse 31 = .ok (.iconst 0, 1) := by decide +kernel
theorem dX6_parse_32 : decode cX6_parse 32 = .ok (.istore_n 1, 1) := by decide +kernel
theorem dX6_parse_33 : decode cX6_parse 33 = .ok (.iload_n 1, 1) := by decide +kernel
theorem dX6_parse_34 : decode cX6_parse 34 = .ok (.sipush 240, 3) := by decide +kernel
theorem dX6_parse_37 : decode cX6_parse 37 = .ok (.if_icmp .ge 44, 3) := by decide +kernel
theorem dX6_parse_40 : decode cX6_parse 40 = .ok (.aload_n 0, 1) := by decide +kernel
theorem dX6_parse_41 : decode cX6_parse 41 = .ok (.getfield 32, 3) := by decide +kernel
theorem dX6_parse_44 : decode cX6_parse 44 = .ok (.aload_n 0, 1) := by decide +kernel
theorem dX6_parse_45 : decode cX6_parse 45 = .ok (.getfield 26, 3) := by decide +kernel
theorem dX6_parse_48 : decode cX6_parse 48 = .ok (.if_icmp .ge 33, 3) := by decide +kernel
theorem dX6_parse_51 : decode cX6_parse 51 = .ok (.aload_n 0, 1) := by decide +kernel
theorem dX6_parse_52 : decode cX6_parse 52 = .ok (.getfield 35, 3) := by decide +kernel
theorem dX6_parse_55 : decode cX6_parse 55 = .ok (.ifCond .ne 26, 3) := by decide +kernel
theorem dX6_parse_58 : decode cX6_parse 58 = .ok (.aload_n 0, 1) := by decide +kernel
theorem dX6_parse_59 : decode cX6_parse 59 = .ok (.aload_n 0, 1) := by decide +kernel
theorem dX6_parse_60 : decode cX6_parse 60 = .ok (.getfield 22, 3) := by decide +kernel
theorem dX6_parse_63 : decode cX6_parse 63 = .ok (.aload_n 0, 1) := by decide +kernel
theorem dX6_parse_64 : decode cX6_parse 64 = .ok (.getfield 32, 3) := by decide +kernel
theorem dX6_parse_67 : decode cX6_parse 67 = .ok (.iaload, 1) := by decide +kernel
theorem dX6_parse_68 : decode cX6_parse 68 = .ok (.invokevirtual 45, 3) := by decide +kernel
theorem dX6_parse_71 : decode cX6_parse 71 = .ok (.aload_n 0, 1) := by decide +kernel
theorem dX6_parse_72 : decode cX6_parse 72 = .ok (.invokevirtual 42, 3) := by decide +kernel
theorem dX6_parse_75 : decode cX6_parse 75 = .ok (.iinc 1 1, 3) := by decide +kernel
theorem dX6_parse_78 : decode cX6_parse 78 = .ok (.goto (-45), 3) := by decide +kernel
theorem dX6_parse_81 : decode cX6_parse 81 = .ok (.aload_n 0, 1) := by decide +kernel
theorem dX6_parse_82 : decode cX6_parse 82 = .ok (.getfield 35, 3) := by decide +kernel
theorem dX6_parse_85 : decode cX6_parse 85 = .ok (.ireturn, 1) := by decide +kernel
theorem dX6_readClause_0 : decode cX6_readClause 0 = .ok (.aload_n 0, 1) := by decide +kernel
theorem dX6_readClause_1 : decode cX6_readClause 1 = .ok (.getfield 18, 3) := by decide +kernel
theorem dX6_readClause_4 : decode cX6_readClause 4 = .ok (.getfield 49, 3) := by decide +kernel
theorem dX6_readClause_7 : decode cX6_readClause 7 = .ok (.ifCond .ne 19, 3) := by decide +kernel
theorem dX6_readClause_10 : decode cX6_readClause 10 = .ok (.iload_n 1, 1) := by decide +kernel
theorem dX6_readClause_11 : decode cX6_readClause 11 = .ok (.bipush 100, 2) := by decide +kernel
theorem dX6_readClause_13 : decode cX6_readClause 13 = .ok (.if_icmp .eq 13, 3) := by decide +kernel
theorem dX6_readClause_16 : decode cX6_readClause 16 = .ok (.aload_n 0, 1) := by decide +kernel
theorem dX6_readClause_17 : decode cX6_readClause 17 = .ok (.iconst 1, 1) := by decide +kernel
theorem dX6_readClause_18 : decode cX6_readClause 18 = .ok (.aload_n 0, 1) := by decide +kernel
theorem dX6_readClause_19 : decode cX6_readClause 19 = .ok (.getfield 32, 3) := by decide +kernel
theorem dX6_readClause_22 : decode cX6_readClause 22 = .ok (.invokevirtual 52, 3) := by decide +kernel
theorem dX6_readClause_25 : decode cX6_readClause 25 = .ok (.return_, 1) := by decide +kernel
theorem dX6_readClause_26 : decode cX6_readClause 26 = .ok (.iload_n 1, 1) := by decide +kernel
theorem dX6_readClause_27 : decode cX6_readClause 27 = .ok (.lookupswitch 69 #[(100, 41), (108, 55), (110, 62), (115, 48)], 41) := by decide +kernel
theorem dX6_readClause_68 : decode cX6_readClause 68 = .ok (.aload_n 0, 1) := by decide +kernel
theorem dX6_readClause_69 : decode cX6_readClause 69 = .ok (.invokevirtual 56, 3) := by decide +kernel
theorem dX6_readClause_72 : decode cX6_readClause 72 = .ok (.goto 33, 3) := by decide +kernel
theorem dX6_readClause_75 : decode cX6_readClause 75 = .ok (.aload_n 0, 1) := by decide +kernel
theorem dX6_readClause_76 : decode cX6_readClause 76 = .ok (.invokevirtual 59, 3) := by decide +kernel
theorem dX6_readClause_79 : decode cX6_readClause 79 = .ok (.goto 26, 3) := by decide +kernel
theorem dX6_readClause_82 : decode cX6_readClause 82 = .ok (.aload_n 0, 1) := by decide +kernel
theorem dX6_readClause_83 : decode cX6_readClause 83 = .ok (.invokevirtual 62, 3) := by decide +kernel
theorem dX6_readClause_86 : decode cX6_readClause 86 = .ok (.goto 19, 3) := by decide +kernel
theorem dX6_readClause_89 : decode cX6_readClause 89 = .ok (.aload_n 0, 1) := by decide +kernel
theorem dX6_readClause_90 : decode cX6_readClause 90 = .ok (.invokevirtual 65, 3) := by decide +kernel
theorem dX6_readClause_93 : decode cX6_readClause 93 = .ok (.goto 12, 3) := by decide +kernel
theorem dX6_readClause_96 : decode cX6_readClause 96 = .ok (.aload_n 0, 1) := by decide +kernel
theorem dX6_readClause_97 : decode cX6_readClause 97 = .ok (.iconst 1, 1) := by decide +kernel
theorem dX6_readClause_98 : decode cX6_readClause 98 = .ok (.aload_n 0, 1) := by decide +kernel
theorem dX6_readClause_99 : decode cX6_readClause 99 = .ok (.getfield 32, 3) := by decide +kernel
theorem dX6_readClause_102 : decode cX6_readClause 102 = .ok (.invokevirtual 52, 3) := by decide +kernel
theorem dX6_readClause_105 : decode cX6_readClause 105 = .ok (.return_, 1) := by decide +kernel
theorem dX6_readDreams_0 : decode cX6_readDreams 0 = .ok (.aload_n 0, 1) := by decide +kernel
theorem dX6_readDreams_1 : decode cX6_readDreams 1 = .ok (.aload_n 0, 1) := by decide +kernel
theorem dX6_readDreams_2 : decode cX6_readDreams 2 = .ok (.getfield 18, 3) := by decide +kernel
theorem dX6_readDreams_5 : decode cX6_readDreams 5 = .ok (.getfield 49, 3) := by decide +kernel
theorem dX6_readDreams_8 : decode cX6_readDreams 8 = .ok (.ifCond .ne 7, 3) := by decide +kernel
theorem dX6_readDreams_11 : decode cX6_readDreams 11 = .ok (.iconst 1, 1) := by decide +kernel
theorem dX6_readDreams_12 : decode cX6_readDreams 12 = .ok (.goto 4, 3) := by decide +kernel
theorem dX6_readDreams_15 : decode cX6_readDreams 15 = .ok (.iconst 0, 1) := by decide +kernel
theorem dX6_readDreams_16 : decode cX6_readDreams 16 = .ok (.invokevirtual 68, 3) := by decide +kernel
theorem dX6_readDreams_19 : decode cX6_readDreams 19 = .ok (.aload_n 0, 1) := by decide +kernel
theorem dX6_readDreams_20 : decode cX6_readDreams 20 = .ok (.getfield 18, 3) := by decide +kernel
theorem dX6_readDreams_23 : decode cX6_readDreams 23 = .ok (.aload_n 0, 1) := by decide +kernel
theorem dX6_readDreams_24 : decode cX6_readDreams 24 = .ok (.iconst 2, 1) := by decide +kernel
theorem dX6_readDreams_25 : decode cX6_readDreams 25 = .ok (.iconst 5, 1) := by decide +kernel
theorem dX6_readDreams_26 : decode cX6_readDreams 26 = .ok (.invokevirtual 72, 3) := by decide +kernel
theorem dX6_readDreams_29 : decode cX6_readDreams 29 = .ok (.putfield 49, 3) := by decide +kernel
theorem dX6_readDreams_32 : decode cX6_readDreams 32 = .ok (.aload_n 0, 1) := by decide +kernel
theorem dX6_readDreams_33 : decode cX6_readDreams 33 = .ok (.getfield 18, 3) := by decide +kernel
theorem dX6_readDreams_36 : decode cX6_readDreams 36 = .ok (.aload_n 0, 1) := by decide +kernel
theorem dX6_readDreams_37 : decode cX6_readDreams 37 = .ok (.iconst 0, 1) := by decide +kernel
theorem dX6_readDreams_38 : decode cX6_readDreams 38 = .ok (.iconst 5, 1) := by decide +kernel
theorem dX6_readDreams_39 : decode cX6_readDreams 39 = .ok (.invokevirtual 72, 3) := by decide +kernel
theorem dX6_readDreams_42 : decode cX6_readDreams 42 = .ok (.putfield 76, 3) := by decide +kernel
theorem dX6_readDreams_45 : decode cX6_readDreams 45 = .ok (.aload_n 0, 1) := by decide +kernel
theorem dX6_readDreams_46 : decode cX6_readDreams 46 = .ok (.bipush 59, 2) := by decide +kernel
theorem dX6_readDreams_48 : decode cX6_readDreams 48 = .ok (.invokevirtual 79, 3) := by decide +kernel
theorem dX6_readDreams_51 : decode cX6_readDreams 51 = .ok (.return_, 1) := by decide +kernel
theorem dX6_readSleeper_0 : decode cX6_readSleeper 0 = .ok (.aload_n 0, 1) := by decide +kernel
theorem dX6_readSleeper_1 : decode cX6_readSleeper 1 = .ok (.aload_n 0, 1) := by decide +kernel
theorem dX6_readSleeper_2 : decode cX6_readSleeper 2 = .ok (.getfield 18, 3) := by decide +kernel
theorem dX6_readSleeper_5 : decode cX6_readSleeper 5 = .ok (.getfield 82, 3) := by decide +kernel
theorem dX6_readSleeper_8 : decode cX6_readSleeper 8 = .ok (.bipush 6, 2) := by decide +kernel
theorem dX6_readSleeper_10 : decode cX6_readSleeper 10 = .ok (.if_icmp .ge 7, 3) := by decide +kernel
theorem dX6_readSleeper_13 : decode cX6_readSleeper 13 = .ok (.iconst 1, 1) := by decide +kernel
theorem dX6_readSleeper_14 : decode cX6_readSleeper 14 = .ok (.goto 4, 3) := by decide +kernel
theorem dX6_readSleeper_17 : decode cX6_readSleeper 17 = .ok (.iconst 0, 1) := by decide +kernel
theorem dX6_readSleeper_18 : decode cX6_readSleeper 18 = .ok (.invokevirtual 68, 3) := by decide +kernel
theorem dX6_readSleeper_21 : decode cX6_readSleeper 21 = .ok (.iconst 0, 1) := by decide +kernel
theorem dX6_readSleeper_22 : decode cX6_readSleeper 22 = .ok (.istore_n 1, 1) := by decide +kernel
theorem dX6_readSleeper_23 : decode cX6_readSleeper 23 = .ok (.iload_n 1, 1) := by decide +kernel
theorem dX6_readSleeper_24 : decode cX6_readSleeper 24 = .ok (.aload_n 0, 1) := by decide +kernel
theorem dX6_readSleeper_25 : decode cX6_readSleeper 25 = .ok (.getfield 18, 3) := by decide +kernel
theorem dX6_readSleeper_28 : decode cX6_readSleeper 28 = .ok (.getfield 49, 3) := by decide +kernel
theorem dX6_readSleeper_31 : decode cX6_readSleeper 31 = .ok (.if_icmp .ge 51, 3) := by decide +kernel
theorem dX6_readSleeper_34 : decode cX6_readSleeper 34 = .ok (.aload_n 0, 1) := by decide +kernel
theorem dX6_readSleeper_35 : decode cX6_readSleeper 35 = .ok (.getfield 35, 3) := by decide +kernel
theorem dX6_readSleeper_38 : decode cX6_readSleeper 38 = .ok (.ifCond .ne 44, 3) := by decide +kernel
theorem dX6_readSleeper_41 : decode cX6_readSleeper 41 = .ok (.iload_n 1, 1) := by decide +kernel
theorem dX6_readSleeper_42 : decode cX6_readSleeper 42 = .ok (.ifCond .le 9, 3) := by decide +kernel
theorem dX6_readSleeper_45 : decode cX6_readSleeper 45 = .ok (.aload_n 0, 1) := by decide +kernel
theorem dX6_readSleeper_46 : decode cX6_readSleeper 46 = .ok (.bipush 44, 2) := by decide +kernel
theorem dX6_readSleeper_48 : decode cX6_readSleeper 48 = .ok (.invokevirtual 79, 3) := by decide +kernel
theorem dX6_readSleeper_51 : decode cX6_readSleeper 51 = .ok (.aload_n 0, 1) := by decide +kernel
theorem dX6_readSleeper_52 : decode cX6_readSleeper 52 = .ok (.getfield 18, 3) := by decide +kernel
theorem dX6_readSleeper_55 : decode cX6_readSleeper 55 = .ok (.getfield 85, 3) := by decide +kernel
theorem dX6_readSleeper_58 : decode cX6_readSleeper 58 = .ok (.aload_n 0, 1) := by decide +kernel
theorem dX6_readSleeper_59 : decode cX6_readSleeper 59 = .ok (.getfield 18, 3) := by decide +kernel
theorem dX6_readSleeper_62 : decode cX6_readSleeper 62 = .ok (.getfield 82, 3) := by decide +kernel
theorem dX6_readSleeper_65 : decode cX6_readSleeper 65 = .ok (.iload_n 1, 1) := by decide +kernel
theorem dX6_readSleeper_66 : decode cX6_readSleeper 66 = .ok (.aload_n 0, 1) := by decide +kernel
theorem dX6_readSleeper_67 : decode cX6_readSleeper 67 = .ok (.iconst 0, 1) := by decide +kernel
theorem dX6_readSleeper_68 : decode cX6_readSleeper 68 = .ok (.bipush 9, 2) := by decide +kernel
theorem dX6_readSleeper_70 : decode cX6_readSleeper 70 = .ok (.invokevirtual 72, 3) := by decide +kernel
theorem dX6_readSleeper_73 : decode cX6_readSleeper 73 = .ok (.invokevirtual 89, 3) := by decide +kernel
theorem dX6_readSleeper_76 : decode cX6_readSleeper 76 = .ok (.iinc 1 1, 3) := by decide +kernel
theorem dX6_readSleeper_79 : decode cX6_readSleeper 79 = .ok (.goto (-56), 3) := by decide +kernel
theorem dX6_readSleeper_82 : decode cX6_readSleeper 82 = .ok (.aload_n 0, 1) := by decide +kernel
theorem dX6_readSleeper_83 : decode cX6_readSleeper 83 = .ok (.getfield 18, 3) := by decide +kernel
theorem dX6_readSleeper_86 : decode cX6_readSleeper 86 = .ok (.getfield 85, 3) := by decide +kernel
theorem dX6_readSleeper_89 : decode cX6_readSleeper 89 = .ok (.aload_n 0, 1) := by decide +kernel
theorem dX6_readSleeper_90 : decode cX6_readSleeper 90 = .ok (.getfield 18, 3) := by decide +kernel
theorem dX6_readSleeper_93 : decode cX6_readSleeper 93 = .ok (.getfield 82, 3) := by decide +kernel
theorem dX6_readSleeper_96 : decode cX6_readSleeper 96 = .ok (.invokevirtual 95, 3) := by decide +kernel
theorem dX6_readSleeper_99 : decode cX6_readSleeper 99 = .ok (.ifCond .ne 12, 3) := by decide +kernel
theorem dX6_readSleeper_102 : decode cX6_readSleeper 102 = .ok (.aload_n 0, 1) := by decide +kernel
theorem dX6_readSleeper_103 : decode cX6_readSleeper 103 = .ok (.iconst 4, 1) := by decide +kernel
theorem dX6_readSleeper_104 : decode cX6_readSleeper 104 = .ok (.aload_n 0, 1) := by decide +kernel
theorem dX6_readSleeper_105 : decode cX6_readSleeper 105 = .ok (.getfield 99, 3) := by decide +kernel
theorem dX6_readSleeper_108 : decode cX6_readSleeper 108 = .ok (.invokevirtual 52, 3) := by decide +kernel
theorem dX6_readSleeper_111 : decode cX6_readSleeper 111 = .ok (.aload_n 0, 1) := by decide +kernel
theorem dX6_readSleeper_112 : decode cX6_readSleeper 112 = .ok (.bipush 59, 2) := by decide +kernel
theorem dX6_readSleeper_114 : decode cX6_readSleeper 114 = .ok (.invokevirtual 79, 3) := by decide +kernel
theorem dX6_readSleeper_117 : decode cX6_readSleeper 117 = .ok (.aload_n 0, 1) := by decide +kernel
theorem dX6_readSleeper_118 : decode cX6_readSleeper 118 = .ok (.getfield 35, 3) := by decide +kernel
theorem dX6_readSleeper_121 : decode cX6_readSleeper 121 = .ok (.ifCond .ne 16, 3) := by decide +kernel
theorem dX6_readSleeper_124 : decode cX6_readSleeper 124 = .ok (.aload_n 0, 1) := by decide +kernel
theorem dX6_readSleeper_125 : decode cX6_readSleeper 125 = .ok (.getfield 18, 3) := by decide +kernel
theorem dX6_readSleeper_128 : decode cX6_readSleeper 128 = .ok (.dup, 1) := by decide +kernel
theorem dX6_readSleeper_129 : decode cX6_readSleeper 129 = .ok (.getfield 82, 3) := by decide +kernel
theorem dX6_readSleeper_132 : decode cX6_readSleeper 132 = .ok (.iconst 1, 1) := by decide +kernel
theorem dX6_readSleeper_133 : decode cX6_readSleeper 133 = .ok (.iadd, 1) := by decide +kernel
theorem dX6_readSleeper_134 : decode cX6_readSleeper 134 = .ok (.putfield 82, 3) := by decide +kernel
theorem dX6_readSleeper_137 : decode cX6_readSleeper 137 = .ok (.return_, 1) := by decide +kernel
theorem dX6_readLoaf_0 : decode cX6_readLoaf 0 = .ok (.aload_n 0, 1) := by decide +kernel
theorem dX6_readLoaf_1 : decode cX6_readLoaf 1 = .ok (.aload_n 0, 1) := by decide +kernel
theorem dX6_readLoaf_2 : decode cX6_readLoaf 2 = .ok (.getfield 18, 3) := by decide +kernel
theorem dX6_readLoaf_5 : decode cX6_readLoaf 5 = .ok (.getfield 102, 3) := by decide +kernel
theorem dX6_readLoaf_8 : decode cX6_readLoaf 8 = .ok (.bipush 7, 2) := by decide +kernel
theorem dX6_readLoaf_10 : decode cX6_readLoaf 10 = .ok (.if_icmp .ge 7, 3) := by decide +kernel
theorem dX6_readLoaf_13 : decode cX6_readLoaf 13 = .ok (.iconst 1, 1) := by decide +kernel
theorem dX6_readLoaf_14 : decode cX6_readLoaf 14 = .ok (.goto 4, 3) := by decide +kernel
theorem dX6_readLoaf_17 : decode cX6_readLoaf 17 = .ok (.iconst 0, 1) := by decide +kernel
theorem dX6_readLoaf_18 : decode cX6_readLoaf 18 = .ok (.invokevirtual 68, 3) := by decide +kernel
theorem dX6_readLoaf_21 : decode cX6_readLoaf 21 = .ok (.aload_n 0, 1) := by decide +kernel
theorem dX6_readLoaf_22 : decode cX6_readLoaf 22 = .ok (.iconst 0, 1) := by decide +kernel
theorem dX6_readLoaf_23 : decode cX6_readLoaf 23 = .ok (.aload_n 0, 1) := by decide +kernel
theorem dX6_readLoaf_24 : decode cX6_readLoaf 24 = .ok (.getfield 18, 3) := by decide +kernel
theorem dX6_readLoaf_27 : decode cX6_readLoaf 27 = .ok (.getfield 82, 3) := by decide +kernel
theorem dX6_readLoaf_30 : decode cX6_readLoaf 30 = .ok (.iconst 1, 1) := by decide +kernel
theorem dX6_readLoaf_31 : decode cX6_readLoaf 31 = .ok (.isub, 1) := by decide +kernel
theorem dX6_readLoaf_32 : decode cX6_readLoaf 32 = .ok (.invokevirtual 72, 3) := by decide +kernel
theorem dX6_readLoaf_35 : decode cX6_readLoaf 35 = .ok (.istore_n 1, 1) := by decide +kernel
theorem dX6_readLoaf_36 : decode cX6_readLoaf 36 = .ok (.aload_n 0, 1) := by decide +kernel
theorem dX6_readLoaf_37 : decode cX6_readLoaf 37 = .ok (.iconst 0, 1) := by decide +kernel
theorem dX6_readLoaf_38 : decode cX6_readLoaf 38 = .ok (.aload_n 0, 1) := by decide +kernel
theorem dX6_readLoaf_39 : decode cX6_readLoaf 39 = .ok (.getfield 18, 3) := by decide +kernel
theorem dX6_readLoaf_42 : decode cX6_readLoaf 42 = .ok (.getfield 49, 3) := by decide +kernel
theorem dX6_readLoaf_45 : decode cX6_readLoaf 45 = .ok (.iconst 1, 1) := by decide +kernel
theorem dX6_readLoaf_46 : decode cX6_readLoaf 46 = .ok (.isub, 1) := by decide +kernel
theorem dX6_readLoaf_47 : decode cX6_readLoaf 47 = .ok (.invokevirtual 72, 3) := by decide +kernel
theorem dX6_readLoaf_50 : decode cX6_readLoaf 50 = .ok (.istore_n 2, 1) := by decide +kernel
theorem dX6_readLoaf_51 : decode cX6_readLoaf 51 = .ok (.aload_n 0, 1) := by decide +kernel
theorem dX6_readLoaf_52 : decode cX6_readLoaf 52 = .ok (.iconst 0, 1) := by decide +kernel
theorem dX6_readLoaf_53 : decode cX6_readLoaf 53 = .ok (.bipush 99, 2) := by decide +kernel
theorem dX6_readLoaf_55 : decode cX6_readLoaf 55 = .ok (.invokevirtual 72, 3) := by decide +kernel
theorem dX6_readLoaf_58 : decode cX6_readLoaf 58 = .ok (.istore_n 3, 1) := by decide +kernel
theorem dX6_readLoaf_59 : decode cX6_readLoaf 59 = .ok (.aload_n 0, 1) := by decide +kernel
theorem dX6_readLoaf_60 : decode cX6_readLoaf 60 = .ok (.bipush 59, 2) := by decide +kernel
theorem dX6_readLoaf_62 : decode cX6_readLoaf 62 = .ok (.invokevirtual 79, 3) := by decide +kernel
theorem dX6_readLoaf_65 : decode cX6_readLoaf 65 = .ok (.aload_n 0, 1) := by decide +kernel
theorem dX6_readLoaf_66 : decode cX6_readLoaf 66 = .ok (.getfield 35, 3) := by decide +kernel
theorem dX6_readLoaf_69 : decode cX6_readLoaf 69 = .ok (.ifCond .ne 76, 3) := by decide +kernel
theorem dX6_readLoaf_72 : decode cX6_readLoaf 72 = .ok (.aload_n 0, 1) := by decide +kernel
theorem dX6_readLoaf_73 : decode cX6_readLoaf 73 = .ok (.getfield 18, 3) := by decide +kernel
theorem dX6_readLoaf_76 : decode cX6_readLoaf 76 = .ok (.getfield 102, 3) := by decide +kernel
theorem dX6_readLoaf_79 : decode cX6_readLoaf 79 = .ok (.bipush 7, 2) := by decide +kernel
theorem dX6_readLoaf_81 : decode cX6_readLoaf 81 = .ok (.if_icmp .ge 64, 3) := by decide +kernel
theorem dX6_readLoaf_84 : decode cX6_readLoaf 84 = .ok (.aload_n 0, 1) := by decide +kernel
theorem dX6_readLoaf_85 : decode cX6_readLoaf 85 = .ok (.getfield 18, 3) := by decide +kernel
theorem dX6_readLoaf_88 : decode cX6_readLoaf 88 = .ok (.getfield 105, 3) := by decide +kernel
theorem dX6_readLoaf_91 : decode cX6_readLoaf 91 = .ok (.aload_n 0, 1) := by decide +kernel
theorem dX6_readLoaf_92 : decode cX6_readLoaf 92 = .ok (.getfield 18, 3) := by decide +kernel
theorem dX6_readLoaf_95 : decode cX6_readLoaf 95 = .ok (.getfield 102, 3) := by decide +kernel
theorem dX6_readLoaf_98 : decode cX6_readLoaf 98 = .ok (.iload_n 1, 1) := by decide +kernel
theorem dX6_readLoaf_99 : decode cX6_readLoaf 99 = .ok (.iastore, 1) := by decide +kernel
theorem dX6_readLoaf_100 : decode cX6_readLoaf 100 = .ok (.aload_n 0, 1) := by decide +kernel
theorem dX6_readLoaf_101 : decode cX6_readLoaf 101 = .ok (.getfield 18, 3) := by decide +kernel
theorem dX6_readLoaf_104 : decode cX6_readLoaf 104 = .ok (.getfield 108, 3) := by decide +kernel
theorem dX6_readLoaf_107 : decode cX6_readLoaf 107 = .ok (.aload_n 0, 1) := by decide +kernel
theorem dX6_readLoaf_108 : decode cX6_readLoaf 108 = .ok (.getfield 18, 3) := by decide +kernel
theorem dX6_readLoaf_111 : decode cX6_readLoaf 111 = .ok (.getfield 102, 3) := by decide +kernel
theorem dX6_readLoaf_114 : decode cX6_readLoaf 114 = .ok (.iload_n 2, 1) := by decide +kernel
theorem dX6_readLoaf_115 : decode cX6_readLoaf 115 = .ok (.iastore, 1) := by decide +kernel
theorem dX6_readLoaf_116 : decode cX6_readLoaf 116 = .ok (.aload_n 0, 1) := by decide +kernel
theorem dX6_readLoaf_117 : decode cX6_readLoaf 117 = .ok (.getfield 18, 3) := by decide +kernel
theorem dX6_readLoaf_120 : decode cX6_readLoaf 120 = .ok (.getfield 111, 3) := by decide +kernel
theorem dX6_readLoaf_123 : decode cX6_readLoaf 123 = .ok (.aload_n 0, 1) := by decide +kernel
theorem dX6_readLoaf_124 : decode cX6_readLoaf 124 = .ok (.getfield 18, 3) := by decide +kernel
theorem dX6_readLoaf_127 : decode cX6_readLoaf 127 = .ok (.getfield 102, 3) := by decide +kernel
theorem dX6_readLoaf_130 : decode cX6_readLoaf 130 = .ok (.iload_n 3, 1) := by decide +kernel
theorem dX6_readLoaf_131 : decode cX6_readLoaf 131 = .ok (.iastore, 1) := by decide +kernel
theorem dX6_readLoaf_132 : decode cX6_readLoaf 132 = .ok (.aload_n 0, 1) := by decide +kernel
theorem dX6_readLoaf_133 : decode cX6_readLoaf 133 = .ok (.getfield 18, 3) := by decide +kernel
theorem dX6_readLoaf_136 : decode cX6_readLoaf 136 = .ok (.dup, 1) := by decide +kernel
theorem dX6_readLoaf_137 : decode cX6_readLoaf 137 = .ok (.getfield 102, 3) := by decide +kernel
theorem dX6_readLoaf_140 : decode cX6_readLoaf 140 = .ok (.iconst 1, 1) := by decide +kernel
theorem dX6_readLoaf_141 : decode cX6_readLoaf 141 = .ok (.iadd, 1) := by decide +kernel
theorem dX6_readLoaf_142 : decode cX6_readLoaf 142 = .ok (.putfield 102, 3) := by decide +kernel
theorem dX6_readLoaf_145 : decode cX6_readLoaf 145 = .ok (.return_, 1) := by decide +kernel
theorem dX6_readNightmare_0 : decode cX6_readNightmare 0 = .ok (.aload_n 0, 1) := by decide +kernel
theorem dX6_readNightmare_1 : decode cX6_readNightmare 1 = .ok (.aload_n 0, 1) := by decide +kernel
theorem dX6_readNightmare_2 : decode cX6_readNightmare 2 = .ok (.getfield 38, 3) := by decide +kernel
theorem dX6_readNightmare_5 : decode cX6_readNightmare 5 = .ok (.ifCond .ne 7, 3) := by decide +kernel
theorem dX6_readNightmare_8 : decode cX6_readNightmare 8 = .ok (.iconst 1, 1) := by decide +kernel
theorem dX6_readNightmare_9 : decode cX6_readNightmare 9 = .ok (.goto 4, 3) := by decide +kernel
theorem dX6_readNightmare_12 : decode cX6_readNightmare 12 = .ok (.iconst 0, 1) := by decide +kernel
theorem dX6_readNightmare_13 : decode cX6_readNightmare 13 = .ok (.invokevirtual 68, 3) := by decide +kernel
theorem dX6_readNightmare_16 : decode cX6_readNightmare 16 = .ok (.aload_n 0, 1) := by decide +kernel
theorem dX6_readNightmare_17 : decode cX6_readNightmare 17 = .ok (.getfield 18, 3) := by decide +kernel
theorem dX6_readNightmare_20 : decode cX6_readNightmare 20 = .ok (.aload_n 0, 1) := by decide +kernel
theorem dX6_readNightmare_21 : decode cX6_readNightmare 21 = .ok (.iconst 0, 1) := by decide +kernel
theorem dX6_readNightmare_22 : decode cX6_readNightmare 22 = .ok (.aload_n 0, 1) := by decide +kernel
theorem dX6_readNightmare_23 : decode cX6_readNightmare 23 = .ok (.getfield 18, 3) := by decide +kernel
theorem dX6_readNightmare_26 : decode cX6_readNightmare 26 = .ok (.getfield 49, 3) := by decide +kernel
theorem dX6_readNightmare_29 : decode cX6_readNightmare 29 = .ok (.iconst 1, 1) := by decide +kernel
theorem dX6_readNightmare_30 : decode cX6_readNightmare 30 = .ok (.isub, 1) := by decide +kernel
theorem dX6_readNightmare_31 : decode cX6_readNightmare 31 = .ok (.invokevirtual 72, 3) := by decide +kernel
theorem dX6_readNightmare_34 : decode cX6_readNightmare 34 = .ok (.putfield 114, 3) := by decide +kernel
theorem dX6_readNightmare_37 : decode cX6_readNightmare 37 = .ok (.aload_n 0, 1) := by decide +kernel
theorem dX6_readNightmare_38 : decode cX6_readNightmare 38 = .ok (.bipush 59, 2) := by decide +kernel
theorem dX6_readNightmare_40 : decode cX6_readNightmare 40 = .ok (.invokevirtual 79, 3) := by decide +kernel
theorem dX6_readNightmare_43 : decode cX6_readNightmare 43 = .ok (.aload_n 0, 1) := by decide +kernel
theorem dX6_readNightmare_44 : decode cX6_readNightmare 44 = .ok (.iconst 1, 1) := by decide +kernel
theorem dX6_readNightmare_45 : decode cX6_readNightmare 45 = .ok (.putfield 38, 3) := by decide +kernel
theorem dX6_readNightmare_48 : decode cX6_readNightmare 48 = .ok (.return_, 1) := by decide +kernel
theorem dX6_passWord_0 : decode cX6_passWord 0 = .ok (.iload_n 1, 1) := by decide +kernel
theorem dX6_passWord_1 : decode cX6_passWord 1 = .ok (.ifCond .ne 12, 3) := by decide +kernel
theorem dX6_passWord_4 : decode cX6_passWord 4 = .ok (.aload_n 0, 1) := by decide +kernel
theorem dX6_passWord_5 : decode cX6_passWord 5 = .ok (.iconst 3, 1) := by decide +kernel
theorem dX6_passWord_6 : decode cX6_passWord 6 = .ok (.aload_n 0, 1) := by decide +kernel
theorem dX6_passWord_7 : decode cX6_passWord 7 = .ok (.getfield 32, 3) := by decide +kernel
theorem dX6_passWord_10 : decode cX6_passWord 10 = .ok (.invokevirtual 52, 3) := by decide +kernel
theorem dX6_passWord_13 : decode cX6_passWord 13 = .ok (.aload_n 0, 1) := by decide +kernel
theorem dX6_passWord_14 : decode cX6_passWord 14 = .ok (.dup, 1) := by decide +kernel
theorem dX6_passWord_15 : decode cX6_passWord 15 = .ok (.getfield 32, 3) := by decide +kernel
theorem dX6_passWord_18 : decode cX6_passWord 18 = .ok (.iconst 1, 1) := by decide +kernel
theorem dX6_passWord_19 : decode cX6_passWord 19 = .ok (.iadd, 1) := by decide +kernel
theorem dX6_passWord_20 : decode cX6_passWord 20 = .ok (.putfield 32, 3) := by decide +kernel
theorem dX6_passWord_23 : decode cX6_passWord 23 = .ok (.return_, 1) := by decide +kernel
theorem dX6_readNumber_0 : decode cX6_readNumber 0 = .ok (.aload_n 0, 1) := by decide +kernel
theorem dX6_readNumber_1 : decode cX6_readNumber 1 = .ok (.getfield 35, 3) := by decide +kernel
theorem dX6_readNumber_4 : decode cX6_readNumber 4 = .ok (.ifCond .eq 5, 3) := by decide +kernel
theorem dX6_readNumber_7 : decode cX6_readNumber 7 = .ok (.iconst 0, 1) := by decide +kernel
theorem dX6_readNumber_8 : decode cX6_readNumber 8 = .ok (.ireturn, 1) := by decide +kernel
theorem dX6_readNumber_9 : decode cX6_readNumber 9 = .ok (.aload_n 0, 1) := by decide +kernel
theorem dX6_readNumber_10 : decode cX6_readNumber 10 = .ok (.invokevirtual 42, 3) := by decide +kernel
theorem dX6_readNumber_13 : decode cX6_readNumber 13 = .ok (.aload_n 0, 1) := by decide +kernel
theorem dX6_readNumber_14 : decode cX6_readNumber 14 = .ok (.aload_n 0, 1) := by decide +kernel
theorem dX6_readNumber_15 : decode cX6_readNumber 15 = .ok (.getfield 32, 3) := by decide +kernel
theorem dX6_readNumber_18 : decode cX6_readNumber 18 = .ok (.putfield 99, 3) := by decide +kernel
theorem dX6_readNumber_21 : decode cX6_readNumber 21 = .ok (.iconst 0, 1) := by decide +kernel
theorem dX6_readNumber_22 : decode cX6_readNumber 22 = .ok (.istore_n 3, 1) := by decide +kernel
theorem dX6_readNumber_23 : decode cX6_readNumber 23 = .ok (.aload_n 0, 1) := by decide +kernel
theorem dX6_readNumber_24 : decode cX6_readNumber 24 = .ok (.getfield 32, 3) := by decide +kernel
theorem dX6_readNumber_27 : decode cX6_readNumber 27 = .ok (.aload_n 0, 1) := by decide +kernel
theorem dX6_readNumber_28 : decode cX6_readNumber 28 = .ok (.getfield 26, 3) := by decide +kernel
theorem dX6_readNumber_31 : decode cX6_readNumber 31 = .ok (.if_icmp .ge 62, 3) := by decide +kernel
theorem dX6_readNumber_34 : decode cX6_readNumber 34 = .ok (.aload_n 0, 1) := by decide +kernel
theorem dX6_readNumber_35 : decode cX6_readNumber 35 = .ok (.getfield 22, 3) := by decide +kernel
theorem dX6_readNumber_38 : decode cX6_readNumber 38 = .ok (.aload_n 0, 1) := by decide +kernel
theorem dX6_readNumber_39 : decode cX6_readNumber 39 = .ok (.getfield 32, 3) := by decide +kernel
theorem dX6_readNumber_42 : decode cX6_readNumber 42 = .ok (.iaload, 1) := by decide +kernel
theorem dX6_readNumber_43 : decode cX6_readNumber 43 = .ok (.invokestatic 117, 3) := by decide +kernel
theorem dX6_readNumber_46 : decode cX6_readNumber 46 = .ok (.ifCond .eq 47, 3) := by decide +kernel
theorem dX6_readNumber_49 : decode cX6_readNumber 49 = .ok (.aload_n 0, 1) := by decide +kernel
theorem dX6_readNumber_50 : decode cX6_readNumber 50 = .ok (.getfield 32, 3) := by decide +kernel
theorem dX6_readNumber_53 : decode cX6_readNumber 53 = .ok (.aload_n 0, 1) := by decide +kernel
theorem dX6_readNumber_54 : decode cX6_readNumber 54 = .ok (.getfield 99, 3) := by decide +kernel
theorem dX6_readNumber_57 : decode cX6_readNumber 57 = .ok (.isub, 1) := by decide +kernel
theorem dX6_readNumber_58 : decode cX6_readNumber 58 = .ok (.iconst 3, 1) := by decide +kernel
theorem dX6_readNumber_59 : decode cX6_readNumber 59 = .ok (.if_icmp .ge 21, 3) := by decide +kernel
theorem dX6_readNumber_62 : decode cX6_readNumber 62 = .ok (.iload_n 3, 1) := by decide +kernel
theorem dX6_readNumber_63 : decode cX6_readNumber 63 = .ok (.bipush 10, 2) := by decide +kernel
theorem dX6_readNumber_65 : decode cX6_readNumber 65 = .ok (.imul, 1) := by decide +kernel
theorem dX6_readNumber_66 : decode cX6_readNumber 66 = .ok (.aload_n 0, 1) := by decide +kernel
theorem dX6_readNumber_67 : decode cX6_readNumber 67 = .ok (.getfield 22, 3) := by decide +kernel
theorem dX6_readNumber_70 : decode cX6_readNumber 70 = .ok (.aload_n 0, 1) := by decide +kernel
theorem dX6_readNumber_71 : decode cX6_readNumber 71 = .ok (.getfield 32, 3) := by decide +kernel
theorem dX6_readNumber_74 : decode cX6_readNumber 74 = .ok (.iaload, 1) := by decide +kernel
theorem dX6_readNumber_75 : decode cX6_readNumber 75 = .ok (.iadd, 1) := by decide +kernel
theorem dX6_readNumber_76 : decode cX6_readNumber 76 = .ok (.bipush 48, 2) := by decide +kernel
theorem dX6_readNumber_78 : decode cX6_readNumber 78 = .ok (.isub, 1) := by decide +kernel
theorem dX6_readNumber_79 : decode cX6_readNumber 79 = .ok (.istore_n 3, 1) := by decide +kernel
theorem dX6_readNumber_80 : decode cX6_readNumber 80 = .ok (.aload_n 0, 1) := by decide +kernel
theorem dX6_readNumber_81 : decode cX6_readNumber 81 = .ok (.dup, 1) := by decide +kernel
theorem dX6_readNumber_82 : decode cX6_readNumber 82 = .ok (.getfield 32, 3) := by decide +kernel
theorem dX6_readNumber_85 : decode cX6_readNumber 85 = .ok (.iconst 1, 1) := by decide +kernel
theorem dX6_readNumber_86 : decode cX6_readNumber 86 = .ok (.iadd, 1) := by decide +kernel
theorem dX6_readNumber_87 : decode cX6_readNumber 87 = .ok (.putfield 32, 3) := by decide +kernel
theorem dX6_readNumber_90 : decode cX6_readNumber 90 = .ok (.goto (-67), 3) := by decide +kernel
theorem dX6_readNumber_93 : decode cX6_readNumber 93 = .ok (.aload_n 0, 1) := by decide +kernel
theorem dX6_readNumber_94 : decode cX6_readNumber 94 = .ok (.getfield 32, 3) := by decide +kernel
theorem dX6_readNumber_97 : decode cX6_readNumber 97 = .ok (.aload_n 0, 1) := by decide +kernel
theorem dX6_readNumber_98 : decode cX6_readNumber 98 = .ok (.getfield 99, 3) := by decide +kernel
theorem dX6_readNumber_101 : decode cX6_readNumber 101 = .ok (.isub, 1) := by decide +kernel
theorem dX6_readNumber_102 : decode cX6_readNumber 102 = .ok (.istore 4, 2) := by decide +kernel
theorem dX6_readNumber_104 : decode cX6_readNumber 104 = .ok (.iload 4, 2) := by decide +kernel
theorem dX6_readNumber_106 : decode cX6_readNumber 106 = .ok (.ifCond .ne 15, 3) := by decide +kernel
theorem dX6_readNumber_109 : decode cX6_readNumber 109 = .ok (.aload_n 0, 1) := by decide +kernel
theorem dX6_readNumber_110 : decode cX6_readNumber 110 = .ok (.iconst 1, 1) := by decide +kernel
theorem dX6_readNumber_111 : decode cX6_readNumber 111 = .ok (.aload_n 0, 1) := by decide +kernel
theorem dX6_readNumber_112 : decode cX6_readNumber 112 = .ok (.getfield 99, 3) := by decide +kernel
theorem dX6_readNumber_115 : decode cX6_readNumber 115 = .ok (.invokevirtual 52, 3) := by decide +kernel
theorem dX6_readNumber_118 : decode cX6_readNumber 118 = .ok (.goto 28, 3) := by decide +kernel
theorem dX6_readNumber_121 : decode cX6_readNumber 121 = .ok (.iload 4, 2) := by decide +kernel
theorem dX6_readNumber_123 : decode cX6_readNumber 123 = .ok (.iconst 3, 1) := by decide +kernel
theorem dX6_readNumber_124 : decode cX6_readNumber 124 = .ok (.if_icmp .gt 13, 3) := by decide +kernel
theorem dX6_readNumber_127 : decode cX6_readNumber 127 = .ok (.iload_n 3, 1) := by decide +kernel
theorem dX6_readNumber_128 : decode cX6_readNumber 128 = .ok (.iload_n 1, 1) := by decide +kernel
theorem dX6_readNumber_129 : decode cX6_readNumber 129 = .ok (.if_icmp .lt 8, 3) := by decide +kernel
theorem dX6_readNumber_132 : decode cX6_readNumber 132 = .ok (.iload_n 3, 1) := by decide +kernel
theorem dX6_readNumber_133 : decode cX6_readNumber 133 = .ok (.iload_n 2, 1) := by decide +kernel
theorem dX6_readNumber_134 : decode cX6_readNumber 134 = .ok (.if_icmp .le 12, 3) := by decide +kernel
theorem dX6_readNumber_137 : decode cX6_readNumber 137 = .ok (.aload_n 0, 1) := by decide +kernel
theorem dX6_readNumber_138 : decode cX6_readNumber 138 = .ok (.iconst 2, 1) := by decide +kernel
theorem dX6_readNumber_139 : decode cX6_readNumber 139 = .ok (.aload_n 0, 1) := by decide +kernel
theorem dX6_readNumber_140 : decode cX6_readNumber 140 = .ok (.getfield 99, 3) := by decide +kernel
theorem dX6_readNumber_143 : decode cX6_readNumber 143 = .ok (.invokevirtual 52, 3) := by decide +kernel
theorem dX6_readNumber_146 : decode cX6_readNumber 146 = .ok (.iload_n 3, 1) := by decide +kernel
theorem dX6_readNumber_147 : decode cX6_readNumber 147 = .ok (.ireturn, 1) := by decide +kernel
theorem dX6_readSign_0 : decode cX6_readSign 0 = .ok (.aload_n 0, 1) := by decide +kernel
theorem dX6_readSign_1 : decode cX6_readSign 1 = .ok (.getfield 35, 3) := by decide +kernel
theorem dX6_readSign_4 : decode cX6_readSign 4 = .ok (.ifCond .eq 4, 3) := by decide +kernel
theorem dX6_readSign_7 : decode cX6_readSign 7 = .ok (.return_, 1) := by decide +kernel
theorem dX6_readSign_8 : decode cX6_readSign 8 = .ok (.aload_n 0, 1) := by decide +kernel
theorem dX6_readSign_9 : decode cX6_readSign 9 = .ok (.invokevirtual 42, 3) := by decide +kernel
theorem dX6_readSign_12 : decode cX6_readSign 12 = .ok (.aload_n 0, 1) := by decide +kernel
theorem dX6_readSign_13 : decode cX6_readSign 13 = .ok (.getfield 32, 3) := by decide +kernel
theorem dX6_readSign_16 : decode cX6_readSign 16 = .ok (.aload_n 0, 1) := by decide +kernel
theorem dX6_readSign_17 : decode cX6_readSign 17 = .ok (.getfield 26, 3) := by decide +kernel
theorem dX6_readSign_20 : decode cX6_readSign 20 = .ok (.if_icmp .ge 29, 3) := by decide +kernel
theorem dX6_readSign_23 : decode cX6_readSign 23 = .ok (.aload_n 0, 1) := by decide +kernel
theorem dX6_readSign_24 : decode cX6_readSign 24 = .ok (.getfield 22, 3) := by decide +kernel
theorem dX6_readSign_27 : decode cX6_readSign 27 = .ok (.aload_n 0, 1) := by decide +kernel
theorem dX6_readSign_28 : decode cX6_readSign 28 = .ok (.getfield 32, 3) := by decide +kernel
theorem dX6_readSign_31 : decode cX6_readSign 31 = .ok (.iaload, 1) := by decide +kernel
theorem dX6_readSign_32 : decode cX6_readSign 32 = .ok (.iload_n 1, 1) := by decide +kernel
theorem dX6_readSign_33 : decode cX6_readSign 33 = .ok (.if_icmp .ne 16, 3) := by decide +kernel
theorem dX6_readSign_36 : decode cX6_readSign 36 = .ok (.aload_n 0, 1) := by decide +kernel
theorem dX6_readSign_37 : decode cX6_readSign 37 = .ok (.dup, 1) := by decide +kernel
theorem dX6_readSign_38 : decode cX6_readSign 38 = .ok (.getfield 32, 3) := by decide +kernel
theorem dX6_readSign_41 : decode cX6_readSign 41 = .ok (.iconst 1, 1) := by decide +kernel
theorem dX6_readSign_42 : decode cX6_readSign 42 = .ok (.iadd, 1) := by decide +kernel
theorem dX6_readSign_43 : decode cX6_readSign 43 = .ok (.putfield 32, 3) := by decide +kernel
theorem dX6_readSign_46 : decode cX6_readSign 46 = .ok (.goto 12, 3) := by decide +kernel
theorem dX6_readSign_49 : decode cX6_readSign 49 = .ok (.aload_n 0, 1) := by decide +kernel
theorem dX6_readSign_50 : decode cX6_readSign 50 = .ok (.iconst 1, 1) := by decide +kernel
theorem dX6_readSign_51 : decode cX6_readSign 51 = .ok (.aload_n 0, 1) := by decide +kernel
theorem dX6_readSign_52 : decode cX6_readSign 52 = .ok (.getfield 32, 3) := by decide +kernel
theorem dX6_readSign_55 : decode cX6_readSign 55 = .ok (.invokevirtual 52, 3) := by decide +kernel
theorem dX6_readSign_58 : decode cX6_readSign 58 = .ok (.return_, 1) := by decide +kernel
theorem dX6_skipBlanks_0 : decode cX6_skipBlanks 0 = .ok (.aload_n 0, 1) := by decide +kernel
theorem dX6_skipBlanks_1 : decode cX6_skipBlanks 1 = .ok (.getfield 32, 3) := by decide +kernel
theorem dX6_skipBlanks_4 : decode cX6_skipBlanks 4 = .ok (.aload_n 0, 1) := by decide +kernel
theorem dX6_skipBlanks_5 : decode cX6_skipBlanks 5 = .ok (.getfield 26, 3) := by decide +kernel
theorem dX6_skipBlanks_8 : decode cX6_skipBlanks 8 = .ok (.if_icmp .ge 30, 3) := by decide +kernel
theorem dX6_skipBlanks_11 : decode cX6_skipBlanks 11 = .ok (.aload_n 0, 1) := by decide +kernel
theorem dX6_skipBlanks_12 : decode cX6_skipBlanks 12 = .ok (.getfield 22, 3) := by decide +kernel
theorem dX6_skipBlanks_15 : decode cX6_skipBlanks 15 = .ok (.aload_n 0, 1) := by decide +kernel
theorem dX6_skipBlanks_16 : decode cX6_skipBlanks 16 = .ok (.getfield 32, 3) := by decide +kernel
theorem dX6_skipBlanks_19 : decode cX6_skipBlanks 19 = .ok (.iaload, 1) := by decide +kernel
theorem dX6_skipBlanks_20 : decode cX6_skipBlanks 20 = .ok (.bipush 32, 2) := by decide +kernel
theorem dX6_skipBlanks_22 : decode cX6_skipBlanks 22 = .ok (.if_icmp .ne 16, 3) := by decide +kernel
theorem dX6_skipBlanks_25 : decode cX6_skipBlanks 25 = .ok (.aload_n 0, 1) := by decide +kernel
theorem dX6_skipBlanks_26 : decode cX6_skipBlanks 26 = .ok (.dup, 1) := by decide +kernel
theorem dX6_skipBlanks_27 : decode cX6_skipBlanks 27 = .ok (.getfield 32, 3) := by decide +kernel
theorem dX6_skipBlanks_30 : decode cX6_skipBlanks 30 = .ok (.iconst 1, 1) := by decide +kernel
theorem dX6_skipBlanks_31 : decode cX6_skipBlanks 31 = .ok (.iadd, 1) := by decide +kernel
theorem dX6_skipBlanks_32 : decode cX6_skipBlanks 32 = .ok (.putfield 32, 3) := by decide +kernel
theorem dX6_skipBlanks_35 : decode cX6_skipBlanks 35 = .ok (.goto (-35), 3) := by decide +kernel
theorem dX6_skipBlanks_38 : decode cX6_skipBlanks 38 = .ok (.return_, 1) := by decide +kernel
theorem dX6_fail_0 : decode cX6_fail 0 = .ok (.aload_n 0, 1) := by decide +kernel
theorem dX6_fail_1 : decode cX6_fail 1 = .ok (.getfield 35, 3) := by decide +kernel
theorem dX6_fail_4 : decode cX6_fail 4 = .ok (.ifCond .ne 13, 3) := by decide +kernel
theorem dX6_fail_7 : decode cX6_fail 7 = .ok (.aload_n 0, 1) := by decide +kernel
theorem dX6_fail_8 : decode cX6_fail 8 = .ok (.iload_n 1, 1) := by decide +kernel
theorem dX6_fail_9 : decode cX6_fail 9 = .ok (.putfield 35, 3) := by decide +kernel
theorem dX6_fail_12 : decode cX6_fail 12 = .ok (.aload_n 0, 1) := by decide +kernel
theorem dX6_fail_13 : decode cX6_fail 13 = .ok (.iload_n 2, 1) := by decide +kernel
theorem dX6_fail_14 : decode cX6_fail 14 = .ok (.putfield 9, 3) := by decide +kernel
theorem dX6_fail_17 : decode cX6_fail 17 = .ok (.return_, 1) := by decide +kernel
theorem dX6_isFigure_0 : decode cX6_isFigure 0 = .ok (.iload_n 0, 1) := by decide +kernel
theorem dX6_isFigure_1 : decode cX6_isFigure 1 = .ok (.bipush 48, 2) := by decide +kernel
theorem dX6_isFigure_3 : decode cX6_isFigure 3 = .ok (.if_icmp .lt 13, 3) := by decide +kernel
theorem dX6_isFigure_6 : decode cX6_isFigure 6 = .ok (.iload_n 0, 1) := by decide +kernel
theorem dX6_isFigure_7 : decode cX6_isFigure 7 = .ok (.bipush 57, 2) := by decide +kernel
theorem dX6_isFigure_9 : decode cX6_isFigure 9 = .ok (.if_icmp .gt 7, 3) := by decide +kernel
theorem dX6_isFigure_12 : decode cX6_isFigure 12 = .ok (.iconst 1, 1) := by decide +kernel
theorem dX6_isFigure_13 : decode cX6_isFigure 13 = .ok (.goto 4, 3) := by decide +kernel
theorem dX6_isFigure_16 : decode cX6_isFigure 16 = .ok (.iconst 0, 1) := by decide +kernel
theorem dX6_isFigure_17 : decode cX6_isFigure 17 = .ok (.ireturn, 1) := by decide +kernel
theorem dX7_init_0 : decode cX7_init 0 = .ok (.aload_n 0, 1) := by decide +kernel
theorem dX7_init_1 : decode cX7_init 1 = .ok (.invokespecial 3, 3) := by decide +kernel
theorem dX7_init_4 : decode cX7_init 4 = .ok (.aload_n 0, 1) := by decide +kernel
theorem dX7_init_5 : decode cX7_init 5 = .ok (.new 9, 3) := by decide +kernel
theorem dX7_init_8 : decode cX7_init 8 = .ok (.dup, 1) := by decide +kernel
theorem dX7_init_9 : decode cX7_init 9 = .ok (.invokespecial 11, 3) := by decide +kernel
theorem dX7_init_12 : decode cX7_init 12 = .ok (.putfield 12, 3) := by decide +kernel
theorem dX7_init_15 : decode cX7_init 15 = .ok (.aload_n 0, 1) := by decide +kernel
theorem dX7_init_16 : decode cX7_init 16 = .ok (.bipush 7, 2) := by decide +kernel
theorem dX7_init_18 : decode cX7_init 18 = .ok (.newarray .int, 2) := by decide +kernel
theorem dX7_init_20 : decode cX7_init 20 = .ok (.putfield 18, 3) := by decide +kernel
theorem dX7_init_23 : decode cX7_init 23 = .ok (.aload_n 0, 1) := by decide +kernel
theorem dX7_init_24 : decode cX7_init 24 = .ok (.bipush 7, 2) := by decide +kernel
theorem dX7_init_26 : decode cX7_init 26 = .ok (.newarray .int, 2) := by decide +kernel
theorem dX7_init_28 : decode cX7_init 28 = .ok (.putfield 22, 3) := by decide +kernel
theorem dX7_init_31 : decode cX7_init 31 = .ok (.aload_n 0, 1) := by decide +kernel
theorem dX7_init_32 : decode cX7_init 32 = .ok (.bipush 7, 2) := by decide +kernel
theorem dX7_init_34 : decode cX7_init 34 = .ok (.newarray .int, 2) := by decide +kernel
theorem dX7_init_36 : decode cX7_init 36 = .ok (.putfield 25, 3) := by decide +kernel
theorem dX7_init_39 : decode cX7_init 39 = .ok (.return_, 1) := by decide +kernel
theorem dX7_hasDream_0 : decode cX7_hasDream 0 = .ok (.iload_n 1, 1) := by decide +kernel
theorem dX7_hasDream_1 : decode cX7_hasDream 1 = .ok (.ifCond .lt 15, 3) := by decide +kernel
theorem dX7_hasDream_4 : decode cX7_hasDream 4 = .ok (.iload_n 1, 1) := by decide +kernel
theorem dX7_hasDream_5 : decode cX7_hasDream 5 = .ok (.aload_n 0, 1) := by decide +kernel
theorem dX7_hasDream_6 : decode cX7_hasDream 6 = .ok (.getfield 28, 3) := by decide +kernel
theorem dX7_hasDream_9 : decode cX7_hasDream 9 = .ok (.if_icmp .ge 7, 3) := by decide +kernel
theorem dX7_hasDream_12 : decode cX7_hasDream 12 = .ok (.iconst 1, 1) := by decide +kernel
theorem dX7_hasDream_13 : decode cX7_hasDream 13 = .ok (.goto 4, 3) := by decide +kernel
theorem dX7_hasDream_16 : decode cX7_hasDream 16 = .ok (.iconst 0, 1) := by decide +kernel
theorem dX7_hasDream_17 : decode cX7_hasDream 17 = .ok (.ireturn, 1) := by decide +kernel
theorem dX7_hasSleeper_0 : decode cX7_hasSleeper 0 = .ok (.iload_n 1, 1) := by decide +kernel
theorem dX7_hasSleeper_1 : decode cX7_hasSleeper 1 = .ok (.ifCond .lt 15, 3) := by decide +kernel
theorem dX7_hasSleeper_4 : decode cX7_hasSleeper 4 = .ok (.iload_n 1, 1) := by decide +kernel
theorem dX7_hasSleeper_5 : decode cX7_hasSleeper 5 = .ok (.aload_n 0, 1) := by decide +kernel
theorem dX7_hasSleeper_6 : decode cX7_hasSleeper 6 = .ok (.getfield 32, 3) := by decide +kernel
theorem dX7_hasSleeper_9 : decode cX7_hasSleeper 9 = .ok (.if_icmp .ge 7, 3) := by decide +kernel
theorem dX7_hasSleeper_12 : decode cX7_hasSleeper 12 = .ok (.iconst 1, 1) := by decide +kernel
theorem dX7_hasSleeper_13 : decode cX7_hasSleeper 13 = .ok (.goto 4, 3) := by decide +kernel
theorem dX7_hasSleeper_16 : decode cX7_hasSleeper 16 = .ok (.iconst 0, 1) := by decide +kernel
theorem dX7_hasSleeper_17 : decode cX7_hasSleeper 17 = .ok (.ireturn, 1) := by decide +kernel
theorem dX7_hasLoaf_0 : decode cX7_hasLoaf 0 = .ok (.iload_n 1, 1) := by decide +kernel
theorem dX7_hasLoaf_1 : decode cX7_hasLoaf 1 = .ok (.ifCond .lt 15, 3) := by decide +kernel
theorem dX7_hasLoaf_4 : decode cX7_hasLoaf 4 = .ok (.iload_n 1, 1) := by decide +kernel
theorem dX7_hasLoaf_5 : decode cX7_hasLoaf 5 = .ok (.aload_n 0, 1) := by decide +kernel
theorem dX7_hasLoaf_6 : decode cX7_hasLoaf 6 = .ok (.getfield 35, 3) := by decide +kernel
theorem dX7_hasLoaf_9 : decode cX7_hasLoaf 9 = .ok (.if_icmp .ge 7, 3) := by decide +kernel
theorem dX7_hasLoaf_12 : decode cX7_hasLoaf 12 = .ok (.iconst 1, 1) := by decide +kernel
theorem dX7_hasLoaf_13 : decode cX7_hasLoaf 13 = .ok (.goto 4, 3) := by decide +kernel
theorem dX7_hasLoaf_16 : decode cX7_hasLoaf 16 = .ok (.iconst 0, 1) := by decide +kernel
theorem dX7_hasLoaf_17 : decode cX7_hasLoaf 17 = .ok (.ireturn, 1) := by decide +kernel
theorem dX7_clear_0 : decode cX7_clear 0 = .ok (.aload_n 0, 1) := by decide +kernel
theorem dX7_clear_1 : decode cX7_clear 1 = .ok (.iconst 0, 1) := by decide +kernel
theorem dX7_clear_2 : decode cX7_clear 2 = .ok (.putfield 28, 3) := by decide +kernel
theorem dX7_clear_5 : decode cX7_clear 5 = .ok (.aload_n 0, 1) := by decide +kernel
theorem dX7_clear_6 : decode cX7_clear 6 = .ok (.iconst 0, 1) := by decide +kernel
theorem dX7_clear_7 : decode cX7_clear 7 = .ok (.putfield 38, 3) := by decide +kernel
theorem dX7_clear_10 : decode cX7_clear 10 = .ok (.aload_n 0, 1) := by decide +kernel
theorem dX7_clear_11 : decode cX7_clear 11 = .ok (.iconst 0, 1) := by decide +kernel
theorem dX7_clear_12 : decode cX7_clear 12 = .ok (.putfield 32, 3) := by decide +kernel
theorem dX7_clear_15 : decode cX7_clear 15 = .ok (.aload_n 0, 1) := by decide +kernel
theorem dX7_clear_16 : decode cX7_clear 16 = .ok (.iconst 0, 1) := by decide +kernel
theorem dX7_clear_17 : decode cX7_clear 17 = .ok (.putfield 35, 3) := by decide +kernel
theorem dX7_clear_20 : decode cX7_clear 20 = .ok (.aload_n 0, 1) := by decide +kernel
theorem dX7_clear_21 : decode cX7_clear 21 = .ok (.iconst 0, 1) := by decide +kernel
theorem dX7_clear_22 : decode cX7_clear 22 = .ok (.putfield 41, 3) := by decide +kernel
theorem dX7_clear_25 : decode cX7_clear 25 = .ok (.aload_n 0, 1) := by decide +kernel
theorem dX7_clear_26 : decode cX7_clear 26 = .ok (.getfield 12, 3) := by decide +kernel
theorem dX7_clear_29 : decode cX7_clear 29 = .ok (.invokevirtual 44, 3) := by decide +kernel
theorem dX7_clear_32 : decode cX7_clear 32 = .ok (.return_, 1) := by decide +kernel
theorem dX7_become_0 : decode cX7_become 0 = .ok (.aload_n 0, 1) := by decide +kernel
theorem dX7_become_1 : decode cX7_become 1 = .ok (.aload_n 1, 1) := by decide +kernel
theorem dX7_become_2 : decode cX7_become 2 = .ok (.getfield 28, 3) := by decide +kernel
theorem dX7_become_5 : decode cX7_become 5 = .ok (.putfield 28, 3) := by decide +kernel
theorem dX7_become_8 : decode cX7_become 8 = .ok (.aload_n 0, 1) := by decide +kernel
theorem dX7_become_9 : decode cX7_become 9 = .ok (.aload_n 1, 1) := by decide +kernel
theorem dX7_become_10 : decode cX7_become 10 = .ok (.getfield 38, 3) := by decide +kernel
theorem dX7_become_13 : decode cX7_become 13 = .ok (.putfield 38, 3) := by decide +kernel
theorem dX7_become_16 : decode cX7_become 16 = .ok (.aload_n 0, 1) := by decide +kernel
theorem dX7_become_17 : decode cX7_become 17 = .ok (.aload_n 1, 1) := by decide +kernel
theorem dX7_become_18 : decode cX7_become 18 = .ok (.getfield 32, 3) := by decide +kernel
theorem dX7_become_21 : decode cX7_become 21 = .ok (.putfield 32, 3) := by decide +kernel
theorem dX7_become_24 : decode cX7_become 24 = .ok (.aload_n 0, 1) := by decide +kernel
theorem dX7_become_25 : decode cX7_become 25 = .ok (.aload_n 1, 1) := by decide +kernel
theorem dX7_become_26 : decode cX7_become 26 = .ok (.getfield 35, 3) := by decide +kernel
theorem dX7_become_29 : decode cX7_become 29 = .ok (.putfield 35, 3) := by decide +kernel
theorem dX7_become_32 : decode cX7_become 32 = .ok (.aload_n 0, 1) := by decide +kernel
theorem dX7_become_33 : decode cX7_become 33 = .ok (.aload_n 1, 1) := by decide +kernel
theorem dX7_become_34 : decode cX7_become 34 = .ok (.getfield 41, 3) := by decide +kernel
theorem dX7_become_37 : decode cX7_become 37 = .ok (.putfield 41, 3) := by decide +kernel
theorem dX7_become_40 : decode cX7_become 40 = .ok (.aload_n 0, 1) := by decide +kernel
theorem dX7_become_41 : decode cX7_become 41 = .ok (.getfield 12, 3) := by decide +kernel
theorem dX7_become_44 : decode cX7_become 44 = .ok (.aload_n 1, 1) := by decide +kernel
theorem dX7_become_45 : decode cX7_become 45 = .ok (.getfield 12, 3) := by decide +kernel
theorem dX7_become_48 : decode cX7_become 48 = .ok (.invokevirtual 47, 3) := by decide +kernel
theorem dX7_become_51 : decode cX7_become 51 = .ok (.aload_n 1, 1) := by decide +kernel
theorem dX7_become_52 : decode cX7_become 52 = .ok (.getfield 18, 3) := by decide +kernel
theorem dX7_become_55 : decode cX7_become 55 = .ok (.iconst 0, 1) := by decide +kernel
theorem dX7_become_56 : decode cX7_become 56 = .ok (.aload_n 0, 1) := by decide +kernel
theorem dX7_become_57 : decode cX7_become 57 = .ok (.getfield 18, 3) := by decide +kernel
theorem dX7_become_60 : decode cX7_become 60 = .ok (.iconst 0, 1) := by decide +kernel
theorem dX7_become_61 : decode cX7_become 61 = .ok (.bipush 7, 2) := by decide +kernel
theorem dX7_become_63 : decode cX7_become 63 = .ok (.invokestatic 51, 3) := by decide +kernel
theorem dX7_become_66 : decode cX7_become 66 = .ok (.aload_n 1, 1) := by decide +kernel
theorem dX7_become_67 : decode cX7_become 67 = .ok (.getfield 22, 3) := by decide +kernel
theorem dX7_become_70 : decode cX7_become 70 = .ok (.iconst 0, 1) := by decide +kernel
theorem dX7_become_71 : decode cX7_become 71 = .ok (.aload_n 0, 1) := by decide +kernel
theorem dX7_become_72 : decode cX7_become 72 = .ok (.getfield 22, 3) := by decide +kernel
theorem dX7_become_75 : decode cX7_become 75 = .ok (.iconst 0, 1) := by decide +kernel
theorem dX7_become_76 : decode cX7_become 76 = .ok (.bipush 7, 2) := by decide +kernel
theorem dX7_become_78 : decode cX7_become 78 = .ok (.invokestatic 51, 3) := by decide +kernel
theorem dX7_become_81 : decode cX7_become 81 = .ok (.aload_n 1, 1) := by decide +kernel
theorem dX7_become_82 : decode cX7_become 82 = .ok (.getfield 25, 3) := by decide +kernel
theorem dX7_become_85 : decode cX7_become 85 = .ok (.iconst 0, 1) := by decide +kernel
theorem dX7_become_86 : decode cX7_become 86 = .ok (.aload_n 0, 1) := by decide +kernel
theorem dX7_become_87 : decode cX7_become 87 = .ok (.getfield 25, 3) := by decide +kernel
theorem dX7_become_90 : decode cX7_become 90 = .ok (.iconst 0, 1) := by decide +kernel
theorem dX7_become_91 : decode cX7_become 91 = .ok (.bipush 7, 2) := by decide +kernel
theorem dX7_become_93 : decode cX7_become 93 = .ok (.invokestatic 51, 3) := by decide +kernel
theorem dX7_become_96 : decode cX7_become 96 = .ok (.return_, 1) := by decide +kernel
theorem dX8_init_0 : decode cX8_init 0 = .ok (.aload_n 0, 1) := by decide +kernel
theorem dX8_init_1 : decode cX8_init 1 = .ok (.invokespecial 3, 3) := by decide +kernel
theorem dX8_init_4 : decode cX8_init 4 = .ok (.aload_n 0, 1) := by decide +kernel
theorem dX8_init_5 : decode cX8_init 5 = .ok (.bipush 8, 2) := by decide +kernel
theorem dX8_init_7 : decode cX8_init 7 = .ok (.newarray .int, 2) := by decide +kernel
theorem dX8_init_9 : decode cX8_init 9 = .ok (.putfield 9, 3) := by decide +kernel
theorem dX8_init_12 : decode cX8_init 12 = .ok (.return_, 1) := by decide +kernel
theorem dX8_atLeast_0 : decode cX8_atLeast 0 = .ok (.aload_n 0, 1) := by decide +kernel
theorem dX8_atLeast_1 : decode cX8_atLeast 1 = .ok (.getfield 9, 3) := by decide +kernel
theorem dX8_atLeast_4 : decode cX8_atLeast 4 = .ok (.iconst 0, 1) := by decide +kernel
theorem dX8_atLeast_5 : decode cX8_atLeast 5 = .ok (.invokestatic 15, 3) := by decide +kernel
theorem dX8_atLeast_8 : decode cX8_atLeast 8 = .ok (.aload_n 0, 1) := by decide +kernel
theorem dX8_atLeast_9 : decode cX8_atLeast 9 = .ok (.getfield 9, 3) := by decide +kernel
theorem dX8_atLeast_12 : decode cX8_atLeast 12 = .ok (.iconst 0, 1) := by decide +kernel
theorem dX8_atLeast_13 : decode cX8_atLeast 13 = .ok (.ldc 21, 2) := by decide +kernel
theorem dX8_atLeast_15 : decode cX8_atLeast 15 = .ok (.iastore, 1) := by decide +kernel
theorem dX8_atLeast_16 : decode cX8_atLeast 16 = .ok (.iconst 0, 1) := by decide +kernel
theorem dX8_atLeast_17 : decode cX8_atLeast 17 = .ok (.istore 4, 2) := by decide +kernel
theorem dX8_atLeast_19 : decode cX8_atLeast 19 = .ok (.iload 4, 2) := by decide +kernel
theorem dX8_atLeast_21 : decode cX8_atLeast 21 = .ok (.aload_n 1, 1) := by decide +kernel
theorem dX8_atLeast_22 : decode cX8_atLeast 22 = .ok (.getfield 22, 3) := by decide +kernel
theorem dX8_atLeast_25 : decode cX8_atLeast 25 = .ok (.if_icmp .ge 62, 3) := by decide +kernel
theorem dX8_atLeast_28 : decode cX8_atLeast 28 = .ok (.aload_n 2, 1) := by decide +kernel
theorem dX8_atLeast_29 : decode cX8_atLeast 29 = .ok (.getfield 28, 3) := by decide +kernel
theorem dX8_atLeast_32 : decode cX8_atLeast 32 = .ok (.iload 4, 2) := by decide +kernel
theorem dX8_atLeast_34 : decode cX8_atLeast 34 = .ok (.iaload, 1) := by decide +kernel
theorem dX8_atLeast_35 : decode cX8_atLeast 35 = .ok (.istore 5, 2) := by decide +kernel
theorem dX8_atLeast_37 : decode cX8_atLeast 37 = .ok (.iload 5, 2) := by decide +kernel
theorem dX8_atLeast_39 : decode cX8_atLeast 39 = .ok (.iconst (-1), 1) := by decide +kernel
theorem dX8_atLeast_40 : decode cX8_atLeast 40 = .ok (.if_icmp .eq 41, 3) := by decide +kernel
theorem dX8_atLeast_43 : decode cX8_atLeast 43 = .ok (.aload_n 2, 1) := by decide +kernel
theorem dX8_atLeast_44 : decode cX8_atLeast 44 = .ok (.iload 5, 2) := by decide +kernel
theorem dX8_atLeast_46 : decode cX8_atLeast 46 = .ok (.invokevirtual 33, 3) := by decide +kernel
theorem dX8_atLeast_49 : decode cX8_atLeast 49 = .ok (.ifCond .ne 32, 3) := by decide +kernel
theorem dX8_atLeast_52 : decode cX8_atLeast 52 = .ok (.aload_n 0, 1) := by decide +kernel
theorem dX8_atLeast_53 : decode cX8_atLeast 53 = .ok (.aload_n 2, 1) := by decide +kernel
theorem dX8_atLeast_54 : decode cX8_atLeast 54 = .ok (.getfield 37, 3) := by decide +kernel
theorem dX8_atLeast_57 : decode cX8_atLeast 57 = .ok (.iload 5, 2) := by decide +kernel
theorem dX8_atLeast_59 : decode cX8_atLeast 59 = .ok (.aload_n 1, 1) := by decide +kernel
theorem dX8_atLeast_60 : decode cX8_atLeast 60 = .ok (.getfield 41, 3) := by decide +kernel
theorem dX8_atLeast_63 : decode cX8_atLeast 63 = .ok (.iload 4, 2) := by decide +kernel
theorem dX8_atLeast_65 : decode cX8_atLeast 65 = .ok (.iaload, 1) := by decide +kernel
theorem dX8_atLeast_66 : decode cX8_atLeast 66 = .ok (.invokevirtual 44, 3) := by decide +kernel
theorem dX8_atLeast_69 : decode cX8_atLeast 69 = .ok (.aload_n 2, 1) := by decide +kernel
theorem dX8_atLeast_70 : decode cX8_atLeast 70 = .ok (.getfield 37, 3) := by decide +kernel
theorem dX8_atLeast_73 : decode cX8_atLeast 73 = .ok (.iload 5, 2) := by decide +kernel
theorem dX8_atLeast_75 : decode cX8_atLeast 75 = .ok (.invokevirtual 50, 3) := by decide +kernel
theorem dX8_atLeast_78 : decode cX8_atLeast 78 = .ok (.invokevirtual 54, 3) := by decide +kernel
theorem dX8_atLeast_81 : decode cX8_atLeast 81 = .ok (.iinc 4 1, 3) := by decide +kernel
theorem dX8_atLeast_84 : decode cX8_atLeast 84 = .ok (.goto (-65), 3) := by decide +kernel
theorem dX8_atLeast_87 : decode cX8_atLeast 87 = .ok (.iconst 0, 1) := by decide +kernel
theorem dX8_atLeast_88 : decode cX8_atLeast 88 = .ok (.istore 4, 2) := by decide +kernel
theorem dX8_atLeast_90 : decode cX8_atLeast 90 = .ok (.iload_n 3, 1) := by decide +kernel
theorem dX8_atLeast_91 : decode cX8_atLeast 91 = .ok (.istore 5, 2) := by decide +kernel
theorem dX8_atLeast_93 : decode cX8_atLeast 93 = .ok (.iload 5, 2) := by decide +kernel
theorem dX8_atLeast_95 : decode cX8_atLeast 95 = .ok (.bipush 7, 2) := by decide +kernel
theorem dX8_atLeast_97 : decode cX8_atLeast 97 = .ok (.if_icmp .gt 21, 3) := by decide +kernel
theorem dX8_atLeast_100 : decode cX8_atLeast 100 = .ok (.iload 4, 2) := by decide +kernel
theorem dX8_atLeast_102 : decode cX8_atLeast 102 = .ok (.aload_n 0, 1) := by decide +kernel
theorem dX8_atLeast_103 : decode cX8_atLeast 103 = .ok (.getfield 9, 3) := by decide +kernel
theorem dX8_atLeast_106 : decode cX8_atLeast 106 = .ok (.iload 5, 2) := by decide +kernel
theorem dX8_atLeast_108 : decode cX8_atLeast 108 = .ok (.iaload, 1) := by decide +kernel
theorem dX8_atLeast_109 : decode cX8_atLeast 109 = .ok (.iadd, 1) := by decide +kernel
theorem dX8_atLeast_110 : decode cX8_atLeast 110 = .ok (.istore 4, 2) := by decide +kernel
theorem dX8_atLeast_112 : decode cX8_atLeast 112 = .ok (.iinc 5 1, 3) := by decide +kernel
theorem dX8_atLeast_115 : decode cX8_atLeast 115 = .ok (.goto (-22), 3) := by decide +kernel
theorem dX8_atLeast_118 : decode cX8_atLeast 118 = .ok (.iload 4, 2) := by decide +kernel
theorem dX8_atLeast_120 : decode cX8_atLeast 120 = .ok (.ireturn, 1) := by decide +kernel
theorem dX8_spread_0 : decode cX8_spread 0 = .ok (.iload_n 2, 1) := by decide +kernel
theorem dX8_spread_1 : decode cX8_spread 1 = .ok (.ifCond .gt 4, 3) := by decide +kernel
theorem dX8_spread_4 : decode cX8_spread 4 = .ok (.return_, 1) := by decide +kernel
theorem dX8_spread_5 : decode cX8_spread 5 = .ok (.bipush 6, 2) := by decide +kernel
theorem dX8_spread_7 : decode cX8_spread 7 = .ok (.istore_n 3, 1) := by decide +kernel
theorem dX8_spread_8 : decode cX8_spread 8 = .ok (.iload_n 3, 1) := by decide +kernel
theorem dX8_spread_9 : decode cX8_spread 9 = .ok (.ifCond .lt 45, 3) := by decide +kernel
theorem dX8_spread_12 : decode cX8_spread 12 = .ok (.aload_n 0, 1) := by decide +kernel
theorem dX8_spread_13 : decode cX8_spread 13 = .ok (.getfield 9, 3) := by decide +kernel
theorem dX8_spread_16 : decode cX8_spread 16 = .ok (.iload_n 3, 1) := by decide +kernel
theorem dX8_spread_17 : decode cX8_spread 17 = .ok (.iaload, 1) := by decide +kernel
theorem dX8_spread_18 : decode cX8_spread 18 = .ok (.iload_n 1, 1) := by decide +kernel
theorem dX8_spread_19 : decode cX8_spread 19 = .ok (.imul, 1) := by decide +kernel
theorem dX8_spread_20 : decode cX8_spread 20 = .ok (.iload_n 2, 1) := by decide +kernel
theorem dX8_spread_21 : decode cX8_spread 21 = .ok (.idiv, 1) := by decide +kernel
theorem dX8_spread_22 : decode cX8_spread 22 = .ok (.istore 4, 2) := by decide +kernel
theorem dX8_spread_24 : decode cX8_spread 24 = .ok (.aload_n 0, 1) := by decide +kernel
theorem dX8_spread_25 : decode cX8_spread 25 = .ok (.getfield 9, 3) := by decide +kernel
theorem dX8_spread_28 : decode cX8_spread 28 = .ok (.iload_n 3, 1) := by decide +kernel
theorem dX8_spread_29 : decode cX8_spread 29 = .ok (.dup2, 1) := by decide +kernel
theorem dX8_spread_30 : decode cX8_spread 30 = .ok (.iaload, 1) := by decide +kernel
theorem dX8_spread_31 : decode cX8_spread 31 = .ok (.iload 4, 2) := by decide +kernel
theorem dX8_spread_33 : decode cX8_spread 33 = .ok (.isub, 1) := by decide +kernel
theorem dX8_spread_34 : decode cX8_spread 34 = .ok (.iastore, 1) := by decide +kernel
theorem dX8_spread_35 : decode cX8_spread 35 = .ok (.aload_n 0, 1) := by decide +kernel
theorem dX8_spread_36 : decode cX8_spread 36 = .ok (.getfield 9, 3) := by decide +kernel
theorem dX8_spread_39 : decode cX8_spread 39 = .ok (.iload_n 3, 1) := by decide +kernel
theorem dX8_spread_40 : decode cX8_spread 40 = .ok (.iconst 1, 1) := by decide +kernel
theorem dX8_spread_41 : decode cX8_spread 41 = .ok (.iadd, 1) := by decide +kernel
theorem dX8_spread_42 : decode cX8_spread 42 = .ok (.dup2, 1) := by decide +kernel
theorem dX8_spread_43 : decode cX8_spread 43 = .ok (.iaload, 1) := by decide +kernel
theorem dX8_spread_44 : decode cX8_spread 44 = .ok (.iload 4, 2) := by decide +kernel
theorem dX8_spread_46 : decode cX8_spread 46 = .ok (.iadd, 1) := by decide +kernel
theorem dX8_spread_47 : decode cX8_spread 47 = .ok (.iastore, 1) := by decide +kernel
theorem dX8_spread_48 : decode cX8_spread 48 = .ok (.iinc 3 (-1), 3) := by decide +kernel
theorem dX8_spread_51 : decode cX8_spread 51 = .ok (.goto (-43), 3) := by decide +kernel
theorem dX8_spread_54 : decode cX8_spread 54 = .ok (.return_, 1) := by decide +kernel
theorem dX9_init_0 : decode cX9_init 0 = .ok (.aload_n 0, 1) := by decide +kernel
theorem dX9_init_1 : decode cX9_init 1 = .ok (.invokespecial 3, 3) := by decide +kernel
theorem dX9_init_4 : decode cX9_init 4 = .ok (.aload_n 0, 1) := by decide +kernel
theorem dX9_init_5 : decode cX9_init 5 = .ok (.bipush 30, 2) := by decide +kernel
theorem dX9_init_7 : decode cX9_init 7 = .ok (.newarray .int, 2) := by decide +kernel
theorem dX9_init_9 : decode cX9_init 9 = .ok (.putfield 9, 3) := by decide +kernel
theorem dX9_init_12 : decode cX9_init 12 = .ok (.return_, 1) := by decide +kernel
theorem dX9_of_0 : decode cX9_of 0 = .ok (.iload_n 1, 1) := by decide +kernel
theorem dX9_of_1 : decode cX9_of 1 = .ok (.ifCond .lt 22, 3) := by decide +kernel
theorem dX9_of_4 : decode cX9_of 4 = .ok (.iload_n 1, 1) := by decide +kernel
theorem dX9_of_5 : decode cX9_of 5 = .ok (.bipush 6, 2) := by decide +kernel
theorem dX9_of_7 : decode cX9_of 7 = .ok (.if_icmp .ge 16, 3) := by decide +kernel
theorem dX9_of_10 : decode cX9_of 10 = .ok (.iload_n 2, 1) := by decide +kernel
theorem dX9_of_11 : decode cX9_of 11 = .ok (.ifCond .lt 12, 3) := by decide +kernel
theorem dX9_of_14 : decode cX9_of 14 = .ok (.iload_n 2, 1) := by decide +kernel
theorem dX9_of_15 : decode cX9_of 15 = .ok (.iconst 5, 1) := by decide +kernel
theorem dX9_of_16 : decode cX9_of 16 = .ok (.if_icmp .ge 7, 3) := by decide +kernel
theorem dX9_of_19 : decode cX9_of 19 = .ok (.iconst 1, 1) := by decide +kernel
theorem dX9_of_20 : decode cX9_of 20 = .ok (.goto 4, 3) := by decide +kernel
theorem dX9_of_23 : decode cX9_of 23 = .ok (.iconst 0, 1) := by decide +kernel
theorem dX9_of_24 : decode cX9_of 24 = .ok (.istore_n 3, 1) := by decide +kernel
theorem dX9_of_25 : decode cX9_of 25 = .ok (.iload_n 3, 1) := by decide +kernel
theorem dX9_of_26 : decode cX9_of 26 = .ok (.ifCond .eq 16, 3) := by decide +kernel
theorem dX9_of_29 : decode cX9_of 29 = .ok (.aload_n 0, 1) := by decide +kernel
theorem dX9_of_30 : decode cX9_of 30 = .ok (.getfield 9, 3) := by decide +kernel
theorem dX9_of_33 : decode cX9_of 33 = .ok (.iload_n 1, 1) := by decide +kernel
theorem dX9_of_34 : decode cX9_of 34 = .ok (.iconst 5, 1) := by decide +kernel
theorem dX9_of_35 : decode cX9_of 35 = .ok (.imul, 1) := by decide +kernel
theorem dX9_of_36 : decode cX9_of 36 = .ok (.iload_n 2, 1) := by decide +kernel
theorem dX9_of_37 : decode cX9_of 37 = .ok (.iadd, 1) := by decide +kernel
theorem dX9_of_38 : decode cX9_of 38 = .ok (.iaload, 1) := by decide +kernel
theorem dX9_of_39 : decode cX9_of 39 = .ok (.goto 4, 3) := by decide +kernel
theorem dX9_of_42 : decode cX9_of 42 = .ok (.iconst 0, 1) := by decide +kernel
theorem dX9_of_43 : decode cX9_of 43 = .ok (.ireturn, 1) := by decide +kernel
theorem dX9_put_0 : decode cX9_put 0 = .ok (.iload_n 1, 1) := by decide +kernel
theorem dX9_put_1 : decode cX9_put 1 = .ok (.ifCond .lt 29, 3) := by decide +kernel
theorem dX9_put_4 : decode cX9_put 4 = .ok (.iload_n 1, 1) := by decide +kernel
theorem dX9_put_5 : decode cX9_put 5 = .ok (.bipush 6, 2) := by decide +kernel
theorem dX9_put_7 : decode cX9_put 7 = .ok (.if_icmp .ge 23, 3) := by decide +kernel
theorem dX9_put_10 : decode cX9_put 10 = .ok (.iload_n 2, 1) := by decide +kernel
theorem dX9_put_11 : decode cX9_put 11 = .ok (.ifCond .lt 19, 3) := by decide +kernel
theorem dX9_put_14 : decode cX9_put 14 = .ok (.iload_n 2, 1) := by decide +kernel
theorem dX9_put_15 : decode cX9_put 15 = .ok (.iconst 5, 1) := by decide +kernel
theorem dX9_put_16 : decode cX9_put 16 = .ok (.if_icmp .ge 14, 3) := by decide +kernel
theorem dX9_put_19 : decode cX9_put 19 = .ok (.aload_n 0, 1) := by decide +kernel
theorem dX9_put_20 : decode cX9_put 20 = .ok (.getfield 9, 3) := by decide +kernel
theorem dX9_put_23 : decode cX9_put 23 = .ok (.iload_n 1, 1) := by decide +kernel
theorem dX9_put_24 : decode cX9_put 24 = .ok (.iconst 5, 1) := by decide +kernel
theorem dX9_put_25 : decode cX9_put 25 = .ok (.imul, 1) := by decide +kernel
theorem dX9_put_26 : decode cX9_put 26 = .ok (.iload_n 2, 1) := by decide +kernel
theorem dX9_put_27 : decode cX9_put 27 = .ok (.iadd, 1) := by decide +kernel
theorem dX9_put_28 : decode cX9_put 28 = .ok (.iload_n 3, 1) := by decide +kernel
theorem dX9_put_29 : decode cX9_put 29 = .ok (.iastore, 1) := by decide +kernel
theorem dX9_put_30 : decode cX9_put 30 = .ok (.return_, 1) := by decide +kernel
theorem dX9_all_0 : decode cX9_all 0 = .ok (.iconst 0, 1) := by decide +kernel
theorem dX9_all_1 : decode cX9_all 1 = .ok (.istore_n 2, 1) := by decide +kernel
theorem dX9_all_2 : decode cX9_all 2 = .ok (.iload_n 1, 1) := by decide +kernel
theorem dX9_all_3 : decode cX9_all 3 = .ok (.ifCond .lt 35, 3) := by decide +kernel
theorem dX9_all_6 : decode cX9_all 6 = .ok (.iload_n 1, 1) := by decide +kernel
theorem dX9_all_7 : decode cX9_all 7 = .ok (.bipush 6, 2) := by decide +kernel
theorem dX9_all_9 : decode cX9_all 9 = .ok (.if_icmp .ge 29, 3) := by decide +kernel
theorem dX9_all_12 : decode cX9_all 12 = .ok (.iconst 0, 1) := by decide +kernel
theorem dX9_all_13 : decode cX9_all 13 = .ok (.istore_n 3, 1) := by decide +kernel
theorem dX9_all_14 : decode cX9_all 14 = .ok (.iload_n 3, 1) := by decide +kernel
theorem dX9_all_15 : decode cX9_all 15 = .ok (.iconst 5, 1) := by decide +kernel
theorem dX9_all_16 : decode cX9_all 16 = .ok (.if_icmp .ge 22, 3) := by decide +kernel
theorem dX9_all_19 : decode cX9_all 19 = .ok (.iload_n 2, 1) := by decide +kernel
theorem dX9_all_20 : decode cX9_all 20 = .ok (.aload_n 0, 1) := by decide +kernel
theorem dX9_all_21 : decode cX9_all 21 = .ok (.getfield 9, 3) := by decide +kernel
theorem dX9_all_24 : decode cX9_all 24 = .ok (.iload_n 1, 1) := by decide +kernel
theorem dX9_all_25 : decode cX9_all 25 = .ok (.iconst 5, 1) := by decide +kernel
theorem dX9_all_26 : decode cX9_all 26 = .ok (.imul, 1) := by decide +kernel
theorem dX9_all_27 : decode cX9_all 27 = .ok (.iload_n 3, 1) := by decide +kernel
theorem dX9_all_28 : decode cX9_all 28 = .ok (.iadd, 1) := by decide +kernel
theorem dX9_all_29 : decode cX9_all 29 = .ok (.iaload, 1) := by decide +kernel
theorem dX9_all_30 : decode cX9_all 30 = .ok (.iadd, 1) := by decide +kernel
theorem dX9_all_31 : decode cX9_all 31 = .ok (.istore_n 2, 1) := by decide +kernel
theorem dX9_all_32 : decode cX9_all 32 = .ok (.iinc 3 1, 3) := by decide +kernel
theorem dX9_all_35 : decode cX9_all 35 = .ok (.goto (-21), 3) := by decide +kernel
theorem dX9_all_38 : decode cX9_all 38 = .ok (.iload_n 2, 1) := by decide +kernel
theorem dX9_all_39 : decode cX9_all 39 = .ok (.ireturn, 1) := by decide +kernel
theorem dX9_top_0 : decode cX9_top 0 = .ok (.iconst 0, 1) := by decide +kernel
theorem dX9_top_1 : decode cX9_top 1 = .ok (.istore_n 2, 1) := by decide +kernel
theorem dX9_top_2 : decode cX9_top 2 = .ok (.iload_n 1, 1) := by decide +kernel
theorem dX9_top_3 : decode cX9_top 3 = .ok (.ifCond .lt 51, 3) := by decide +kernel
theorem dX9_top_6 : decode cX9_top 6 = .ok (.iload_n 1, 1) := by decide +kernel
theorem dX9_top_7 : decode cX9_top 7 = .ok (.bipush 6, 2) := by decide +kernel
theorem dX9_top_9 : decode cX9_top 9 = .ok (.if_icmp .ge 45, 3) := by decide +kernel
theorem dX9_top_12 : decode cX9_top 12 = .ok (.iload_n 1, 1) := by decide +kernel
theorem dX9_top_13 : decode cX9_top 13 = .ok (.iconst 5, 1) := by decide +kernel
theorem dX9_top_14 : decode cX9_top 14 = .ok (.imul, 1) := by decide +kernel
theorem dX9_top_15 : decode cX9_top 15 = .ok (.istore_n 3, 1) := by decide +kernel
theorem dX9_top_16 : decode cX9_top 16 = .ok (.iconst 1, 1) := by decide +kernel
theorem dX9_top_17 : decode cX9_top 17 = .ok (.istore 4, 2) := by decide +kernel
theorem dX9_top_19 : decode cX9_top 19 = .ok (.iload 4, 2) := by decide +kernel
theorem dX9_top_21 : decode cX9_top 21 = .ok (.iconst 5, 1) := by decide +kernel
theorem dX9_top_22 : decode cX9_top 22 = .ok (.if_icmp .ge 32, 3) := by decide +kernel
theorem dX9_top_25 : decode cX9_top 25 = .ok (.aload_n 0, 1) := by decide +kernel
theorem dX9_top_26 : decode cX9_top 26 = .ok (.getfield 9, 3) := by decide +kernel
theorem dX9_top_29 : decode cX9_top 29 = .ok (.iload_n 3, 1) := by decide +kernel
theorem dX9_top_30 : decode cX9_top 30 = .ok (.iload 4, 2) := by decide +kernel
theorem dX9_top_32 : decode cX9_top 32 = .ok (.iadd, 1) := by decide +kernel
theorem dX9_top_33 : decode cX9_top 33 = .ok (.iaload, 1) := by decide +kernel
theorem dX9_top_34 : decode cX9_top 34 = .ok (.aload_n 0, 1) := by decide +kernel
theorem dX9_top_35 : decode cX9_top 35 = .ok (.getfield 9, 3) := by decide +kernel
theorem dX9_top_38 : decode cX9_top 38 = .ok (.iload_n 3, 1) := by decide +kernel
theorem dX9_top_39 : decode cX9_top 39 = .ok (.iload_n 2, 1) := by decide +kernel
theorem dX9_top_40 : decode cX9_top 40 = .ok (.iadd, 1) := by decide +kernel
theorem dX9_top_41 : decode cX9_top 41 = .ok (.iaload, 1) := by decide +kernel
theorem dX9_top_42 : decode cX9_top 42 = .ok (.if_icmp .le 6, 3) := by decide +kernel
theorem dX9_top_45 : decode cX9_top 45 = .ok (.iload 4, 2) := by decide +kernel
theorem dX9_top_47 : decode cX9_top 47 = .ok (.istore_n 2, 1) := by decide +kernel
theorem dX9_top_48 : decode cX9_top 48 = .ok (.iinc 4 1, 3) := by decide +kernel
theorem dX9_top_51 : decode cX9_top 51 = .ok (.goto (-32), 3) := by decide +kernel
theorem dX9_top_54 : decode cX9_top 54 = .ok (.iload_n 2, 1) := by decide +kernel
theorem dX9_top_55 : decode cX9_top 55 = .ok (.ireturn, 1) := by decide +kernel
theorem dX9_grow_0 : decode cX9_grow 0 = .ok (.aload_n 0, 1) := by decide +kernel
theorem dX9_grow_1 : decode cX9_grow 1 = .ok (.iload_n 1, 1) := by decide +kernel
theorem dX9_grow_2 : decode cX9_grow 2 = .ok (.iload_n 2, 1) := by decide +kernel
theorem dX9_grow_3 : decode cX9_grow 3 = .ok (.invokevirtual 15, 3) := by decide +kernel
theorem dX9_grow_6 : decode cX9_grow 6 = .ok (.istore 4, 2) := by decide +kernel
theorem dX9_grow_8 : decode cX9_grow 8 = .ok (.bipush 9, 2) := by decide +kernel
theorem dX9_grow_10 : decode cX9_grow 10 = .ok (.iload 4, 2) := by decide +kernel
theorem dX9_grow_12 : decode cX9_grow 12 = .ok (.iload_n 3, 1) := by decide +kernel
theorem dX9_grow_13 : decode cX9_grow 13 = .ok (.iadd, 1) := by decide +kernel
theorem dX9_grow_14 : decode cX9_grow 14 = .ok (.invokestatic 19, 3) := by decide +kernel
theorem dX9_grow_17 : decode cX9_grow 17 = .ok (.istore 5, 2) := by decide +kernel
theorem dX9_grow_19 : decode cX9_grow 19 = .ok (.aload_n 0, 1) := by decide +kernel
theorem dX9_grow_20 : decode cX9_grow 20 = .ok (.iload_n 1, 1) := by decide +kernel
theorem dX9_grow_21 : decode cX9_grow 21 = .ok (.iload_n 2, 1) := by decide +kernel
theorem dX9_grow_22 : decode cX9_grow 22 = .ok (.iload 5, 2) := by decide +kernel
theorem dX9_grow_24 : decode cX9_grow 24 = .ok (.invokevirtual 24, 3) := by decide +kernel
theorem dX9_grow_27 : decode cX9_grow 27 = .ok (.iload 5, 2) := by decide +kernel
theorem dX9_grow_29 : decode cX9_grow 29 = .ok (.iload 4, 2) := by decide +kernel
theorem dX9_grow_31 : decode cX9_grow 31 = .ok (.if_icmp .eq 7, 3) := by decide +kernel
theorem dX9_grow_34 : decode cX9_grow 34 = .ok (.iconst 1, 1) := by decide +kernel
theorem dX9_grow_35 : decode cX9_grow 35 = .ok (.goto 4, 3) := by decide +kernel
theorem dX9_grow_38 : decode cX9_grow 38 = .ok (.iconst 0, 1) := by decide +kernel
theorem dX9_grow_39 : decode cX9_grow 39 = .ok (.ireturn, 1) := by decide +kernel
theorem dX9_become_0 : decode cX9_become 0 = .ok (.aload_n 1, 1) := by decide +kernel
theorem dX9_become_1 : decode cX9_become 1 = .ok (.getfield 9, 3) := by decide +kernel
theorem dX9_become_4 : decode cX9_become 4 = .ok (.iconst 0, 1) := by decide +kernel
theorem dX9_become_5 : decode cX9_become 5 = .ok (.aload_n 0, 1) := by decide +kernel
theorem dX9_become_6 : decode cX9_become 6 = .ok (.getfield 9, 3) := by decide +kernel
theorem dX9_become_9 : decode cX9_become 9 = .ok (.iconst 0, 1) := by decide +kernel
theorem dX9_become_10 : decode cX9_become 10 = .ok (.aload_n 0, 1) := by decide +kernel
theorem dX9_become_11 : decode cX9_become 11 = .ok (.getfield 9, 3) := by decide +kernel
theorem dX9_become_14 : decode cX9_become 14 = .ok (.arraylength, 1) := by decide +kernel
theorem dX9_become_15 : decode cX9_become 15 = .ok (.invokestatic 28, 3) := by decide +kernel
theorem dX9_become_18 : decode cX9_become 18 = .ok (.return_, 1) := by decide +kernel
theorem dX9_clear_0 : decode cX9_clear 0 = .ok (.aload_n 0, 1) := by decide +kernel
theorem dX9_clear_1 : decode cX9_clear 1 = .ok (.getfield 9, 3) := by decide +kernel
theorem dX9_clear_4 : decode cX9_clear 4 = .ok (.iconst 0, 1) := by decide +kernel
theorem dX9_clear_5 : decode cX9_clear 5 = .ok (.invokestatic 34, 3) := by decide +kernel
theorem dX9_clear_8 : decode cX9_clear 8 = .ok (.return_, 1) := by decide +kernel
theorem dJ6_bitCount_0f7a4_0 : decode cJ6_bitCount_0f7a4 0 = .ok (.iload_n 0, 1) := by decide +kernel
theorem dJ6_bitCount_0f7a4_1 : decode cJ6_bitCount_0f7a4 1 = .ok (.iload_n 0, 1) := by decide +kernel
theorem dJ6_bitCount_0f7a4_2 : decode cJ6_bitCount_0f7a4 2 = .ok (.iconst 1, 1) := by decide +kernel
theorem dJ6_bitCount_0f7a4_3 : decode cJ6_bitCount_0f7a4 3 = .ok (.iushr, 1) := by decide +kernel
theorem dJ6_bitCount_0f7a4_4 : decode cJ6_bitCount_0f7a4 4 = .ok (.ldc_w 265, 3) := by decide +kernel
theorem dJ6_bitCount_0f7a4_7 : decode cJ6_bitCount_0f7a4 7 = .ok (.iand, 1) := by decide +kernel
theorem dJ6_bitCount_0f7a4_8 : decode cJ6_bitCount_0f7a4 8 = .ok (.isub, 1) := by decide +kernel
theorem dJ6_bitCount_0f7a4_9 : decode cJ6_bitCount_0f7a4 9 = .ok (.istore_n 0, 1) := by decide +kernel
theorem dJ6_bitCount_0f7a4_10 : decode cJ6_bitCount_0f7a4 10 = .ok (.iload_n 0, 1) := by decide +kernel
theorem dJ6_bitCount_0f7a4_11 : decode cJ6_bitCount_0f7a4 11 = .ok (.ldc_w 266, 3) := by decide +kernel
theorem dJ6_bitCount_0f7a4_14 : decode cJ6_bitCount_0f7a4 14 = .ok (.iand, 1) := by decide +kernel
theorem dJ6_bitCount_0f7a4_15 : decode cJ6_bitCount_0f7a4 15 = .ok (.iload_n 0, 1) := by decide +kernel
theorem dJ6_bitCount_0f7a4_16 : decode cJ6_bitCount_0f7a4 16 = .ok (.iconst 2, 1) := by decide +kernel
theorem dJ6_bitCount_0f7a4_17 : decode cJ6_bitCount_0f7a4 17 = .ok (.iushr, 1) := by decide +kernel
theorem dJ6_bitCount_0f7a4_18 : decode cJ6_bitCount_0f7a4 18 = .ok (.ldc_w 266, 3) := by decide +kernel
theorem dJ6_bitCount_0f7a4_21 : decode cJ6_bitCount_0f7a4 21 = .ok (.iand, 1) := by decide +kernel
theorem dJ6_bitCount_0f7a4_22 : decode cJ6_bitCount_0f7a4 22 = .ok (.iadd, 1) := by decide +kernel
theorem dJ6_bitCount_0f7a4_23 : decode cJ6_bitCount_0f7a4 23 = .ok (.istore_n 0, 1) := by decide +kernel
theorem dJ6_bitCount_0f7a4_24 : decode cJ6_bitCount_0f7a4 24 = .ok (.iload_n 0, 1) := by decide +kernel
theorem dJ6_bitCount_0f7a4_25 : decode cJ6_bitCount_0f7a4 25 = .ok (.iload_n 0, 1) := by decide +kernel
theorem dJ6_bitCount_0f7a4_26 : decode cJ6_bitCount_0f7a4 26 = .ok (.iconst 4, 1) := by decide +kernel
theorem dJ6_bitCount_0f7a4_27 : decode cJ6_bitCount_0f7a4 27 = .ok (.iushr, 1) := by decide +kernel
theorem dJ6_bitCount_0f7a4_28 : decode cJ6_bitCount_0f7a4 28 = .ok (.iadd, 1) := by decide +kernel
theorem dJ6_bitCount_0f7a4_29 : decode cJ6_bitCount_0f7a4 29 = .ok (.ldc_w 267, 3) := by decide +kernel
theorem dJ6_bitCount_0f7a4_32 : decode cJ6_bitCount_0f7a4 32 = .ok (.iand, 1) := by decide +kernel
theorem dJ6_bitCount_0f7a4_33 : decode cJ6_bitCount_0f7a4 33 = .ok (.istore_n 0, 1) := by decide +kernel
theorem dJ6_bitCount_0f7a4_34 : decode cJ6_bitCount_0f7a4 34 = .ok (.iload_n 0, 1) := by decide +kernel
theorem dJ6_bitCount_0f7a4_35 : decode cJ6_bitCount_0f7a4 35 = .ok (.iload_n 0, 1) := by decide +kernel
theorem dJ6_bitCount_0f7a4_36 : decode cJ6_bitCount_0f7a4 36 = .ok (.bipush 8, 2) := by decide +kernel
theorem dJ6_bitCount_0f7a4_38 : decode cJ6_bitCount_0f7a4 38 = .ok (.iushr, 1) := by decide +kernel
theorem dJ6_bitCount_0f7a4_39 : decode cJ6_bitCount_0f7a4 39 = .ok (.iadd, 1) := by decide +kernel
theorem dJ6_bitCount_0f7a4_40 : decode cJ6_bitCount_0f7a4 40 = .ok (.istore_n 0, 1) := by decide +kernel
theorem dJ6_bitCount_0f7a4_41 : decode cJ6_bitCount_0f7a4 41 = .ok (.iload_n 0, 1) := by decide +kernel
theorem dJ6_bitCount_0f7a4_42 : decode cJ6_bitCount_0f7a4 42 = .ok (.iload_n 0, 1) := by decide +kernel
theorem dJ6_bitCount_0f7a4_43 : decode cJ6_bitCount_0f7a4 43 = .ok (.bipush 16, 2) := by decide +kernel
theorem dJ6_bitCount_0f7a4_45 : decode cJ6_bitCount_0f7a4 45 = .ok (.iushr, 1) := by decide +kernel
theorem dJ6_bitCount_0f7a4_46 : decode cJ6_bitCount_0f7a4 46 = .ok (.iadd, 1) := by decide +kernel
theorem dJ6_bitCount_0f7a4_47 : decode cJ6_bitCount_0f7a4 47 = .ok (.istore_n 0, 1) := by decide +kernel
theorem dJ6_bitCount_0f7a4_48 : decode cJ6_bitCount_0f7a4 48 = .ok (.iload_n 0, 1) := by decide +kernel
theorem dJ6_bitCount_0f7a4_49 : decode cJ6_bitCount_0f7a4 49 = .ok (.bipush 63, 2) := by decide +kernel
theorem dJ6_bitCount_0f7a4_51 : decode cJ6_bitCount_0f7a4 51 = .ok (.iand, 1) := by decide +kernel
theorem dJ6_bitCount_0f7a4_52 : decode cJ6_bitCount_0f7a4 52 = .ok (.ireturn, 1) := by decide +kernel
theorem dJ9_max_7cf53_0 : decode cJ9_max_7cf53 0 = .ok (.iload_n 0, 1) := by decide +kernel
theorem dJ9_max_7cf53_1 : decode cJ9_max_7cf53 1 = .ok (.iload_n 1, 1) := by decide +kernel
theorem dJ9_max_7cf53_2 : decode cJ9_max_7cf53 2 = .ok (.if_icmp .lt 7, 3) := by decide +kernel
theorem dJ9_max_7cf53_5 : decode cJ9_max_7cf53 5 = .ok (.iload_n 0, 1) := by decide +kernel
theorem dJ9_max_7cf53_6 : decode cJ9_max_7cf53 6 = .ok (.goto 4, 3) := by decide +kernel
theorem dJ9_max_7cf53_9 : decode cJ9_max_7cf53 9 = .ok (.iload_n 1, 1) := by decide +kernel
theorem dJ9_max_7cf53_10 : decode cJ9_max_7cf53 10 = .ok (.ireturn, 1) := by decide +kernel
theorem dJ9_min_7cf53_0 : decode cJ9_min_7cf53 0 = .ok (.iload_n 0, 1) := by decide +kernel
theorem dJ9_min_7cf53_1 : decode cJ9_min_7cf53 1 = .ok (.iload_n 1, 1) := by decide +kernel
theorem dJ9_min_7cf53_2 : decode cJ9_min_7cf53 2 = .ok (.if_icmp .gt 7, 3) := by decide +kernel
theorem dJ9_min_7cf53_5 : decode cJ9_min_7cf53 5 = .ok (.iload_n 0, 1) := by decide +kernel
theorem dJ9_min_7cf53_6 : decode cJ9_min_7cf53 6 = .ok (.goto 4, 3) := by decide +kernel
theorem dJ9_min_7cf53_9 : decode cJ9_min_7cf53 9 = .ok (.iload_n 1, 1) := by decide +kernel
theorem dJ9_min_7cf53_10 : decode cJ9_min_7cf53 10 = .ok (.ireturn, 1) := by decide +kernel
theorem dJ7_fill_53178_0 : decode cJ7_fill_53178 0 = .ok (.iconst 0, 1) := by decide +kernel
theorem dJ7_fill_53178_1 : decode cJ7_fill_53178 1 = .ok (.istore_n 2, 1) := by decide +kernel
theorem dJ7_fill_53178_2 : decode cJ7_fill_53178 2 = .ok (.aload_n 0, 1) := by decide +kernel
theorem dJ7_fill_53178_3 : decode cJ7_fill_53178 3 = .ok (.arraylength, 1) := by decide +kernel
theorem dJ7_fill_53178_4 : decode cJ7_fill_53178 4 = .ok (.istore_n 3, 1) := by decide +kernel
theorem dJ7_fill_53178_5 : decode cJ7_fill_53178 5 = .ok (.iload_n 2, 1) := by decide +kernel
theorem dJ7_fill_53178_6 : decode cJ7_fill_53178 6 = .ok (.iload_n 3, 1) := by decide +kernel
theorem dJ7_fill_53178_7 : decode cJ7_fill_53178 7 = .ok (.if_icmp .ge 13, 3) := by decide +kernel
theorem dJ7_fill_53178_10 : decode cJ7_fill_53178 10 = .ok (.aload_n 0, 1) := by decide +kernel
theorem dJ7_fill_53178_11 : decode cJ7_fill_53178 11 = .ok (.iload_n 2, 1) := by decide +kernel
theorem dJ7_fill_53178_12 : decode cJ7_fill_53178 12 = .ok (.iload_n 1, 1) := by decide +kernel
theorem dJ7_fill_53178_13 : decode cJ7_fill_53178 13 = .ok (.iastore, 1) := by decide +kernel
theorem dJ7_fill_53178_14 : decode cJ7_fill_53178 14 = .ok (.iinc 2 1, 3) := by decide +kernel
theorem dJ7_fill_53178_17 : decode cJ7_fill_53178 17 = .ok (.goto (-12), 3) := by decide +kernel
theorem dJ7_fill_53178_20 : decode cJ7_fill_53178 20 = .ok (.return_, 1) := by decide +kernel
end
section
theorem dX10_init_0 : decode cX10_init 0 = .ok (.aload_n 0, 1) := by decide +kernel
theorem dX10_init_1 : decode cX10_init 1 = .ok (.invokespecial 3, 3) := by decide +kernel
theorem dX10_init_4 : decode cX10_init 4 = .ok (.aload_n 0, 1) := by decide +kernel
theorem dX10_init_5 : decode cX10_init 5 = .ok (.new 9, 3) := by decide +kernel
theorem dX10_init_8 : decode cX10_init 8 = .ok (.dup, 1) := by decide +kernel
theorem dX10_init_9 : decode cX10_init 9 = .ok (.invokespecial 11, 3) := by decide +kernel
theorem dX10_init_12 : decode cX10_init 12 = .ok (.putfield 12, 3) := by decide +kernel
theorem dX10_init_15 : decode cX10_init 15 = .ok (.aload_n 0, 1) := by decide +kernel
theorem dX10_init_16 : decode cX10_init 16 = .ok (.new 16, 3) := by decide +kernel
theorem dX10_init_19 : decode cX10_init 19 = .ok (.dup, 1) := by decide +kernel
theorem dX10_init_20 : decode cX10_init 20 = .ok (.invokespecial 18, 3) := by decide +kernel
theorem dX10_init_23 : decode cX10_init 23 = .ok (.putfield 19, 3) := by decide +kernel
theorem dX10_init_26 : decode cX10_init 26 = .ok (.aload_n 0, 1) := by decide +kernel
theorem dX10_init_27 : decode cX10_init 27 = .ok (.new 23, 3) := by decide +kernel
theorem dX10_init_30 : decode cX10_init 30 = .ok (.dup, 1) := by decide +kernel
theorem dX10_init_31 : decode cX10_init 31 = .ok (.invokespecial 25, 3) := by decide +kernel
theorem dX10_init_34 : decode cX10_init 34 = .ok (.putfield 26, 3) := by decide +kernel
theorem dX10_init_37 : decode cX10_init 37 = .ok (.aload_n 0, 1) := by decide +kernel
theorem dX10_init_38 : decode cX10_init 38 = .ok (.iconst 2, 1) := by decide +kernel
theorem dX10_init_39 : decode cX10_init 39 = .ok (.anewarray 23, 3) := by decide +kernel
theorem dX10_init_42 : decode cX10_init 42 = .ok (.dup, 1) := by decide +kernel
theorem dX10_init_43 : decode cX10_init 43 = .ok (.iconst 0, 1) := by decide +kernel
theorem dX10_init_44 : decode cX10_init 44 = .ok (.new 23, 3) := by decide +kernel
theorem dX10_init_47 : decode cX10_init 47 = .ok (.dup, 1) := by decide +kernel
theorem dX10_init_48 : decode cX10_init 48 = .ok (.invokespecial 25, 3) := by decide +kernel
theorem dX10_init_51 : decode cX10_init 51 = .ok (.aastore, 1) := by decide +kernel
theorem dX10_init_52 : decode cX10_init 52 = .ok (.dup, 1) := by decide +kernel
theorem dX10_init_53 : decode cX10_init 53 = .ok (.iconst 1, 1) := by decide +kernel
theorem dX10_init_54 : decode cX10_init 54 = .ok (.new 23, 3) := by decide +kernel
theorem dX10_init_57 : decode cX10_init 57 = .ok (.dup, 1) := by decide +kernel
theorem dX10_init_58 : decode cX10_init 58 = .ok (.invokespecial 25, 3) := by decide +kernel
theorem dX10_init_61 : decode cX10_init 61 = .ok (.aastore, 1) := by decide +kernel
theorem dX10_init_62 : decode cX10_init 62 = .ok (.putfield 30, 3) := by decide +kernel
theorem dX10_init_65 : decode cX10_init 65 = .ok (.aload_n 0, 1) := by decide +kernel
theorem dX10_init_66 : decode cX10_init 66 = .ok (.new 34, 3) := by decide +kernel
theorem dX10_init_69 : decode cX10_init 69 = .ok (.dup, 1) := by decide +kernel
theorem dX10_init_70 : decode cX10_init 70 = .ok (.invokespecial 36, 3) := by decide +kernel
theorem dX10_init_73 : decode cX10_init 73 = .ok (.putfield 37, 3) := by decide +kernel
theorem dX10_init_76 : decode cX10_init 76 = .ok (.aload_n 0, 1) := by decide +kernel
theorem dX10_init_77 : decode cX10_init 77 = .ok (.new 41, 3) := by decide +kernel
theorem dX10_init_80 : decode cX10_init 80 = .ok (.dup, 1) := by decide +kernel
theorem dX10_init_81 : decode cX10_init 81 = .ok (.invokespecial 43, 3) := by decide +kernel
theorem dX10_init_84 : decode cX10_init 84 = .ok (.putfield 44, 3) := by decide +kernel
theorem dX10_init_87 : decode cX10_init 87 = .ok (.aload_n 0, 1) := by decide +kernel
theorem dX10_init_88 : decode cX10_init 88 = .ok (.new 48, 3) := by decide +kernel
theorem dX10_init_91 : decode cX10_init 91 = .ok (.dup, 1) := by decide +kernel
theorem dX10_init_92 : decode cX10_init 92 = .ok (.invokespecial 50, 3) := by decide +kernel
theorem dX10_init_95 : decode cX10_init 95 = .ok (.putfield 51, 3) := by decide +kernel
theorem dX10_init_98 : decode cX10_init 98 = .ok (.aload_n 0, 1) := by decide +kernel
theorem dX10_init_99 : decode cX10_init 99 = .ok (.new 55, 3) := by decide +kernel
theorem dX10_init_102 : decode cX10_init 102 = .ok (.dup, 1) := by decide +kernel
theorem dX10_init_103 : decode cX10_init 103 = .ok (.invokespecial 57, 3) := by decide +kernel
theorem dX10_init_106 : decode cX10_init 106 = .ok (.putfield 58, 3) := by decide +kernel
theorem dX10_init_109 : decode cX10_init 109 = .ok (.aload_n 0, 1) := by decide +kernel
theorem dX10_init_110 : decode cX10_init 110 = .ok (.new 62, 3) := by decide +kernel
theorem dX10_init_113 : decode cX10_init 113 = .ok (.dup, 1) := by decide +kernel
theorem dX10_init_114 : decode cX10_init 114 = .ok (.invokespecial 64, 3) := by decide +kernel
theorem dX10_init_117 : decode cX10_init 117 = .ok (.putfield 65, 3) := by decide +kernel
theorem dX10_init_120 : decode cX10_init 120 = .ok (.aload_n 0, 1) := by decide +kernel
theorem dX10_init_121 : decode cX10_init 121 = .ok (.new 69, 3) := by decide +kernel
theorem dX10_init_124 : decode cX10_init 124 = .ok (.dup, 1) := by decide +kernel
theorem dX10_init_125 : decode cX10_init 125 = .ok (.invokespecial 71, 3) := by decide +kernel
theorem dX10_init_128 : decode cX10_init 128 = .ok (.putfield 72, 3) := by decide +kernel
theorem dX10_init_131 : decode cX10_init 131 = .ok (.aload_n 0, 1) := by decide +kernel
theorem dX10_init_132 : decode cX10_init 132 = .ok (.iconst 0, 1) := by decide +kernel
theorem dX10_init_133 : decode cX10_init 133 = .ok (.putfield 76, 3) := by decide +kernel
theorem dX10_init_136 : decode cX10_init 136 = .ok (.aload_n 0, 1) := by decide +kernel
theorem dX10_init_137 : decode cX10_init 137 = .ok (.iconst (-1), 1) := by decide +kernel
theorem dX10_init_138 : decode cX10_init 138 = .ok (.putfield 80, 3) := by decide +kernel
theorem dX10_init_141 : decode cX10_init 141 = .ok (.return_, 1) := by decide +kernel
theorem dX10_feed_0 : decode cX10_feed 0 = .ok (.iload_n 1, 1) := by decide +kernel
theorem dX10_feed_1 : decode cX10_feed 1 = .ok (.ifCond .lt 10, 3) := by decide +kernel
theorem dX10_feed_4 : decode cX10_feed 4 = .ok (.iload_n 1, 1) := by decide +kernel
theorem dX10_feed_5 : decode cX10_feed 5 = .ok (.sipush 255, 3) := by decide +kernel
theorem dX10_feed_8 : decode cX10_feed 8 = .ok (.if_icmp .le 6, 3) := by decide +kernel
theorem dX10_feed_11 : decode cX10_feed 11 = .ok (.ldc 83, 2) := by decide +kernel
theorem dX10_feed_13 : decode cX10_feed 13 = .ok (.ireturn, 1) := by decide +kernel
theorem dX10_feed_14 : decode cX10_feed 14 = .ok (.aload_n 0, 1) := by decide +kernel
theorem dX10_feed_15 : decode cX10_feed 15 = .ok (.getfield 12, 3) := by decide +kernel
theorem dX10_feed_18 : decode cX10_feed 18 = .ok (.iload_n 1, 1) := by decide +kernel
theorem dX10_feed_19 : decode cX10_feed 19 = .ok (.invokevirtual 84, 3) := by decide +kernel
theorem dX10_feed_22 : decode cX10_feed 22 = .ok (.ifCond .eq 13, 3) := by decide +kernel
theorem dX10_feed_25 : decode cX10_feed 25 = .ok (.aload_n 0, 1) := by decide +kernel
theorem dX10_feed_26 : decode cX10_feed 26 = .ok (.getfield 12, 3) := by decide +kernel
theorem dX10_feed_29 : decode cX10_feed 29 = .ok (.getfield 88, 3) := by decide +kernel
theorem dX10_feed_32 : decode cX10_feed 32 = .ok (.goto 5, 3) := by decide +kernel
theorem dX10_feed_35 : decode cX10_feed 35 = .ok (.ldc 91, 2) := by decide +kernel
theorem dX10_feed_37 : decode cX10_feed 37 = .ok (.ireturn, 1) := by decide +kernel
theorem dX10_street_0 : decode cX10_street 0 = .ok (.aload_n 0, 1) := by decide +kernel
theorem dX10_street_1 : decode cX10_street 1 = .ok (.getfield 12, 3) := by decide +kernel
theorem dX10_street_4 : decode cX10_street 4 = .ok (.invokevirtual 92, 3) := by decide +kernel
theorem dX10_street_7 : decode cX10_street 7 = .ok (.istore_n 1, 1) := by decide +kernel
theorem dX10_street_8 : decode cX10_street 8 = .ok (.aload_n 0, 1) := by decide +kernel
theorem dX10_street_9 : decode cX10_street 9 = .ok (.aload_n 0, 1) := by decide +kernel
theorem dX10_street_10 : decode cX10_street 10 = .ok (.getfield 12, 3) := by decide +kernel
theorem dX10_street_13 : decode cX10_street 13 = .ok (.getfield 96, 3) := by decide +kernel
theorem dX10_street_16 : decode cX10_street 16 = .ok (.putfield 80, 3) := by decide +kernel
theorem dX10_street_19 : decode cX10_street 19 = .ok (.aload_n 0, 1) := by decide +kernel
theorem dX10_street_20 : decode cX10_street 20 = .ok (.getfield 12, 3) := by decide +kernel
theorem dX10_street_23 : decode cX10_street 23 = .ok (.iconst 0, 1) := by decide +kernel
theorem dX10_street_24 : decode cX10_street 24 = .ok (.putfield 88, 3) := by decide +kernel
theorem dX10_street_27 : decode cX10_street 27 = .ok (.iload_n 1, 1) := by decide +kernel
theorem dX10_street_28 : decode cX10_street 28 = .ok (.ifCond .eq 8, 3) := by decide +kernel
theorem dX10_street_31 : decode cX10_street 31 = .ok (.bipush (-10), 2) := by decide +kernel
theorem dX10_street_33 : decode cX10_street 33 = .ok (.iload_n 1, 1) := by decide +kernel
theorem dX10_street_34 : decode cX10_street 34 = .ok (.isub, 1) := by decide +kernel
theorem dX10_street_35 : decode cX10_street 35 = .ok (.ireturn, 1) := by decide +kernel
theorem dX10_street_36 : decode cX10_street 36 = .ok (.aload_n 0, 1) := by decide +kernel
theorem dX10_street_37 : decode cX10_street 37 = .ok (.getfield 19, 3) := by decide +kernel
theorem dX10_street_40 : decode cX10_street 40 = .ok (.aload_n 0, 1) := by decide +kernel
theorem dX10_street_41 : decode cX10_street 41 = .ok (.getfield 12, 3) := by decide +kernel
theorem dX10_street_44 : decode cX10_street 44 = .ok (.getfield 97, 3) := by decide +kernel
theorem dX10_street_47 : decode cX10_street 47 = .ok (.invokevirtual 100, 3) := by decide +kernel
theorem dX10_street_50 : decode cX10_street 50 = .ok (.aload_n 0, 1) := by decide +kernel
theorem dX10_street_51 : decode cX10_street 51 = .ok (.getfield 26, 3) := by decide +kernel
theorem dX10_street_54 : decode cX10_street 54 = .ok (.aload_n 0, 1) := by decide +kernel
theorem dX10_street_55 : decode cX10_street 55 = .ok (.getfield 19, 3) := by decide +kernel
theorem dX10_street_58 : decode cX10_street 58 = .ok (.invokevirtual 104, 3) := by decide +kernel
theorem dX10_street_61 : decode cX10_street 61 = .ok (.aload_n 0, 1) := by decide +kernel
theorem dX10_street_62 : decode cX10_street 62 = .ok (.getfield 51, 3) := by decide +kernel
theorem dX10_street_65 : decode cX10_street 65 = .ok (.iconst 0, 1) := by decide +kernel
theorem dX10_street_66 : decode cX10_street 66 = .ok (.putfield 107, 3) := by decide +kernel
theorem dX10_street_69 : decode cX10_street 69 = .ok (.aload_n 0, 1) := by decide +kernel
theorem dX10_street_70 : decode cX10_street 70 = .ok (.getfield 72, 3) := by decide +kernel
theorem dX10_street_73 : decode cX10_street 73 = .ok (.iconst 0, 1) := by decide +kernel
theorem dX10_street_74 : decode cX10_street 74 = .ok (.putfield 110, 3) := by decide +kernel
theorem dX10_street_77 : decode cX10_street 77 = .ok (.aload_n 0, 1) := by decide +kernel
theorem dX10_street_78 : decode cX10_street 78 = .ok (.iconst 0, 1) := by decide +kernel
theorem dX10_street_79 : decode cX10_street 79 = .ok (.putfield 76, 3) := by decide +kernel
theorem dX10_street_82 : decode cX10_street 82 = .ok (.aload_n 0, 1) := by decide +kernel
theorem dX10_street_83 : decode cX10_street 83 = .ok (.getfield 19, 3) := by decide +kernel
theorem dX10_street_86 : decode cX10_street 86 = .ok (.getfield 111, 3) := by decide +kernel
theorem dX10_street_89 : decode cX10_street 89 = .ok (.ireturn, 1) := by decide +kernel
theorem dX10_fault_0 : decode cX10_fault 0 = .ok (.aload_n 0, 1) := by decide +kernel
theorem dX10_fault_1 : decode cX10_fault 1 = .ok (.getfield 80, 3) := by decide +kernel
theorem dX10_fault_4 : decode cX10_fault 4 = .ok (.ireturn, 1) := by decide +kernel
theorem dX10_told_0 : decode cX10_told 0 = .ok (.iload_n 1, 1) := by decide +kernel
theorem dX10_told_1 : decode cX10_told 1 = .ok (.tableswitch 183 0 13 #[71, 79, 87, 95, 103, 111, 119, 127, 135, 143, 151, 159, 167, 175], 71) := by decide +kernel
theorem dX10_told_72 : decode cX10_told 72 = .ok (.aload_n 0, 1) := by decide +kernel
theorem dX10_told_73 : decode cX10_told 73 = .ok (.getfield 19, 3) := by decide +kernel
theorem dX10_told_76 : decode cX10_told 76 = .ok (.getfield 114, 3) := by decide +kernel
theorem dX10_told_79 : decode cX10_told 79 = .ok (.ireturn, 1) := by decide +kernel
theorem dX10_told_80 : decode cX10_told 80 = .ok (.aload_n 0, 1) := by decide +kernel
theorem dX10_told_81 : decode cX10_told 81 = .ok (.getfield 19, 3) := by decide +kernel
theorem dX10_told_84 : decode cX10_told 84 = .ok (.getfield 117, 3) := by decide +kernel
theorem dX10_told_87 : decode cX10_told 87 = .ok (.ireturn, 1) := by decide +kernel
theorem dX10_told_88 : decode cX10_told 88 = .ok (.aload_n 0, 1) := by decide +kernel
theorem dX10_told_89 : decode cX10_told 89 = .ok (.getfield 19, 3) := by decide +kernel
theorem dX10_told_92 : decode cX10_told 92 = .ok (.getfield 111, 3) := by decide +kernel
theorem dX10_told_95 : decode cX10_told 95 = .ok (.ireturn, 1) := by decide +kernel
theorem dX10_told_96 : decode cX10_told 96 = .ok (.aload_n 0, 1) := by decide +kernel
theorem dX10_told_97 : decode cX10_told 97 = .ok (.getfield 19, 3) := by decide +kernel
theorem dX10_told_100 : decode cX10_told 100 = .ok (.getfield 120, 3) := by decide +kernel
theorem dX10_told_103 : decode cX10_told 103 = .ok (.ireturn, 1) := by decide +kernel
theorem dX10_told_104 : decode cX10_told 104 = .ok (.aload_n 0, 1) := by decide +kernel
theorem dX10_told_105 : decode cX10_told 105 = .ok (.getfield 19, 3) := by decide +kernel
theorem dX10_told_108 : decode cX10_told 108 = .ok (.getfield 123, 3) := by decide +kernel
theorem dX10_told_111 : decode cX10_told 111 = .ok (.ireturn, 1) := by decide +kernel
theorem dX10_told_112 : decode cX10_told 112 = .ok (.aload_n 0, 1) := by decide +kernel
theorem dX10_told_113 : decode cX10_told 113 = .ok (.getfield 12, 3) := by decide +kernel
theorem dX10_told_116 : decode cX10_told 116 = .ok (.getfield 88, 3) := by decide +kernel
theorem dX10_told_119 : decode cX10_told 119 = .ok (.ireturn, 1) := by decide +kernel
theorem dX10_told_120 : decode cX10_told 120 = .ok (.aload_n 0, 1) := by decide +kernel
theorem dX10_told_121 : decode cX10_told 121 = .ok (.getfield 26, 3) := by decide +kernel
theorem dX10_told_124 : decode cX10_told 124 = .ok (.getfield 126, 3) := by decide +kernel
theorem dX10_told_127 : decode cX10_told 127 = .ok (.ireturn, 1) := by decide +kernel
theorem dX10_told_128 : decode cX10_told 128 = .ok (.aload_n 0, 1) := by decide +kernel
theorem dX10_told_129 : decode cX10_told 129 = .ok (.getfield 26, 3) := by decide +kernel
theorem dX10_told_132 : decode cX10_told 132 = .ok (.getfield 129, 3) := by decide +kernel
theorem dX10_told_135 : decode cX10_told 135 = .ok (.ireturn, 1) := by decide +kernel
theorem dX10_told_136 : decode cX10_told 136 = .ok (.aload_n 0, 1) := by decide +kernel
theorem dX10_told_137 : decode cX10_told 137 = .ok (.getfield 26, 3) := by decide +kernel
theorem dX10_told_140 : decode cX10_told 140 = .ok (.getfield 132, 3) := by decide +kernel
theorem dX10_told_143 : decode cX10_told 143 = .ok (.ireturn, 1) := by decide +kernel
theorem dX10_told_144 : decode cX10_told 144 = .ok (.aload_n 0, 1) := by decide +kernel
theorem dX10_told_145 : decode cX10_told 145 = .ok (.getfield 26, 3) := by decide +kernel
theorem dX10_told_148 : decode cX10_told 148 = .ok (.invokevirtual 135, 3) := by decide +kernel
theorem dX10_told_151 : decode cX10_told 151 = .ok (.ireturn, 1) := by decide +kernel
theorem dX10_told_152 : decode cX10_told 152 = .ok (.aload_n 0, 1) := by decide +kernel
theorem dX10_told_153 : decode cX10_told 153 = .ok (.getfield 26, 3) := by decide +kernel
theorem dX10_told_156 : decode cX10_told 156 = .ok (.invokevirtual 138, 3) := by decide +kernel
theorem dX10_told_159 : decode cX10_told 159 = .ok (.ireturn, 1) := by decide +kernel
theorem dX10_told_160 : decode cX10_told 160 = .ok (.aload_n 0, 1) := by decide +kernel
theorem dX10_told_161 : decode cX10_told 161 = .ok (.getfield 26, 3) := by decide +kernel
theorem dX10_told_164 : decode cX10_told 164 = .ok (.getfield 141, 3) := by decide +kernel
theorem dX10_told_167 : decode cX10_told 167 = .ok (.ireturn, 1) := by decide +kernel
theorem dX10_told_168 : decode cX10_told 168 = .ok (.aload_n 0, 1) := by decide +kernel
theorem dX10_told_169 : decode cX10_told 169 = .ok (.getfield 51, 3) := by decide +kernel
theorem dX10_told_172 : decode cX10_told 172 = .ok (.getfield 107, 3) := by decide +kernel
theorem dX10_told_175 : decode cX10_told 175 = .ok (.ireturn, 1) := by decide +kernel
theorem dX10_told_176 : decode cX10_told 176 = .ok (.aload_n 0, 1) := by decide +kernel
theorem dX10_told_177 : decode cX10_told 177 = .ok (.getfield 72, 3) := by decide +kernel
theorem dX10_told_180 : decode cX10_told 180 = .ok (.getfield 110, 3) := by decide +kernel
theorem dX10_told_183 : decode cX10_told 183 = .ok (.ireturn, 1) := by decide +kernel
theorem dX10_told_184 : decode cX10_told 184 = .ok (.ldc 83, 2) := by decide +kernel
theorem dX10_told_186 : decode cX10_told 186 = .ok (.ireturn, 1) := by decide +kernel
theorem dX10_weight_0 : decode cX10_weight 0 = .ok (.aload_n 0, 1) := by decide +kernel
theorem dX10_weight_1 : decode cX10_weight 1 = .ok (.getfield 19, 3) := by decide +kernel
theorem dX10_weight_4 : decode cX10_weight 4 = .ok (.iload_n 1, 1) := by decide +kernel
theorem dX10_weight_5 : decode cX10_weight 5 = .ok (.invokevirtual 144, 3) := by decide +kernel
theorem dX10_weight_8 : decode cX10_weight 8 = .ok (.ifCond .eq 14, 3) := by decide +kernel
theorem dX10_weight_11 : decode cX10_weight 11 = .ok (.aload_n 0, 1) := by decide +kernel
theorem dX10_weight_12 : decode cX10_weight 12 = .ok (.getfield 19, 3) := by decide +kernel
theorem dX10_weight_15 : decode cX10_weight 15 = .ok (.iload_n 2, 1) := by decide +kernel
theorem dX10_weight_16 : decode cX10_weight 16 = .ok (.invokevirtual 147, 3) := by decide +kernel
theorem dX10_weight_19 : decode cX10_weight 19 = .ok (.ifCond .ne 6, 3) := by decide +kernel
theorem dX10_weight_22 : decode cX10_weight 22 = .ok (.ldc 150, 2) := by decide +kernel
theorem dX10_weight_24 : decode cX10_weight 24 = .ok (.ireturn, 1) := by decide +kernel
theorem dX10_weight_25 : decode cX10_weight 25 = .ok (.aload_n 0, 1) := by decide +kernel
theorem dX10_weight_26 : decode cX10_weight 26 = .ok (.getfield 26, 3) := by decide +kernel
theorem dX10_weight_29 : decode cX10_weight 29 = .ok (.getfield 151, 3) := by decide +kernel
theorem dX10_weight_32 : decode cX10_weight 32 = .ok (.iload_n 1, 1) := by decide +kernel
theorem dX10_weight_33 : decode cX10_weight 33 = .ok (.iload_n 2, 1) := by decide +kernel
theorem dX10_weight_34 : decode cX10_weight 34 = .ok (.invokevirtual 155, 3) := by decide +kernel
theorem dX10_weight_37 : decode cX10_weight 37 = .ok (.ireturn, 1) := by decide +kernel
theorem dX10_odds_0 : decode cX10_odds 0 = .ok (.aload_n 0, 1) := by decide +kernel
theorem dX10_odds_1 : decode cX10_odds 1 = .ok (.getfield 19, 3) := by decide +kernel
theorem dX10_odds_4 : decode cX10_odds 4 = .ok (.iload_n 1, 1) := by decide +kernel
theorem dX10_odds_5 : decode cX10_odds 5 = .ok (.invokevirtual 144, 3) := by decide +kernel
theorem dX10_odds_8 : decode cX10_odds 8 = .ok (.ifCond .eq 14, 3) := by decide +kernel
theorem dX10_odds_11 : decode cX10_odds 11 = .ok (.aload_n 0, 1) := by decide +kernel
theorem dX10_odds_12 : decode cX10_odds 12 = .ok (.getfield 19, 3) := by decide +kernel
theorem dX10_odds_15 : decode cX10_odds 15 = .ok (.iload_n 2, 1) := by decide +kernel
theorem dX10_odds_16 : decode cX10_odds 16 = .ok (.invokevirtual 147, 3) := by decide +kernel
theorem dX10_odds_19 : decode cX10_odds 19 = .ok (.ifCond .ne 6, 3) := by decide +kernel
theorem dX10_odds_22 : decode cX10_odds 22 = .ok (.ldc 150, 2) := by decide +kernel
theorem dX10_odds_24 : decode cX10_odds 24 = .ok (.ireturn, 1) := by decide +kernel
theorem dX10_odds_25 : decode cX10_odds 25 = .ok (.iload_n 3, 1) := by decide +kernel
theorem dX10_odds_26 : decode cX10_odds 26 = .ok (.ifCond .lt 8, 3) := by decide +kernel
theorem dX10_odds_29 : decode cX10_odds 29 = .ok (.iload_n 3, 1) := by decide +kernel
theorem dX10_odds_30 : decode cX10_odds 30 = .ok (.iconst 1, 1) := by decide +kernel
theorem dX10_odds_31 : decode cX10_odds 31 = .ok (.if_icmp .le 6, 3) := by decide +kernel
theorem dX10_odds_34 : decode cX10_odds 34 = .ok (.ldc 83, 2) := by decide +kernel
theorem dX10_odds_36 : decode cX10_odds 36 = .ok (.ireturn, 1) := by decide +kernel
theorem dX10_odds_37 : decode cX10_odds 37 = .ok (.aload_n 0, 1) := by decide +kernel
theorem dX10_odds_38 : decode cX10_odds 38 = .ok (.getfield 26, 3) := by decide +kernel
theorem dX10_odds_41 : decode cX10_odds 41 = .ok (.getfield 151, 3) := by decide +kernel
theorem dX10_odds_44 : decode cX10_odds 44 = .ok (.iload_n 1, 1) := by decide +kernel
theorem dX10_odds_45 : decode cX10_odds 45 = .ok (.iload_n 2, 1) := by decide +kernel
theorem dX10_odds_46 : decode cX10_odds 46 = .ok (.invokevirtual 155, 3) := by decide +kernel
theorem dX10_odds_49 : decode cX10_odds 49 = .ok (.istore 4, 2) := by decide +kernel
theorem dX10_odds_51 : decode cX10_odds 51 = .ok (.aload_n 0, 1) := by decide +kernel
theorem dX10_odds_52 : decode cX10_odds 52 = .ok (.getfield 26, 3) := by decide +kernel
theorem dX10_odds_55 : decode cX10_odds 55 = .ok (.getfield 151, 3) := by decide +kernel
theorem dX10_odds_58 : decode cX10_odds 58 = .ok (.iload_n 1, 1) := by decide +kernel
theorem dX10_odds_59 : decode cX10_odds 59 = .ok (.invokevirtual 161, 3) := by decide +kernel
theorem dX10_odds_62 : decode cX10_odds 62 = .ok (.istore 5, 2) := by decide +kernel
theorem dX10_odds_64 : decode cX10_odds 64 = .ok (.iload 4, 2) := by decide +kernel
theorem dX10_odds_66 : decode cX10_odds 66 = .ok (.iload 5, 2) := by decide +kernel
theorem dX10_odds_68 : decode cX10_odds 68 = .ok (.invokestatic 165, 3) := by decide +kernel
theorem dX10_odds_71 : decode cX10_odds 71 = .ok (.istore 6, 2) := by decide +kernel
theorem dX10_odds_73 : decode cX10_odds 73 = .ok (.iload_n 3, 1) := by decide +kernel
theorem dX10_odds_74 : decode cX10_odds 74 = .ok (.ifCond .ne 8, 3) := by decide +kernel
theorem dX10_odds_77 : decode cX10_odds 77 = .ok (.iload 4, 2) := by decide +kernel
theorem dX10_odds_79 : decode cX10_odds 79 = .ok (.goto 5, 3) := by decide +kernel
theorem dX10_odds_82 : decode cX10_odds 82 = .ok (.iload 5, 2) := by decide +kernel
theorem dX10_odds_84 : decode cX10_odds 84 = .ok (.iload 6, 2) := by decide +kernel
theorem dX10_odds_86 : decode cX10_odds 86 = .ok (.idiv, 1) := by decide +kernel
theorem dX10_odds_87 : decode cX10_odds 87 = .ok (.ireturn, 1) := by decide +kernel
theorem dX10_likeliest_0 : decode cX10_likeliest 0 = .ok (.aload_n 0, 1) := by decide +kernel
theorem dX10_likeliest_1 : decode cX10_likeliest 1 = .ok (.getfield 19, 3) := by decide +kernel
theorem dX10_likeliest_4 : decode cX10_likeliest 4 = .ok (.iload_n 1, 1) := by decide +kernel
theorem dX10_likeliest_5 : decode cX10_likeliest 5 = .ok (.invokevirtual 144, 3) := by decide +kernel
theorem dX10_likeliest_8 : decode cX10_likeliest 8 = .ok (.ifCond .eq 17, 3) := by decide +kernel
theorem dX10_likeliest_11 : decode cX10_likeliest 11 = .ok (.aload_n 0, 1) := by decide +kernel
theorem dX10_likeliest_12 : decode cX10_likeliest 12 = .ok (.getfield 26, 3) := by decide +kernel
theorem dX10_likeliest_15 : decode cX10_likeliest 15 = .ok (.getfield 151, 3) := by decide +kernel
theorem dX10_likeliest_18 : decode cX10_likeliest 18 = .ok (.iload_n 1, 1) := by decide +kernel
theorem dX10_likeliest_19 : decode cX10_likeliest 19 = .ok (.invokevirtual 168, 3) := by decide +kernel
theorem dX10_likeliest_22 : decode cX10_likeliest 22 = .ok (.goto 5, 3) := by decide +kernel
theorem dX10_likeliest_25 : decode cX10_likeliest 25 = .ok (.ldc 150, 2) := by decide +kernel
theorem dX10_likeliest_27 : decode cX10_likeliest 27 = .ok (.ireturn, 1) := by decide +kernel
theorem dX10_loaf_0 : decode cX10_loaf 0 = .ok (.aload_n 0, 1) := by decide +kernel
theorem dX10_loaf_1 : decode cX10_loaf 1 = .ok (.getfield 19, 3) := by decide +kernel
theorem dX10_loaf_4 : decode cX10_loaf 4 = .ok (.iload_n 1, 1) := by decide +kernel
theorem dX10_loaf_5 : decode cX10_loaf 5 = .ok (.invokevirtual 171, 3) := by decide +kernel
theorem dX10_loaf_8 : decode cX10_loaf 8 = .ok (.ifCond .ne 6, 3) := by decide +kernel
theorem dX10_loaf_11 : decode cX10_loaf 11 = .ok (.ldc 150, 2) := by decide +kernel
theorem dX10_loaf_13 : decode cX10_loaf 13 = .ok (.ireturn, 1) := by decide +kernel
theorem dX10_loaf_14 : decode cX10_loaf 14 = .ok (.iload_n 2, 1) := by decide +kernel
theorem dX10_loaf_15 : decode cX10_loaf 15 = .ok (.tableswitch 99 0 5 #[37, 47, 57, 67, 77, 87], 37) := by decide +kernel
theorem dX10_loaf_52 : decode cX10_loaf 52 = .ok (.aload_n 0, 1) := by decide +kernel
theorem dX10_loaf_53 : decode cX10_loaf 53 = .ok (.getfield 19, 3) := by decide +kernel
theorem dX10_loaf_56 : decode cX10_loaf 56 = .ok (.getfield 174, 3) := by decide +kernel
theorem dX10_loaf_59 : decode cX10_loaf 59 = .ok (.iload_n 1, 1) := by decide +kernel
theorem dX10_loaf_60 : decode cX10_loaf 60 = .ok (.iaload, 1) := by decide +kernel
theorem dX10_loaf_61 : decode cX10_loaf 61 = .ok (.ireturn, 1) := by decide +kernel
theorem dX10_loaf_62 : decode cX10_loaf 62 = .ok (.aload_n 0, 1) := by decide +kernel
theorem dX10_loaf_63 : decode cX10_loaf 63 = .ok (.getfield 19, 3) := by decide +kernel
theorem dX10_loaf_66 : decode cX10_loaf 66 = .ok (.getfield 178, 3) := by decide +kernel
theorem dX10_loaf_69 : decode cX10_loaf 69 = .ok (.iload_n 1, 1) := by decide +kernel
theorem dX10_loaf_70 : decode cX10_loaf 70 = .ok (.iaload, 1) := by decide +kernel
theorem dX10_loaf_71 : decode cX10_loaf 71 = .ok (.ireturn, 1) := by decide +kernel
theorem dX10_loaf_72 : decode cX10_loaf 72 = .ok (.aload_n 0, 1) := by decide +kernel
theorem dX10_loaf_73 : decode cX10_loaf 73 = .ok (.getfield 19, 3) := by decide +kernel
theorem dX10_loaf_76 : decode cX10_loaf 76 = .ok (.getfield 181, 3) := by decide +kernel
theorem dX10_loaf_79 : decode cX10_loaf 79 = .ok (.iload_n 1, 1) := by decide +kernel
theorem dX10_loaf_80 : decode cX10_loaf 80 = .ok (.iaload, 1) := by decide +kernel
theorem dX10_loaf_81 : decode cX10_loaf 81 = .ok (.ireturn, 1) := by decide +kernel
theorem dX10_loaf_82 : decode cX10_loaf 82 = .ok (.aload_n 0, 1) := by decide +kernel
theorem dX10_loaf_83 : decode cX10_loaf 83 = .ok (.getfield 26, 3) := by decide +kernel
theorem dX10_loaf_86 : decode cX10_loaf 86 = .ok (.getfield 184, 3) := by decide +kernel
theorem dX10_loaf_89 : decode cX10_loaf 89 = .ok (.iload_n 1, 1) := by decide +kernel
theorem dX10_loaf_90 : decode cX10_loaf 90 = .ok (.iaload, 1) := by decide +kernel
theorem dX10_loaf_91 : decode cX10_loaf 91 = .ok (.ireturn, 1) := by decide +kernel
theorem dX10_loaf_92 : decode cX10_loaf 92 = .ok (.aload_n 0, 1) := by decide +kernel
theorem dX10_loaf_93 : decode cX10_loaf 93 = .ok (.getfield 26, 3) := by decide +kernel
theorem dX10_loaf_96 : decode cX10_loaf 96 = .ok (.getfield 187, 3) := by decide +kernel
theorem dX10_loaf_99 : decode cX10_loaf 99 = .ok (.iload_n 1, 1) := by decide +kernel
theorem dX10_loaf_100 : decode cX10_loaf 100 = .ok (.iaload, 1) := by decide +kernel
theorem dX10_loaf_101 : decode cX10_loaf 101 = .ok (.ireturn, 1) := by decide +kernel
theorem dX10_loaf_102 : decode cX10_loaf 102 = .ok (.aload_n 0, 1) := by decide +kernel
theorem dX10_loaf_103 : decode cX10_loaf 103 = .ok (.getfield 26, 3) := by decide +kernel
theorem dX10_loaf_106 : decode cX10_loaf 106 = .ok (.getfield 141, 3) := by decide +kernel
theorem dX10_loaf_109 : decode cX10_loaf 109 = .ok (.iload_n 1, 1) := by decide +kernel
theorem dX10_loaf_110 : decode cX10_loaf 110 = .ok (.invokestatic 190, 3) := by decide +kernel
theorem dX10_loaf_113 : decode cX10_loaf 113 = .ok (.ireturn, 1) := by decide +kernel
theorem dX10_loaf_114 : decode cX10_loaf 114 = .ok (.ldc 83, 2) := by decide +kernel
theorem dX10_loaf_116 : decode cX10_loaf 116 = .ok (.ireturn, 1) := by decide +kernel
theorem dX10_worth_0 : decode cX10_worth 0 = .ok (.aload_n 0, 1) := by decide +kernel
theorem dX10_worth_1 : decode cX10_worth 1 = .ok (.getfield 19, 3) := by decide +kernel
theorem dX10_worth_4 : decode cX10_worth 4 = .ok (.iload_n 1, 1) := by decide +kernel
theorem dX10_worth_5 : decode cX10_worth 5 = .ok (.invokevirtual 171, 3) := by decide +kernel
theorem dX10_worth_8 : decode cX10_worth 8 = .ok (.ifCond .eq 14, 3) := by decide +kernel
theorem dX10_worth_11 : decode cX10_worth 11 = .ok (.aload_n 0, 1) := by decide +kernel
theorem dX10_worth_12 : decode cX10_worth 12 = .ok (.getfield 19, 3) := by decide +kernel
theorem dX10_worth_15 : decode cX10_worth 15 = .ok (.iload_n 2, 1) := by decide +kernel
theorem dX10_worth_16 : decode cX10_worth 16 = .ok (.invokevirtual 144, 3) := by decide +kernel
theorem dX10_worth_19 : decode cX10_worth 19 = .ok (.ifCond .ne 6, 3) := by decide +kernel
theorem dX10_worth_22 : decode cX10_worth 22 = .ok (.ldc 150, 2) := by decide +kernel
theorem dX10_worth_24 : decode cX10_worth 24 = .ok (.ireturn, 1) := by decide +kernel
theorem dX10_worth_25 : decode cX10_worth 25 = .ok (.aload_n 0, 1) := by decide +kernel
theorem dX10_worth_26 : decode cX10_worth 26 = .ok (.getfield 19, 3) := by decide +kernel
theorem dX10_worth_29 : decode cX10_worth 29 = .ok (.getfield 174, 3) := by decide +kernel
theorem dX10_worth_32 : decode cX10_worth 32 = .ok (.iload_n 1, 1) := by decide +kernel
theorem dX10_worth_33 : decode cX10_worth 33 = .ok (.iaload, 1) := by decide +kernel
theorem dX10_worth_34 : decode cX10_worth 34 = .ok (.iload_n 2, 1) := by decide +kernel
theorem dX10_worth_35 : decode cX10_worth 35 = .ok (.if_icmp .ne 8, 3) := by decide +kernel
theorem dX10_worth_38 : decode cX10_worth 38 = .ok (.ldc 193, 2) := by decide +kernel
theorem dX10_worth_40 : decode cX10_worth 40 = .ok (.goto 16, 3) := by decide +kernel
theorem dX10_worth_43 : decode cX10_worth 43 = .ok (.aload_n 0, 1) := by decide +kernel
theorem dX10_worth_44 : decode cX10_worth 44 = .ok (.getfield 26, 3) := by decide +kernel
theorem dX10_worth_47 : decode cX10_worth 47 = .ok (.aload_n 0, 1) := by decide +kernel
theorem dX10_worth_48 : decode cX10_worth 48 = .ok (.getfield 19, 3) := by decide +kernel
theorem dX10_worth_51 : decode cX10_worth 51 = .ok (.iload_n 1, 1) := by decide +kernel
theorem dX10_worth_52 : decode cX10_worth 52 = .ok (.iload_n 2, 1) := by decide +kernel
theorem dX10_worth_53 : decode cX10_worth 53 = .ok (.invokevirtual 194, 3) := by decide +kernel
theorem dX10_worth_56 : decode cX10_worth 56 = .ok (.ireturn, 1) := by decide +kernel
theorem dX10_lay_0 : decode cX10_lay 0 = .ok (.aload_n 0, 1) := by decide +kernel
theorem dX10_lay_1 : decode cX10_lay 1 = .ok (.getfield 19, 3) := by decide +kernel
theorem dX10_lay_4 : decode cX10_lay 4 = .ok (.iload_n 1, 1) := by decide +kernel
theorem dX10_lay_5 : decode cX10_lay 5 = .ok (.invokevirtual 171, 3) := by decide +kernel
theorem dX10_lay_8 : decode cX10_lay 8 = .ok (.ifCond .eq 14, 3) := by decide +kernel
theorem dX10_lay_11 : decode cX10_lay 11 = .ok (.aload_n 0, 1) := by decide +kernel
theorem dX10_lay_12 : decode cX10_lay 12 = .ok (.getfield 19, 3) := by decide +kernel
theorem dX10_lay_15 : decode cX10_lay 15 = .ok (.iload_n 2, 1) := by decide +kernel
theorem dX10_lay_16 : decode cX10_lay 16 = .ok (.invokevirtual 144, 3) := by decide +kernel
theorem dX10_lay_19 : decode cX10_lay 19 = .ok (.ifCond .ne 6, 3) := by decide +kernel
theorem dX10_lay_22 : decode cX10_lay 22 = .ok (.ldc 150, 2) := by decide +kernel
theorem dX10_lay_24 : decode cX10_lay 24 = .ok (.ireturn, 1) := by decide +kernel
theorem dX10_lay_25 : decode cX10_lay 25 = .ok (.aload_n 0, 1) := by decide +kernel
theorem dX10_lay_26 : decode cX10_lay 26 = .ok (.getfield 26, 3) := by decide +kernel
theorem dX10_lay_29 : decode cX10_lay 29 = .ok (.iload_n 1, 1) := by decide +kernel
theorem dX10_lay_30 : decode cX10_lay 30 = .ok (.invokevirtual 198, 3) := by decide +kernel
theorem dX10_lay_33 : decode cX10_lay 33 = .ok (.ifCond .eq 20, 3) := by decide +kernel
theorem dX10_lay_36 : decode cX10_lay 36 = .ok (.aload_n 0, 1) := by decide +kernel
theorem dX10_lay_37 : decode cX10_lay 37 = .ok (.getfield 26, 3) := by decide +kernel
theorem dX10_lay_40 : decode cX10_lay 40 = .ok (.getfield 184, 3) := by decide +kernel
theorem dX10_lay_43 : decode cX10_lay 43 = .ok (.iload_n 1, 1) := by decide +kernel
theorem dX10_lay_44 : decode cX10_lay 44 = .ok (.iaload, 1) := by decide +kernel
theorem dX10_lay_45 : decode cX10_lay 45 = .ok (.iconst (-1), 1) := by decide +kernel
theorem dX10_lay_46 : decode cX10_lay 46 = .ok (.if_icmp .ne 7, 3) := by decide +kernel
theorem dX10_lay_49 : decode cX10_lay 49 = .ok (.iconst 1, 1) := by decide +kernel
theorem dX10_lay_50 : decode cX10_lay 50 = .ok (.goto 4, 3) := by decide +kernel
theorem dX10_lay_53 : decode cX10_lay 53 = .ok (.iconst 0, 1) := by decide +kernel
theorem dX10_lay_54 : decode cX10_lay 54 = .ok (.istore_n 3, 1) := by decide +kernel
theorem dX10_lay_55 : decode cX10_lay 55 = .ok (.iload_n 3, 1) := by decide +kernel
theorem dX10_lay_56 : decode cX10_lay 56 = .ok (.ifCond .eq 28, 3) := by decide +kernel
theorem dX10_lay_59 : decode cX10_lay 59 = .ok (.aload_n 0, 1) := by decide +kernel
theorem dX10_lay_60 : decode cX10_lay 60 = .ok (.getfield 19, 3) := by decide +kernel
theorem dX10_lay_63 : decode cX10_lay 63 = .ok (.getfield 174, 3) := by decide +kernel
theorem dX10_lay_66 : decode cX10_lay 66 = .ok (.iload_n 1, 1) := by decide +kernel
theorem dX10_lay_67 : decode cX10_lay 67 = .ok (.iaload, 1) := by decide +kernel
theorem dX10_lay_68 : decode cX10_lay 68 = .ok (.iload_n 2, 1) := by decide +kernel
theorem dX10_lay_69 : decode cX10_lay 69 = .ok (.if_icmp .eq 15, 3) := by decide +kernel
theorem dX10_lay_72 : decode cX10_lay 72 = .ok (.aload_n 0, 1) := by decide +kernel
theorem dX10_lay_73 : decode cX10_lay 73 = .ok (.getfield 26, 3) := by decide +kernel
theorem dX10_lay_76 : decode cX10_lay 76 = .ok (.iload_n 2, 1) := by decide +kernel
theorem dX10_lay_77 : decode cX10_lay 77 = .ok (.invokevirtual 201, 3) := by decide +kernel
theorem dX10_lay_80 : decode cX10_lay 80 = .ok (.iconst (-1), 1) := by decide +kernel
theorem dX10_lay_81 : decode cX10_lay 81 = .ok (.if_icmp .eq 6, 3) := by decide +kernel
theorem dX10_lay_84 : decode cX10_lay 84 = .ok (.ldc 193, 2) := by decide +kernel
theorem dX10_lay_86 : decode cX10_lay 86 = .ok (.ireturn, 1) := by decide +kernel
theorem dX10_lay_87 : decode cX10_lay 87 = .ok (.aload_n 0, 1) := by decide +kernel
theorem dX10_lay_88 : decode cX10_lay 88 = .ok (.getfield 26, 3) := by decide +kernel
theorem dX10_lay_91 : decode cX10_lay 91 = .ok (.getfield 184, 3) := by decide +kernel
theorem dX10_lay_94 : decode cX10_lay 94 = .ok (.iload_n 1, 1) := by decide +kernel
theorem dX10_lay_95 : decode cX10_lay 95 = .ok (.iload_n 2, 1) := by decide +kernel
theorem dX10_lay_96 : decode cX10_lay 96 = .ok (.iastore, 1) := by decide +kernel
theorem dX10_lay_97 : decode cX10_lay 97 = .ok (.aload_n 0, 1) := by decide +kernel
theorem dX10_lay_98 : decode cX10_lay 98 = .ok (.getfield 26, 3) := by decide +kernel
theorem dX10_lay_101 : decode cX10_lay 101 = .ok (.invokevirtual 135, 3) := by decide +kernel
theorem dX10_lay_104 : decode cX10_lay 104 = .ok (.ireturn, 1) := by decide +kernel
theorem dX10_takeOff_0 : decode cX10_takeOff 0 = .ok (.aload_n 0, 1) := by decide +kernel
theorem dX10_takeOff_1 : decode cX10_takeOff 1 = .ok (.getfield 19, 3) := by decide +kernel
theorem dX10_takeOff_4 : decode cX10_takeOff 4 = .ok (.iload_n 1, 1) := by decide +kernel
theorem dX10_takeOff_5 : decode cX10_takeOff 5 = .ok (.invokevirtual 171, 3) := by decide +kernel
theorem dX10_takeOff_8 : decode cX10_takeOff 8 = .ok (.ifCond .ne 6, 3) := by decide +kernel
theorem dX10_takeOff_11 : decode cX10_takeOff 11 = .ok (.ldc 150, 2) := by decide +kernel
theorem dX10_takeOff_13 : decode cX10_takeOff 13 = .ok (.ireturn, 1) := by decide +kernel
theorem dX10_takeOff_14 : decode cX10_takeOff 14 = .ok (.aload_n 0, 1) := by decide +kernel
theorem dX10_takeOff_15 : decode cX10_takeOff 15 = .ok (.getfield 26, 3) := by decide +kernel
theorem dX10_takeOff_18 : decode cX10_takeOff 18 = .ok (.getfield 184, 3) := by decide +kernel
theorem dX10_takeOff_21 : decode cX10_takeOff 21 = .ok (.iload_n 1, 1) := by decide +kernel
theorem dX10_takeOff_22 : decode cX10_takeOff 22 = .ok (.iaload, 1) := by decide +kernel
theorem dX10_takeOff_23 : decode cX10_takeOff 23 = .ok (.istore_n 2, 1) := by decide +kernel
theorem dX10_takeOff_24 : decode cX10_takeOff 24 = .ok (.iload_n 2, 1) := by decide +kernel
theorem dX10_takeOff_25 : decode cX10_takeOff 25 = .ok (.iconst (-1), 1) := by decide +kernel
theorem dX10_takeOff_26 : decode cX10_takeOff 26 = .ok (.if_icmp .ne 6, 3) := by decide +kernel
theorem dX10_takeOff_29 : decode cX10_takeOff 29 = .ok (.ldc 193, 2) := by decide +kernel
theorem dX10_takeOff_31 : decode cX10_takeOff 31 = .ok (.ireturn, 1) := by decide +kernel
theorem dX10_takeOff_32 : decode cX10_takeOff 32 = .ok (.aload_n 0, 1) := by decide +kernel
theorem dX10_takeOff_33 : decode cX10_takeOff 33 = .ok (.getfield 26, 3) := by decide +kernel
theorem dX10_takeOff_36 : decode cX10_takeOff 36 = .ok (.getfield 184, 3) := by decide +kernel
theorem dX10_takeOff_39 : decode cX10_takeOff 39 = .ok (.iload_n 1, 1) := by decide +kernel
theorem dX10_takeOff_40 : decode cX10_takeOff 40 = .ok (.iconst (-1), 1) := by decide +kernel
theorem dX10_takeOff_41 : decode cX10_takeOff 41 = .ok (.iastore, 1) := by decide +kernel
theorem dX10_takeOff_42 : decode cX10_takeOff 42 = .ok (.iload_n 2, 1) := by decide +kernel
theorem dX10_takeOff_43 : decode cX10_takeOff 43 = .ok (.ireturn, 1) := by decide +kernel
theorem dX10_wake_0 : decode cX10_wake 0 = .ok (.aload_n 0, 1) := by decide +kernel
theorem dX10_wake_1 : decode cX10_wake 1 = .ok (.getfield 19, 3) := by decide +kernel
theorem dX10_wake_4 : decode cX10_wake 4 = .ok (.iload_n 1, 1) := by decide +kernel
theorem dX10_wake_5 : decode cX10_wake 5 = .ok (.invokevirtual 144, 3) := by decide +kernel
theorem dX10_wake_8 : decode cX10_wake 8 = .ok (.ifCond .ne 6, 3) := by decide +kernel
theorem dX10_wake_11 : decode cX10_wake 11 = .ok (.ldc 150, 2) := by decide +kernel
theorem dX10_wake_13 : decode cX10_wake 13 = .ok (.ireturn, 1) := by decide +kernel
theorem dX10_wake_14 : decode cX10_wake 14 = .ok (.aload_n 0, 1) := by decide +kernel
theorem dX10_wake_15 : decode cX10_wake 15 = .ok (.getfield 26, 3) := by decide +kernel
theorem dX10_wake_18 : decode cX10_wake 18 = .ok (.getfield 132, 3) := by decide +kernel
theorem dX10_wake_21 : decode cX10_wake 21 = .ok (.iload_n 1, 1) := by decide +kernel
theorem dX10_wake_22 : decode cX10_wake 22 = .ok (.invokestatic 190, 3) := by decide +kernel
theorem dX10_wake_25 : decode cX10_wake 25 = .ok (.istore_n 3, 1) := by decide +kernel
theorem dX10_wake_26 : decode cX10_wake 26 = .ok (.aload_n 0, 1) := by decide +kernel
theorem dX10_wake_27 : decode cX10_wake 27 = .ok (.getfield 26, 3) := by decide +kernel
theorem dX10_wake_30 : decode cX10_wake 30 = .ok (.iload_n 2, 1) := by decide +kernel
theorem dX10_wake_31 : decode cX10_wake 31 = .ok (.ifCond .eq 17, 3) := by decide +kernel
theorem dX10_wake_34 : decode cX10_wake 34 = .ok (.aload_n 0, 1) := by decide +kernel
theorem dX10_wake_35 : decode cX10_wake 35 = .ok (.getfield 26, 3) := by decide +kernel
theorem dX10_wake_38 : decode cX10_wake 38 = .ok (.getfield 132, 3) := by decide +kernel
theorem dX10_wake_41 : decode cX10_wake 41 = .ok (.iconst 1, 1) := by decide +kernel
theorem dX10_wake_42 : decode cX10_wake 42 = .ok (.iload_n 1, 1) := by decide +kernel
theorem dX10_wake_43 : decode cX10_wake 43 = .ok (.ishl, 1) := by decide +kernel
theorem dX10_wake_44 : decode cX10_wake 44 = .ok (.ior, 1) := by decide +kernel
theorem dX10_wake_45 : decode cX10_wake 45 = .ok (.goto 16, 3) := by decide +kernel
theorem dX10_wake_48 : decode cX10_wake 48 = .ok (.aload_n 0, 1) := by decide +kernel
theorem dX10_wake_49 : decode cX10_wake 49 = .ok (.getfield 26, 3) := by decide +kernel
theorem dX10_wake_52 : decode cX10_wake 52 = .ok (.getfield 132, 3) := by decide +kernel
theorem dX10_wake_55 : decode cX10_wake 55 = .ok (.iconst 1, 1) := by decide +kernel
theorem dX10_wake_56 : decode cX10_wake 56 = .ok (.iload_n 1, 1) := by decide +kernel
theorem dX10_wake_57 : decode cX10_wake 57 = .ok (.ishl, 1) := by decide +kernel
theorem dX10_wake_58 : decode cX10_wake 58 = .ok (.iconst (-1), 1) := by decide +kernel
theorem dX10_wake_59 : decode cX10_wake 59 = .ok (.ixor, 1) := by decide +kernel
theorem dX10_wake_60 : decode cX10_wake 60 = .ok (.iand, 1) := by decide +kernel
theorem dX10_wake_61 : decode cX10_wake 61 = .ok (.putfield 132, 3) := by decide +kernel
theorem dX10_wake_64 : decode cX10_wake 64 = .ok (.iload_n 3, 1) := by decide +kernel
theorem dX10_wake_65 : decode cX10_wake 65 = .ok (.ireturn, 1) := by decide +kernel
theorem dX10_night_0 : decode cX10_night 0 = .ok (.iload_n 1, 1) := by decide +kernel
theorem dX10_night_1 : decode cX10_night 1 = .ok (.iconst 1, 1) := by decide +kernel
theorem dX10_night_2 : decode cX10_night 2 = .ok (.if_icmp .lt 9, 3) := by decide +kernel
theorem dX10_night_5 : decode cX10_night 5 = .ok (.iload_n 1, 1) := by decide +kernel
theorem dX10_night_6 : decode cX10_night 6 = .ok (.bipush 30, 2) := by decide +kernel
theorem dX10_night_8 : decode cX10_night 8 = .ok (.if_icmp .le 6, 3) := by decide +kernel
theorem dX10_night_11 : decode cX10_night 11 = .ok (.ldc 83, 2) := by decide +kernel
theorem dX10_night_13 : decode cX10_night 13 = .ok (.ireturn, 1) := by decide +kernel
theorem dX10_night_14 : decode cX10_night 14 = .ok (.aload_n 0, 1) := by decide +kernel
theorem dX10_night_15 : decode cX10_night 15 = .ok (.getfield 19, 3) := by decide +kernel
theorem dX10_night_18 : decode cX10_night 18 = .ok (.getfield 114, 3) := by decide +kernel
theorem dX10_night_21 : decode cX10_night 21 = .ok (.ifCond .ne 6, 3) := by decide +kernel
theorem dX10_night_24 : decode cX10_night 24 = .ok (.ldc 193, 2) := by decide +kernel
theorem dX10_night_26 : decode cX10_night 26 = .ok (.ireturn, 1) := by decide +kernel
theorem dX10_night_27 : decode cX10_night 27 = .ok (.aload_n 0, 1) := by decide +kernel
theorem dX10_night_28 : decode cX10_night 28 = .ok (.getfield 26, 3) := by decide +kernel
theorem dX10_night_31 : decode cX10_night 31 = .ok (.getfield 126, 3) := by decide +kernel
theorem dX10_night_34 : decode cX10_night 34 = .ok (.ldc 204, 2) := by decide +kernel
theorem dX10_night_36 : decode cX10_night 36 = .ok (.if_icmp .le 6, 3) := by decide +kernel
theorem dX10_night_39 : decode cX10_night 39 = .ok (.ldc 91, 2) := by decide +kernel
theorem dX10_night_41 : decode cX10_night 41 = .ok (.ireturn, 1) := by decide +kernel
theorem dX10_night_42 : decode cX10_night 42 = .ok (.iconst 0, 1) := by decide +kernel
theorem dX10_night_43 : decode cX10_night 43 = .ok (.istore_n 2, 1) := by decide +kernel
theorem dX10_night_44 : decode cX10_night 44 = .ok (.iload_n 2, 1) := by decide +kernel
theorem dX10_night_45 : decode cX10_night 45 = .ok (.iload_n 1, 1) := by decide +kernel
theorem dX10_night_46 : decode cX10_night 46 = .ok (.if_icmp .ge 20, 3) := by decide +kernel
theorem dX10_night_49 : decode cX10_night 49 = .ok (.aload_n 0, 1) := by decide +kernel
theorem dX10_night_50 : decode cX10_night 50 = .ok (.getfield 26, 3) := by decide +kernel
theorem dX10_night_53 : decode cX10_night 53 = .ok (.aload_n 0, 1) := by decide +kernel
theorem dX10_night_54 : decode cX10_night 54 = .ok (.getfield 19, 3) := by decide +kernel
theorem dX10_night_57 : decode cX10_night 57 = .ok (.invokevirtual 205, 3) := by decide +kernel
theorem dX10_night_60 : decode cX10_night 60 = .ok (.iinc 2 1, 3) := by decide +kernel
theorem dX10_night_63 : decode cX10_night 63 = .ok (.goto (-19), 3) := by decide +kernel
theorem dX10_night_66 : decode cX10_night 66 = .ok (.aload_n 0, 1) := by decide +kernel
theorem dX10_night_67 : decode cX10_night 67 = .ok (.getfield 26, 3) := by decide +kernel
theorem dX10_night_70 : decode cX10_night 70 = .ok (.invokevirtual 138, 3) := by decide +kernel
theorem dX10_night_73 : decode cX10_night 73 = .ok (.ireturn, 1) := by decide +kernel
theorem dX10_eat_0 : decode cX10_eat 0 = .ok (.aload_n 0, 1) := by decide +kernel
theorem dX10_eat_1 : decode cX10_eat 1 = .ok (.getfield 19, 3) := by decide +kernel
theorem dX10_eat_4 : decode cX10_eat 4 = .ok (.iload_n 1, 1) := by decide +kernel
theorem dX10_eat_5 : decode cX10_eat 5 = .ok (.invokevirtual 171, 3) := by decide +kernel
theorem dX10_eat_8 : decode cX10_eat 8 = .ok (.ifCond .ne 6, 3) := by decide +kernel
theorem dX10_eat_11 : decode cX10_eat 11 = .ok (.ldc 150, 2) := by decide +kernel
theorem dX10_eat_13 : decode cX10_eat 13 = .ok (.ireturn, 1) := by decide +kernel
theorem dX10_eat_14 : decode cX10_eat 14 = .ok (.aload_n 0, 1) := by decide +kernel
theorem dX10_eat_15 : decode cX10_eat 15 = .ok (.getfield 26, 3) := by decide +kernel
theorem dX10_eat_18 : decode cX10_eat 18 = .ok (.iload_n 1, 1) := by decide +kernel
theorem dX10_eat_19 : decode cX10_eat 19 = .ok (.invokevirtual 198, 3) := by decide +kernel
theorem dX10_eat_22 : decode cX10_eat 22 = .ok (.ifCond .eq 6, 3) := by decide +kernel
theorem dX10_eat_25 : decode cX10_eat 25 = .ok (.ldc 193, 2) := by decide +kernel
theorem dX10_eat_27 : decode cX10_eat 27 = .ok (.ireturn, 1) := by decide +kernel
theorem dX10_eat_28 : decode cX10_eat 28 = .ok (.aload_n 0, 1) := by decide +kernel
theorem dX10_eat_29 : decode cX10_eat 29 = .ok (.getfield 26, 3) := by decide +kernel
theorem dX10_eat_32 : decode cX10_eat 32 = .ok (.aload_n 0, 1) := by decide +kernel
theorem dX10_eat_33 : decode cX10_eat 33 = .ok (.getfield 19, 3) := by decide +kernel
theorem dX10_eat_36 : decode cX10_eat 36 = .ok (.iload_n 1, 1) := by decide +kernel
theorem dX10_eat_37 : decode cX10_eat 37 = .ok (.invokevirtual 208, 3) := by decide +kernel
theorem dX10_eat_40 : decode cX10_eat 40 = .ok (.aload_n 0, 1) := by decide +kernel
theorem dX10_eat_41 : decode cX10_eat 41 = .ok (.getfield 26, 3) := by decide +kernel
theorem dX10_eat_44 : decode cX10_eat 44 = .ok (.getfield 129, 3) := by decide +kernel
theorem dX10_eat_47 : decode cX10_eat 47 = .ok (.ireturn, 1) := by decide +kernel
theorem dX10_salt_0 : decode cX10_salt 0 = .ok (.aload_n 0, 1) := by decide +kernel
theorem dX10_salt_1 : decode cX10_salt 1 = .ok (.getfield 19, 3) := by decide +kernel
theorem dX10_salt_4 : decode cX10_salt 4 = .ok (.iload_n 1, 1) := by decide +kernel
theorem dX10_salt_5 : decode cX10_salt 5 = .ok (.invokevirtual 171, 3) := by decide +kernel
theorem dX10_salt_8 : decode cX10_salt 8 = .ok (.ifCond .ne 6, 3) := by decide +kernel
theorem dX10_salt_11 : decode cX10_salt 11 = .ok (.ldc 150, 2) := by decide +kernel
theorem dX10_salt_13 : decode cX10_salt 13 = .ok (.ireturn, 1) := by decide +kernel
theorem dX10_salt_14 : decode cX10_salt 14 = .ok (.aload_n 0, 1) := by decide +kernel
theorem dX10_salt_15 : decode cX10_salt 15 = .ok (.getfield 26, 3) := by decide +kernel
theorem dX10_salt_18 : decode cX10_salt 18 = .ok (.getfield 141, 3) := by decide +kernel
theorem dX10_salt_21 : decode cX10_salt 21 = .ok (.iload_n 1, 1) := by decide +kernel
theorem dX10_salt_22 : decode cX10_salt 22 = .ok (.invokestatic 190, 3) := by decide +kernel
theorem dX10_salt_25 : decode cX10_salt 25 = .ok (.istore_n 2, 1) := by decide +kernel
theorem dX10_salt_26 : decode cX10_salt 26 = .ok (.aload_n 0, 1) := by decide +kernel
theorem dX10_salt_27 : decode cX10_salt 27 = .ok (.getfield 26, 3) := by decide +kernel
theorem dX10_salt_30 : decode cX10_salt 30 = .ok (.dup, 1) := by decide +kernel
theorem dX10_salt_31 : decode cX10_salt 31 = .ok (.getfield 141, 3) := by decide +kernel
theorem dX10_salt_34 : decode cX10_salt 34 = .ok (.iconst 1, 1) := by decide +kernel
theorem dX10_salt_35 : decode cX10_salt 35 = .ok (.iload_n 1, 1) := by decide +kernel
theorem dX10_salt_36 : decode cX10_salt 36 = .ok (.ishl, 1) := by decide +kernel
theorem dX10_salt_37 : decode cX10_salt 37 = .ok (.ior, 1) := by decide +kernel
theorem dX10_salt_38 : decode cX10_salt 38 = .ok (.putfield 141, 3) := by decide +kernel
theorem dX10_salt_41 : decode cX10_salt 41 = .ok (.iload_n 2, 1) := by decide +kernel
theorem dX10_salt_42 : decode cX10_salt 42 = .ok (.ireturn, 1) := by decide +kernel
theorem dX10_beds_0 : decode cX10_beds 0 = .ok (.iload_n 1, 1) := by decide +kernel
theorem dX10_beds_1 : decode cX10_beds 1 = .ok (.iconst (-1), 1) := by decide +kernel
theorem dX10_beds_2 : decode cX10_beds 2 = .ok (.if_icmp .eq 17, 3) := by decide +kernel
theorem dX10_beds_5 : decode cX10_beds 5 = .ok (.aload_n 0, 1) := by decide +kernel
theorem dX10_beds_6 : decode cX10_beds 6 = .ok (.getfield 19, 3) := by decide +kernel
theorem dX10_beds_9 : decode cX10_beds 9 = .ok (.iload_n 1, 1) := by decide +kernel
theorem dX10_beds_10 : decode cX10_beds 10 = .ok (.invokevirtual 171, 3) := by decide +kernel
theorem dX10_beds_13 : decode cX10_beds 13 = .ok (.ifCond .ne 6, 3) := by decide +kernel
theorem dX10_beds_16 : decode cX10_beds 16 = .ok (.ldc 150, 2) := by decide +kernel
theorem dX10_beds_18 : decode cX10_beds 18 = .ok (.ireturn, 1) := by decide +kernel
theorem dX10_beds_19 : decode cX10_beds 19 = .ok (.aload_n 0, 1) := by decide +kernel
theorem dX10_beds_20 : decode cX10_beds 20 = .ok (.getfield 37, 3) := by decide +kernel
theorem dX10_beds_23 : decode cX10_beds 23 = .ok (.aload_n 0, 1) := by decide +kernel
theorem dX10_beds_24 : decode cX10_beds 24 = .ok (.getfield 19, 3) := by decide +kernel
theorem dX10_beds_27 : decode cX10_beds 27 = .ok (.aload_n 0, 1) := by decide +kernel
theorem dX10_beds_28 : decode cX10_beds 28 = .ok (.getfield 26, 3) := by decide +kernel
theorem dX10_beds_31 : decode cX10_beds 31 = .ok (.invokevirtual 212, 3) := by decide +kernel
theorem dX10_beds_34 : decode cX10_beds 34 = .ok (.iload_n 1, 1) := by decide +kernel
theorem dX10_beds_35 : decode cX10_beds 35 = .ok (.iconst (-1), 1) := by decide +kernel
theorem dX10_beds_36 : decode cX10_beds 36 = .ok (.if_icmp .ne 13, 3) := by decide +kernel
theorem dX10_beds_39 : decode cX10_beds 39 = .ok (.aload_n 0, 1) := by decide +kernel
theorem dX10_beds_40 : decode cX10_beds 40 = .ok (.getfield 37, 3) := by decide +kernel
theorem dX10_beds_43 : decode cX10_beds 43 = .ok (.getfield 216, 3) := by decide +kernel
theorem dX10_beds_46 : decode cX10_beds 46 = .ok (.goto 12, 3) := by decide +kernel
theorem dX10_beds_49 : decode cX10_beds 49 = .ok (.aload_n 0, 1) := by decide +kernel
theorem dX10_beds_50 : decode cX10_beds 50 = .ok (.getfield 37, 3) := by decide +kernel
theorem dX10_beds_53 : decode cX10_beds 53 = .ok (.getfield 219, 3) := by decide +kernel
theorem dX10_beds_56 : decode cX10_beds 56 = .ok (.iload_n 1, 1) := by decide +kernel
theorem dX10_beds_57 : decode cX10_beds 57 = .ok (.iaload, 1) := by decide +kernel
theorem dX10_beds_58 : decode cX10_beds 58 = .ok (.ireturn, 1) := by decide +kernel
theorem dX10_feedings_0 : decode cX10_feedings 0 = .ok (.aload_n 0, 1) := by decide +kernel
theorem dX10_feedings_1 : decode cX10_feedings 1 = .ok (.getfield 19, 3) := by decide +kernel
theorem dX10_feedings_4 : decode cX10_feedings 4 = .ok (.iload_n 1, 1) := by decide +kernel
theorem dX10_feedings_5 : decode cX10_feedings 5 = .ok (.invokevirtual 144, 3) := by decide +kernel
theorem dX10_feedings_8 : decode cX10_feedings 8 = .ok (.ifCond .eq 14, 3) := by decide +kernel
theorem dX10_feedings_11 : decode cX10_feedings 11 = .ok (.aload_n 0, 1) := by decide +kernel
theorem dX10_feedings_12 : decode cX10_feedings 12 = .ok (.getfield 19, 3) := by decide +kernel
theorem dX10_feedings_15 : decode cX10_feedings 15 = .ok (.iload_n 2, 1) := by decide +kernel
theorem dX10_feedings_16 : decode cX10_feedings 16 = .ok (.invokevirtual 147, 3) := by decide +kernel
theorem dX10_feedings_19 : decode cX10_feedings 19 = .ok (.ifCond .ne 6, 3) := by decide +kernel
theorem dX10_feedings_22 : decode cX10_feedings 22 = .ok (.ldc 150, 2) := by decide +kernel
theorem dX10_feedings_24 : decode cX10_feedings 24 = .ok (.ireturn, 1) := by decide +kernel
theorem dX10_feedings_25 : decode cX10_feedings 25 = .ok (.aload_n 0, 1) := by decide +kernel
theorem dX10_feedings_26 : decode cX10_feedings 26 = .ok (.getfield 44, 3) := by decide +kernel
theorem dX10_feedings_29 : decode cX10_feedings 29 = .ok (.aload_n 0, 1) := by decide +kernel
theorem dX10_feedings_30 : decode cX10_feedings 30 = .ok (.getfield 19, 3) := by decide +kernel
theorem dX10_feedings_33 : decode cX10_feedings 33 = .ok (.aload_n 0, 1) := by decide +kernel
theorem dX10_feedings_34 : decode cX10_feedings 34 = .ok (.getfield 26, 3) := by decide +kernel
theorem dX10_feedings_37 : decode cX10_feedings 37 = .ok (.iload_n 1, 1) := by decide +kernel
theorem dX10_feedings_38 : decode cX10_feedings 38 = .ok (.iload_n 2, 1) := by decide +kernel
theorem dX10_feedings_39 : decode cX10_feedings 39 = .ok (.invokevirtual 222, 3) := by decide +kernel
theorem dX10_feedings_42 : decode cX10_feedings 42 = .ok (.ireturn, 1) := by decide +kernel
theorem dX10_foretold_0 : decode cX10_foretold 0 = .ok (.aload_n 0, 1) := by decide +kernel
theorem dX10_foretold_1 : decode cX10_foretold 1 = .ok (.getfield 19, 3) := by decide +kernel
theorem dX10_foretold_4 : decode cX10_foretold 4 = .ok (.iload_n 1, 1) := by decide +kernel
theorem dX10_foretold_5 : decode cX10_foretold 5 = .ok (.invokevirtual 144, 3) := by decide +kernel
theorem dX10_foretold_8 : decode cX10_foretold 8 = .ok (.ifCond .eq 19, 3) := by decide +kernel
theorem dX10_foretold_11 : decode cX10_foretold 11 = .ok (.iload_n 2, 1) := by decide +kernel
theorem dX10_foretold_12 : decode cX10_foretold 12 = .ok (.iconst (-1), 1) := by decide +kernel
theorem dX10_foretold_13 : decode cX10_foretold 13 = .ok (.if_icmp .eq 17, 3) := by decide +kernel
theorem dX10_foretold_16 : decode cX10_foretold 16 = .ok (.aload_n 0, 1) := by decide +kernel
theorem dX10_foretold_17 : decode cX10_foretold 17 = .ok (.getfield 19, 3) := by decide +kernel
theorem dX10_foretold_20 : decode cX10_foretold 20 = .ok (.iload_n 2, 1) := by decide +kernel
theorem dX10_foretold_21 : decode cX10_foretold 21 = .ok (.invokevirtual 147, 3) := by decide +kernel
theorem dX10_foretold_24 : decode cX10_foretold 24 = .ok (.ifCond .ne 6, 3) := by decide +kernel
theorem dX10_foretold_27 : decode cX10_foretold 27 = .ok (.ldc 150, 2) := by decide +kernel
theorem dX10_foretold_29 : decode cX10_foretold 29 = .ok (.ireturn, 1) := by decide +kernel
theorem dX10_foretold_30 : decode cX10_foretold 30 = .ok (.iload_n 3, 1) := by decide +kernel
theorem dX10_foretold_31 : decode cX10_foretold 31 = .ok (.ifCond .lt 10, 3) := by decide +kernel
theorem dX10_foretold_34 : decode cX10_foretold 34 = .ok (.iload_n 3, 1) := by decide +kernel
theorem dX10_foretold_35 : decode cX10_foretold 35 = .ok (.sipush 200, 3) := by decide +kernel
theorem dX10_foretold_38 : decode cX10_foretold 38 = .ok (.if_icmp .le 6, 3) := by decide +kernel
theorem dX10_foretold_41 : decode cX10_foretold 41 = .ok (.ldc 83, 2) := by decide +kernel
theorem dX10_foretold_43 : decode cX10_foretold 43 = .ok (.ireturn, 1) := by decide +kernel
theorem dX10_foretold_44 : decode cX10_foretold 44 = .ok (.aload_n 0, 1) := by decide +kernel
theorem dX10_foretold_45 : decode cX10_foretold 45 = .ok (.getfield 37, 3) := by decide +kernel
theorem dX10_foretold_48 : decode cX10_foretold 48 = .ok (.aload_n 0, 1) := by decide +kernel
theorem dX10_foretold_49 : decode cX10_foretold 49 = .ok (.getfield 19, 3) := by decide +kernel
theorem dX10_foretold_52 : decode cX10_foretold 52 = .ok (.aload_n 0, 1) := by decide +kernel
theorem dX10_foretold_53 : decode cX10_foretold 53 = .ok (.getfield 26, 3) := by decide +kernel
theorem dX10_foretold_56 : decode cX10_foretold 56 = .ok (.invokevirtual 212, 3) := by decide +kernel
theorem dX10_foretold_59 : decode cX10_foretold 59 = .ok (.aload_n 0, 1) := by decide +kernel
theorem dX10_foretold_60 : decode cX10_foretold 60 = .ok (.getfield 44, 3) := by decide +kernel
theorem dX10_foretold_63 : decode cX10_foretold 63 = .ok (.aload_n 0, 1) := by decide +kernel
theorem dX10_foretold_64 : decode cX10_foretold 64 = .ok (.getfield 19, 3) := by decide +kernel
theorem dX10_foretold_67 : decode cX10_foretold 67 = .ok (.aload_n 0, 1) := by decide +kernel
theorem dX10_foretold_68 : decode cX10_foretold 68 = .ok (.getfield 26, 3) := by decide +kernel
theorem dX10_foretold_71 : decode cX10_foretold 71 = .ok (.aload_n 0, 1) := by decide +kernel
theorem dX10_foretold_72 : decode cX10_foretold 72 = .ok (.getfield 37, 3) := by decide +kernel
theorem dX10_foretold_75 : decode cX10_foretold 75 = .ok (.iconst 0, 1) := by decide +kernel
theorem dX10_foretold_76 : decode cX10_foretold 76 = .ok (.iload_n 3, 1) := by decide +kernel
theorem dX10_foretold_77 : decode cX10_foretold 77 = .ok (.invokevirtual 226, 3) := by decide +kernel
theorem dX10_foretold_80 : decode cX10_foretold 80 = .ok (.pop, 1) := by decide +kernel
theorem dX10_foretold_81 : decode cX10_foretold 81 = .ok (.iload_n 2, 1) := by decide +kernel
theorem dX10_foretold_82 : decode cX10_foretold 82 = .ok (.iconst (-1), 1) := by decide +kernel
theorem dX10_foretold_83 : decode cX10_foretold 83 = .ok (.if_icmp .ne 17, 3) := by decide +kernel
theorem dX10_foretold_86 : decode cX10_foretold 86 = .ok (.aload_n 0, 1) := by decide +kernel
theorem dX10_foretold_87 : decode cX10_foretold 87 = .ok (.getfield 44, 3) := by decide +kernel
theorem dX10_foretold_90 : decode cX10_foretold 90 = .ok (.getfield 230, 3) := by decide +kernel
theorem dX10_foretold_93 : decode cX10_foretold 93 = .ok (.iload_n 1, 1) := by decide +kernel
theorem dX10_foretold_94 : decode cX10_foretold 94 = .ok (.invokevirtual 168, 3) := by decide +kernel
theorem dX10_foretold_97 : decode cX10_foretold 97 = .ok (.goto 15, 3) := by decide +kernel
theorem dX10_foretold_100 : decode cX10_foretold 100 = .ok (.aload_n 0, 1) := by decide +kernel
theorem dX10_foretold_101 : decode cX10_foretold 101 = .ok (.getfield 44, 3) := by decide +kernel
theorem dX10_foretold_104 : decode cX10_foretold 104 = .ok (.getfield 230, 3) := by decide +kernel
theorem dX10_foretold_107 : decode cX10_foretold 107 = .ok (.iload_n 1, 1) := by decide +kernel
theorem dX10_foretold_108 : decode cX10_foretold 108 = .ok (.iload_n 2, 1) := by decide +kernel
theorem dX10_foretold_109 : decode cX10_foretold 109 = .ok (.invokevirtual 155, 3) := by decide +kernel
theorem dX10_foretold_112 : decode cX10_foretold 112 = .ok (.ireturn, 1) := by decide +kernel
theorem dX10_settled_0 : decode cX10_settled 0 = .ok (.aload_n 0, 1) := by decide +kernel
theorem dX10_settled_1 : decode cX10_settled 1 = .ok (.getfield 37, 3) := by decide +kernel
theorem dX10_settled_4 : decode cX10_settled 4 = .ok (.aload_n 0, 1) := by decide +kernel
theorem dX10_settled_5 : decode cX10_settled 5 = .ok (.getfield 19, 3) := by decide +kernel
theorem dX10_settled_8 : decode cX10_settled 8 = .ok (.aload_n 0, 1) := by decide +kernel
theorem dX10_settled_9 : decode cX10_settled 9 = .ok (.getfield 26, 3) := by decide +kernel
theorem dX10_settled_12 : decode cX10_settled 12 = .ok (.invokevirtual 212, 3) := by decide +kernel
theorem dX10_settled_15 : decode cX10_settled 15 = .ok (.aload_n 0, 1) := by decide +kernel
theorem dX10_settled_16 : decode cX10_settled 16 = .ok (.getfield 44, 3) := by decide +kernel
theorem dX10_settled_19 : decode cX10_settled 19 = .ok (.aload_n 0, 1) := by decide +kernel
theorem dX10_settled_20 : decode cX10_settled 20 = .ok (.getfield 19, 3) := by decide +kernel
theorem dX10_settled_23 : decode cX10_settled 23 = .ok (.aload_n 0, 1) := by decide +kernel
theorem dX10_settled_24 : decode cX10_settled 24 = .ok (.getfield 26, 3) := by decide +kernel
theorem dX10_settled_27 : decode cX10_settled 27 = .ok (.aload_n 0, 1) := by decide +kernel
theorem dX10_settled_28 : decode cX10_settled 28 = .ok (.getfield 37, 3) := by decide +kernel
theorem dX10_settled_31 : decode cX10_settled 31 = .ok (.iconst 0, 1) := by decide +kernel
theorem dX10_settled_32 : decode cX10_settled 32 = .ok (.sipush 201, 3) := by decide +kernel
theorem dX10_settled_35 : decode cX10_settled 35 = .ok (.invokevirtual 226, 3) := by decide +kernel
theorem dX10_settled_38 : decode cX10_settled 38 = .ok (.istore_n 1, 1) := by decide +kernel
theorem dX10_settled_39 : decode cX10_settled 39 = .ok (.iload_n 1, 1) := by decide +kernel
theorem dX10_settled_40 : decode cX10_settled 40 = .ok (.sipush 200, 3) := by decide +kernel
theorem dX10_settled_43 : decode cX10_settled 43 = .ok (.if_icmp .gt 7, 3) := by decide +kernel
theorem dX10_settled_46 : decode cX10_settled 46 = .ok (.iload_n 1, 1) := by decide +kernel
theorem dX10_settled_47 : decode cX10_settled 47 = .ok (.goto 4, 3) := by decide +kernel
theorem dX10_settled_50 : decode cX10_settled 50 = .ok (.iconst (-1), 1) := by decide +kernel
theorem dX10_settled_51 : decode cX10_settled 51 = .ok (.ireturn, 1) := by decide +kernel
theorem dX10_awake_0 : decode cX10_awake 0 = .ok (.iload_n 1, 1) := by decide +kernel
theorem dX10_awake_1 : decode cX10_awake 1 = .ok (.ifCond .lt 19, 3) := by decide +kernel
theorem dX10_awake_4 : decode cX10_awake 4 = .ok (.iload_n 1, 1) := by decide +kernel
theorem dX10_awake_5 : decode cX10_awake 5 = .ok (.sipush 200, 3) := by decide +kernel
theorem dX10_awake_8 : decode cX10_awake 8 = .ok (.if_icmp .gt 12, 3) := by decide +kernel
theorem dX10_awake_11 : decode cX10_awake 11 = .ok (.iload_n 2, 1) := by decide +kernel
theorem dX10_awake_12 : decode cX10_awake 12 = .ok (.ifCond .lt 8, 3) := by decide +kernel
theorem dX10_awake_15 : decode cX10_awake 15 = .ok (.iload_n 2, 1) := by decide +kernel
theorem dX10_awake_16 : decode cX10_awake 16 = .ok (.iconst 1, 1) := by decide +kernel
theorem dX10_awake_17 : decode cX10_awake 17 = .ok (.if_icmp .le 6, 3) := by decide +kernel
theorem dX10_awake_20 : decode cX10_awake 20 = .ok (.ldc 83, 2) := by decide +kernel
theorem dX10_awake_22 : decode cX10_awake 22 = .ok (.ireturn, 1) := by decide +kernel
theorem dX10_awake_23 : decode cX10_awake 23 = .ok (.aload_n 0, 1) := by decide +kernel
theorem dX10_awake_24 : decode cX10_awake 24 = .ok (.iload_n 1, 1) := by decide +kernel
theorem dX10_awake_25 : decode cX10_awake 25 = .ok (.invokevirtual 231, 3) := by decide +kernel
theorem dX10_awake_28 : decode cX10_awake 28 = .ok (.istore_n 3, 1) := by decide +kernel
theorem dX10_awake_29 : decode cX10_awake 29 = .ok (.iload_n 3, 1) := by decide +kernel
theorem dX10_awake_30 : decode cX10_awake 30 = .ok (.iconst (-1), 1) := by decide +kernel
theorem dX10_awake_31 : decode cX10_awake 31 = .ok (.if_icmp .eq 8, 3) := by decide +kernel
theorem dX10_awake_34 : decode cX10_awake 34 = .ok (.iload_n 2, 1) := by decide +kernel
theorem dX10_awake_35 : decode cX10_awake 35 = .ok (.iconst 1, 1) := by decide +kernel
theorem dX10_awake_36 : decode cX10_awake 36 = .ok (.if_icmp .ne 7, 3) := by decide +kernel
theorem dX10_awake_39 : decode cX10_awake 39 = .ok (.iload_n 3, 1) := by decide +kernel
theorem dX10_awake_40 : decode cX10_awake 40 = .ok (.goto 7, 3) := by decide +kernel
theorem dX10_awake_43 : decode cX10_awake 43 = .ok (.iload_n 3, 1) := by decide +kernel
theorem dX10_awake_44 : decode cX10_awake 44 = .ok (.invokestatic 234, 3) := by decide +kernel
theorem dX10_awake_47 : decode cX10_awake 47 = .ok (.ireturn, 1) := by decide +kernel
theorem dX10_bite_0 : decode cX10_bite 0 = .ok (.aload_n 0, 1) := by decide +kernel
theorem dX10_bite_1 : decode cX10_bite 1 = .ok (.getfield 19, 3) := by decide +kernel
theorem dX10_bite_4 : decode cX10_bite 4 = .ok (.iload_n 1, 1) := by decide +kernel
theorem dX10_bite_5 : decode cX10_bite 5 = .ok (.invokevirtual 147, 3) := by decide +kernel
theorem dX10_bite_8 : decode cX10_bite 8 = .ok (.ifCond .ne 6, 3) := by decide +kernel
theorem dX10_bite_11 : decode cX10_bite 11 = .ok (.ldc 150, 2) := by decide +kernel
theorem dX10_bite_13 : decode cX10_bite 13 = .ok (.ireturn, 1) := by decide +kernel
theorem dX10_bite_14 : decode cX10_bite 14 = .ok (.aload_n 0, 1) := by decide +kernel
theorem dX10_bite_15 : decode cX10_bite 15 = .ok (.getfield 51, 3) := by decide +kernel
theorem dX10_bite_18 : decode cX10_bite 18 = .ok (.iload_n 1, 1) := by decide +kernel
theorem dX10_bite_19 : decode cX10_bite 19 = .ok (.invokevirtual 239, 3) := by decide +kernel
theorem dX10_bite_22 : decode cX10_bite 22 = .ok (.ifCond .eq 13, 3) := by decide +kernel
theorem dX10_bite_25 : decode cX10_bite 25 = .ok (.aload_n 0, 1) := by decide +kernel
theorem dX10_bite_26 : decode cX10_bite 26 = .ok (.getfield 51, 3) := by decide +kernel
theorem dX10_bite_29 : decode cX10_bite 29 = .ok (.getfield 107, 3) := by decide +kernel
theorem dX10_bite_32 : decode cX10_bite 32 = .ok (.goto 5, 3) := by decide +kernel
theorem dX10_bite_35 : decode cX10_bite 35 = .ok (.ldc 91, 2) := by decide +kernel
theorem dX10_bite_37 : decode cX10_bite 37 = .ok (.ireturn, 1) := by decide +kernel
theorem dX10_mayBe_0 : decode cX10_mayBe 0 = .ok (.aload_n 0, 1) := by decide +kernel
theorem dX10_mayBe_1 : decode cX10_mayBe 1 = .ok (.getfield 51, 3) := by decide +kernel
theorem dX10_mayBe_4 : decode cX10_mayBe 4 = .ok (.aload_n 0, 1) := by decide +kernel
theorem dX10_mayBe_5 : decode cX10_mayBe 5 = .ok (.getfield 19, 3) := by decide +kernel
theorem dX10_mayBe_8 : decode cX10_mayBe 8 = .ok (.aload_n 0, 1) := by decide +kernel
theorem dX10_mayBe_9 : decode cX10_mayBe 9 = .ok (.getfield 26, 3) := by decide +kernel
theorem dX10_mayBe_12 : decode cX10_mayBe 12 = .ok (.getfield 151, 3) := by decide +kernel
theorem dX10_mayBe_15 : decode cX10_mayBe 15 = .ok (.invokevirtual 240, 3) := by decide +kernel
theorem dX10_mayBe_18 : decode cX10_mayBe 18 = .ok (.ireturn, 1) := by decide +kernel
theorem dX10_whose_0 : decode cX10_whose 0 = .ok (.aload_n 0, 1) := by decide +kernel
theorem dX10_whose_1 : decode cX10_whose 1 = .ok (.getfield 51, 3) := by decide +kernel
theorem dX10_whose_4 : decode cX10_whose 4 = .ok (.aload_n 0, 1) := by decide +kernel
theorem dX10_whose_5 : decode cX10_whose 5 = .ok (.getfield 19, 3) := by decide +kernel
theorem dX10_whose_8 : decode cX10_whose 8 = .ok (.aload_n 0, 1) := by decide +kernel
theorem dX10_whose_9 : decode cX10_whose 9 = .ok (.getfield 26, 3) := by decide +kernel
theorem dX10_whose_12 : decode cX10_whose 12 = .ok (.getfield 151, 3) := by decide +kernel
theorem dX10_whose_15 : decode cX10_whose 15 = .ok (.invokevirtual 244, 3) := by decide +kernel
theorem dX10_whose_18 : decode cX10_whose 18 = .ok (.ireturn, 1) := by decide +kernel
theorem dX10_howLikely_0 : decode cX10_howLikely 0 = .ok (.aload_n 0, 1) := by decide +kernel
theorem dX10_howLikely_1 : decode cX10_howLikely 1 = .ok (.getfield 19, 3) := by decide +kernel
theorem dX10_howLikely_4 : decode cX10_howLikely 4 = .ok (.iload_n 1, 1) := by decide +kernel
theorem dX10_howLikely_5 : decode cX10_howLikely 5 = .ok (.invokevirtual 144, 3) := by decide +kernel
theorem dX10_howLikely_8 : decode cX10_howLikely 8 = .ok (.ifCond .eq 25, 3) := by decide +kernel
theorem dX10_howLikely_11 : decode cX10_howLikely 11 = .ok (.aload_n 0, 1) := by decide +kernel
theorem dX10_howLikely_12 : decode cX10_howLikely 12 = .ok (.getfield 51, 3) := by decide +kernel
theorem dX10_howLikely_15 : decode cX10_howLikely 15 = .ok (.aload_n 0, 1) := by decide +kernel
theorem dX10_howLikely_16 : decode cX10_howLikely 16 = .ok (.getfield 19, 3) := by decide +kernel
theorem dX10_howLikely_19 : decode cX10_howLikely 19 = .ok (.aload_n 0, 1) := by decide +kernel
theorem dX10_howLikely_20 : decode cX10_howLikely 20 = .ok (.getfield 26, 3) := by decide +kernel
theorem dX10_howLikely_23 : decode cX10_howLikely 23 = .ok (.getfield 151, 3) := by decide +kernel
theorem dX10_howLikely_26 : decode cX10_howLikely 26 = .ok (.iload_n 1, 1) := by decide +kernel
theorem dX10_howLikely_27 : decode cX10_howLikely 27 = .ok (.invokevirtual 247, 3) := by decide +kernel
theorem dX10_howLikely_30 : decode cX10_howLikely 30 = .ok (.goto 5, 3) := by decide +kernel
theorem dX10_howLikely_33 : decode cX10_howLikely 33 = .ok (.ldc 150, 2) := by decide +kernel
theorem dX10_howLikely_35 : decode cX10_howLikely 35 = .ok (.ireturn, 1) := by decide +kernel
theorem dX10_crumbs_0 : decode cX10_crumbs 0 = .ok (.iload_n 1, 1) := by decide +kernel
theorem dX10_crumbs_1 : decode cX10_crumbs 1 = .ok (.iconst (-1), 1) := by decide +kernel
theorem dX10_crumbs_2 : decode cX10_crumbs 2 = .ok (.if_icmp .eq 17, 3) := by decide +kernel
theorem dX10_crumbs_5 : decode cX10_crumbs 5 = .ok (.aload_n 0, 1) := by decide +kernel
theorem dX10_crumbs_6 : decode cX10_crumbs 6 = .ok (.getfield 19, 3) := by decide +kernel
theorem dX10_crumbs_9 : decode cX10_crumbs 9 = .ok (.iload_n 1, 1) := by decide +kernel
theorem dX10_crumbs_10 : decode cX10_crumbs 10 = .ok (.invokevirtual 171, 3) := by decide +kernel
theorem dX10_crumbs_13 : decode cX10_crumbs 13 = .ok (.ifCond .ne 6, 3) := by decide +kernel
theorem dX10_crumbs_16 : decode cX10_crumbs 16 = .ok (.ldc 150, 2) := by decide +kernel
theorem dX10_crumbs_18 : decode cX10_crumbs 18 = .ok (.ireturn, 1) := by decide +kernel
theorem dX10_crumbs_19 : decode cX10_crumbs 19 = .ok (.iload_n 1, 1) := by decide +kernel
theorem dX10_crumbs_20 : decode cX10_crumbs 20 = .ok (.iconst (-1), 1) := by decide +kernel
theorem dX10_crumbs_21 : decode cX10_crumbs 21 = .ok (.if_icmp .ne 23, 3) := by decide +kernel
theorem dX10_crumbs_24 : decode cX10_crumbs 24 = .ok (.aload_n 0, 1) := by decide +kernel
theorem dX10_crumbs_25 : decode cX10_crumbs 25 = .ok (.getfield 58, 3) := by decide +kernel
theorem dX10_crumbs_28 : decode cX10_crumbs 28 = .ok (.aload_n 0, 1) := by decide +kernel
theorem dX10_crumbs_29 : decode cX10_crumbs 29 = .ok (.getfield 19, 3) := by decide +kernel
theorem dX10_crumbs_32 : decode cX10_crumbs 32 = .ok (.aload_n 0, 1) := by decide +kernel
theorem dX10_crumbs_33 : decode cX10_crumbs 33 = .ok (.getfield 26, 3) := by decide +kernel
theorem dX10_crumbs_36 : decode cX10_crumbs 36 = .ok (.iconst (-1), 1) := by decide +kernel
theorem dX10_crumbs_37 : decode cX10_crumbs 37 = .ok (.iconst (-1), 1) := by decide +kernel
theorem dX10_crumbs_38 : decode cX10_crumbs 38 = .ok (.invokevirtual 251, 3) := by decide +kernel
theorem dX10_crumbs_41 : decode cX10_crumbs 41 = .ok (.goto 19, 3) := by decide +kernel
theorem dX10_crumbs_44 : decode cX10_crumbs 44 = .ok (.aload_n 0, 1) := by decide +kernel
theorem dX10_crumbs_45 : decode cX10_crumbs 45 = .ok (.getfield 58, 3) := by decide +kernel
theorem dX10_crumbs_48 : decode cX10_crumbs 48 = .ok (.aload_n 0, 1) := by decide +kernel
theorem dX10_crumbs_49 : decode cX10_crumbs 49 = .ok (.getfield 19, 3) := by decide +kernel
theorem dX10_crumbs_52 : decode cX10_crumbs 52 = .ok (.aload_n 0, 1) := by decide +kernel
theorem dX10_crumbs_53 : decode cX10_crumbs 53 = .ok (.getfield 26, 3) := by decide +kernel
theorem dX10_crumbs_56 : decode cX10_crumbs 56 = .ok (.iload_n 1, 1) := by decide +kernel
theorem dX10_crumbs_57 : decode cX10_crumbs 57 = .ok (.invokevirtual 254, 3) := by decide +kernel
theorem dX10_crumbs_60 : decode cX10_crumbs 60 = .ok (.ireturn, 1) := by decide +kernel
theorem dX10_hire_0 : decode cX10_hire 0 = .ok (.aload_n 0, 1) := by decide +kernel
theorem dX10_hire_1 : decode cX10_hire 1 = .ok (.getfield 19, 3) := by decide +kernel
theorem dX10_hire_4 : decode cX10_hire 4 = .ok (.iload_n 1, 1) := by decide +kernel
theorem dX10_hire_5 : decode cX10_hire 5 = .ok (.invokevirtual 144, 3) := by decide +kernel
theorem dX10_hire_8 : decode cX10_hire 8 = .ok (.ifCond .ne 6, 3) := by decide +kernel
theorem dX10_hire_11 : decode cX10_hire 11 = .ok (.ldc 150, 2) := by decide +kernel
theorem dX10_hire_13 : decode cX10_hire 13 = .ok (.ireturn, 1) := by decide +kernel
theorem dX10_hire_14 : decode cX10_hire 14 = .ok (.iload_n 2, 1) := by decide +kernel
theorem dX10_hire_15 : decode cX10_hire 15 = .ok (.ifCond .lt 8, 3) := by decide +kernel
theorem dX10_hire_18 : decode cX10_hire 18 = .ok (.iload_n 2, 1) := by decide +kernel
theorem dX10_hire_19 : decode cX10_hire 19 = .ok (.iconst 1, 1) := by decide +kernel
theorem dX10_hire_20 : decode cX10_hire 20 = .ok (.if_icmp .le 6, 3) := by decide +kernel
theorem dX10_hire_23 : decode cX10_hire 23 = .ok (.ldc 83, 2) := by decide +kernel
theorem dX10_hire_25 : decode cX10_hire 25 = .ok (.ireturn, 1) := by decide +kernel
theorem dX10_hire_26 : decode cX10_hire 26 = .ok (.iconst (-1), 1) := by decide +kernel
theorem dX10_hire_27 : decode cX10_hire 27 = .ok (.istore_n 3, 1) := by decide +kernel
theorem dX10_hire_28 : decode cX10_hire 28 = .ok (.iconst 0, 1) := by decide +kernel
theorem dX10_hire_29 : decode cX10_hire 29 = .ok (.istore 4, 2) := by decide +kernel
theorem dX10_hire_31 : decode cX10_hire 31 = .ok (.iconst 0, 1) := by decide +kernel
theorem dX10_hire_32 : decode cX10_hire 32 = .ok (.istore 5, 2) := by decide +kernel
theorem dX10_hire_34 : decode cX10_hire 34 = .ok (.iconst 0, 1) := by decide +kernel
theorem dX10_hire_35 : decode cX10_hire 35 = .ok (.istore 6, 2) := by decide +kernel
theorem dX10_hire_37 : decode cX10_hire 37 = .ok (.iload 6, 2) := by decide +kernel
theorem dX10_hire_39 : decode cX10_hire 39 = .ok (.aload_n 0, 1) := by decide +kernel
theorem dX10_hire_40 : decode cX10_hire 40 = .ok (.getfield 19, 3) := by decide +kernel
theorem dX10_hire_43 : decode cX10_hire 43 = .ok (.getfield 120, 3) := by decide +kernel
theorem dX10_hire_46 : decode cX10_hire 46 = .ok (.if_icmp .ge 87, 3) := by decide +kernel
theorem dX10_hire_49 : decode cX10_hire 49 = .ok (.aload_n 0, 1) := by decide +kernel
theorem dX10_hire_50 : decode cX10_hire 50 = .ok (.getfield 26, 3) := by decide +kernel
theorem dX10_hire_53 : decode cX10_hire 53 = .ok (.iload 6, 2) := by decide +kernel
theorem dX10_hire_55 : decode cX10_hire 55 = .ok (.invokevirtual 198, 3) := by decide +kernel
theorem dX10_hire_58 : decode cX10_hire 58 = .ok (.ifCond .eq 34, 3) := by decide +kernel
theorem dX10_hire_61 : decode cX10_hire 61 = .ok (.aload_n 0, 1) := by decide +kernel
theorem dX10_hire_62 : decode cX10_hire 62 = .ok (.getfield 19, 3) := by decide +kernel
theorem dX10_hire_65 : decode cX10_hire 65 = .ok (.getfield 174, 3) := by decide +kernel
theorem dX10_hire_68 : decode cX10_hire 68 = .ok (.iload 6, 2) := by decide +kernel
theorem dX10_hire_70 : decode cX10_hire 70 = .ok (.iaload, 1) := by decide +kernel
theorem dX10_hire_71 : decode cX10_hire 71 = .ok (.iload_n 1, 1) := by decide +kernel
theorem dX10_hire_72 : decode cX10_hire 72 = .ok (.if_icmp .eq 20, 3) := by decide +kernel
theorem dX10_hire_75 : decode cX10_hire 75 = .ok (.aload_n 0, 1) := by decide +kernel
theorem dX10_hire_76 : decode cX10_hire 76 = .ok (.getfield 26, 3) := by decide +kernel
theorem dX10_hire_79 : decode cX10_hire 79 = .ok (.aload_n 0, 1) := by decide +kernel
theorem dX10_hire_80 : decode cX10_hire 80 = .ok (.getfield 19, 3) := by decide +kernel
theorem dX10_hire_83 : decode cX10_hire 83 = .ok (.iload 6, 2) := by decide +kernel
theorem dX10_hire_85 : decode cX10_hire 85 = .ok (.iload_n 1, 1) := by decide +kernel
theorem dX10_hire_86 : decode cX10_hire 86 = .ok (.invokevirtual 194, 3) := by decide +kernel
theorem dX10_hire_89 : decode cX10_hire 89 = .ok (.goto 4, 3) := by decide +kernel
theorem dX10_hire_92 : decode cX10_hire 92 = .ok (.iconst 0, 1) := by decide +kernel
theorem dX10_hire_93 : decode cX10_hire 93 = .ok (.istore 7, 2) := by decide +kernel
theorem dX10_hire_95 : decode cX10_hire 95 = .ok (.iload 7, 2) := by decide +kernel
theorem dX10_hire_97 : decode cX10_hire 97 = .ok (.iload 4, 2) := by decide +kernel
theorem dX10_hire_99 : decode cX10_hire 99 = .ok (.if_icmp .le 17, 3) := by decide +kernel
theorem dX10_hire_102 : decode cX10_hire 102 = .ok (.iload 4, 2) := by decide +kernel
theorem dX10_hire_104 : decode cX10_hire 104 = .ok (.istore 5, 2) := by decide +kernel
theorem dX10_hire_106 : decode cX10_hire 106 = .ok (.iload 7, 2) := by decide +kernel
theorem dX10_hire_108 : decode cX10_hire 108 = .ok (.istore 4, 2) := by decide +kernel
theorem dX10_hire_110 : decode cX10_hire 110 = .ok (.iload 6, 2) := by decide +kernel
theorem dX10_hire_112 : decode cX10_hire 112 = .ok (.istore_n 3, 1) := by decide +kernel
theorem dX10_hire_113 : decode cX10_hire 113 = .ok (.goto 14, 3) := by decide +kernel
theorem dX10_hire_116 : decode cX10_hire 116 = .ok (.iload 7, 2) := by decide +kernel
theorem dX10_hire_118 : decode cX10_hire 118 = .ok (.iload 5, 2) := by decide +kernel
theorem dX10_hire_120 : decode cX10_hire 120 = .ok (.if_icmp .le 7, 3) := by decide +kernel
theorem dX10_hire_123 : decode cX10_hire 123 = .ok (.iload 7, 2) := by decide +kernel
theorem dX10_hire_125 : decode cX10_hire 125 = .ok (.istore 5, 2) := by decide +kernel
theorem dX10_hire_127 : decode cX10_hire 127 = .ok (.iinc 6 1, 3) := by decide +kernel
theorem dX10_hire_130 : decode cX10_hire 130 = .ok (.goto (-93), 3) := by decide +kernel
theorem dX10_hire_133 : decode cX10_hire 133 = .ok (.iload_n 3, 1) := by decide +kernel
theorem dX10_hire_134 : decode cX10_hire 134 = .ok (.iconst (-1), 1) := by decide +kernel
theorem dX10_hire_135 : decode cX10_hire 135 = .ok (.if_icmp .eq 7, 3) := by decide +kernel
theorem dX10_hire_138 : decode cX10_hire 138 = .ok (.iload_n 2, 1) := by decide +kernel
theorem dX10_hire_139 : decode cX10_hire 139 = .ok (.ifCond .ne 7, 3) := by decide +kernel
theorem dX10_hire_142 : decode cX10_hire 142 = .ok (.iload_n 3, 1) := by decide +kernel
theorem dX10_hire_143 : decode cX10_hire 143 = .ok (.goto 5, 3) := by decide +kernel
theorem dX10_hire_146 : decode cX10_hire 146 = .ok (.iload 5, 2) := by decide +kernel
theorem dX10_hire_148 : decode cX10_hire 148 = .ok (.ireturn, 1) := by decide +kernel
theorem dX10_bread_0 : decode cX10_bread 0 = .ok (.iload_n 1, 1) := by decide +kernel
theorem dX10_bread_1 : decode cX10_bread 1 = .ok (.iconst 1, 1) := by decide +kernel
theorem dX10_bread_2 : decode cX10_bread 2 = .ok (.if_icmp .lt 9, 3) := by decide +kernel
theorem dX10_bread_5 : decode cX10_bread 5 = .ok (.iload_n 1, 1) := by decide +kernel
theorem dX10_bread_6 : decode cX10_bread 6 = .ok (.bipush 7, 2) := by decide +kernel
theorem dX10_bread_8 : decode cX10_bread 8 = .ok (.if_icmp .le 8, 3) := by decide +kernel
theorem dX10_bread_11 : decode cX10_bread 11 = .ok (.ldc 83, 2) := by decide +kernel
theorem dX10_bread_13 : decode cX10_bread 13 = .ok (.goto 19, 3) := by decide +kernel
theorem dX10_bread_16 : decode cX10_bread 16 = .ok (.aload_n 0, 1) := by decide +kernel
theorem dX10_bread_17 : decode cX10_bread 17 = .ok (.getfield 65, 3) := by decide +kernel
theorem dX10_bread_20 : decode cX10_bread 20 = .ok (.aload_n 0, 1) := by decide +kernel
theorem dX10_bread_21 : decode cX10_bread 21 = .ok (.getfield 19, 3) := by decide +kernel
theorem dX10_bread_24 : decode cX10_bread 24 = .ok (.aload_n 0, 1) := by decide +kernel
theorem dX10_bread_25 : decode cX10_bread 25 = .ok (.getfield 26, 3) := by decide +kernel
theorem dX10_bread_28 : decode cX10_bread 28 = .ok (.iload_n 1, 1) := by decide +kernel
theorem dX10_bread_29 : decode cX10_bread 29 = .ok (.invokevirtual 258, 3) := by decide +kernel
theorem dX10_bread_32 : decode cX10_bread 32 = .ok (.ireturn, 1) := by decide +kernel
theorem dX10_write_0 : decode cX10_write 0 = .ok (.aload_n 0, 1) := by decide +kernel
theorem dX10_write_1 : decode cX10_write 1 = .ok (.getfield 19, 3) := by decide +kernel
theorem dX10_write_4 : decode cX10_write 4 = .ok (.iload_n 1, 1) := by decide +kernel
theorem dX10_write_5 : decode cX10_write 5 = .ok (.invokevirtual 144, 3) := by decide +kernel
theorem dX10_write_8 : decode cX10_write 8 = .ok (.ifCond .eq 14, 3) := by decide +kernel
theorem dX10_write_11 : decode cX10_write 11 = .ok (.aload_n 0, 1) := by decide +kernel
theorem dX10_write_12 : decode cX10_write 12 = .ok (.getfield 19, 3) := by decide +kernel
theorem dX10_write_15 : decode cX10_write 15 = .ok (.iload_n 2, 1) := by decide +kernel
theorem dX10_write_16 : decode cX10_write 16 = .ok (.invokevirtual 147, 3) := by decide +kernel
theorem dX10_write_19 : decode cX10_write 19 = .ok (.ifCond .ne 6, 3) := by decide +kernel
theorem dX10_write_22 : decode cX10_write 22 = .ok (.ldc 150, 2) := by decide +kernel
theorem dX10_write_24 : decode cX10_write 24 = .ok (.ireturn, 1) := by decide +kernel
theorem dX10_write_25 : decode cX10_write 25 = .ok (.iload_n 3, 1) := by decide +kernel
theorem dX10_write_26 : decode cX10_write 26 = .ok (.ifCond .lt 9, 3) := by decide +kernel
theorem dX10_write_29 : decode cX10_write 29 = .ok (.iload_n 3, 1) := by decide +kernel
theorem dX10_write_30 : decode cX10_write 30 = .ok (.bipush 9, 2) := by decide +kernel
theorem dX10_write_32 : decode cX10_write 32 = .ok (.if_icmp .le 6, 3) := by decide +kernel
theorem dX10_write_35 : decode cX10_write 35 = .ok (.ldc 83, 2) := by decide +kernel
theorem dX10_write_37 : decode cX10_write 37 = .ok (.ireturn, 1) := by decide +kernel
theorem dX10_write_38 : decode cX10_write 38 = .ok (.aload_n 0, 1) := by decide +kernel
theorem dX10_write_39 : decode cX10_write 39 = .ok (.getfield 72, 3) := by decide +kernel
theorem dX10_write_42 : decode cX10_write 42 = .ok (.iload_n 1, 1) := by decide +kernel
theorem dX10_write_43 : decode cX10_write 43 = .ok (.iload_n 2, 1) := by decide +kernel
theorem dX10_write_44 : decode cX10_write 44 = .ok (.iload_n 3, 1) := by decide +kernel
theorem dX10_write_45 : decode cX10_write 45 = .ok (.invokevirtual 261, 3) := by decide +kernel
theorem dX10_write_48 : decode cX10_write 48 = .ok (.ifCond .eq 13, 3) := by decide +kernel
theorem dX10_write_51 : decode cX10_write 51 = .ok (.aload_n 0, 1) := by decide +kernel
theorem dX10_write_52 : decode cX10_write 52 = .ok (.getfield 72, 3) := by decide +kernel
theorem dX10_write_55 : decode cX10_write 55 = .ok (.getfield 110, 3) := by decide +kernel
theorem dX10_write_58 : decode cX10_write 58 = .ok (.goto 5, 3) := by decide +kernel
theorem dX10_write_61 : decode cX10_write 61 = .ok (.ldc 91, 2) := by decide +kernel
theorem dX10_write_63 : decode cX10_write 63 = .ok (.ireturn, 1) := by decide +kernel
theorem dX10_tear_0 : decode cX10_tear 0 = .ok (.aload_n 0, 1) := by decide +kernel
theorem dX10_tear_1 : decode cX10_tear 1 = .ok (.getfield 51, 3) := by decide +kernel
theorem dX10_tear_4 : decode cX10_tear 4 = .ok (.getfield 107, 3) := by decide +kernel
theorem dX10_tear_7 : decode cX10_tear 7 = .ok (.aload_n 0, 1) := by decide +kernel
theorem dX10_tear_8 : decode cX10_tear 8 = .ok (.getfield 72, 3) := by decide +kernel
theorem dX10_tear_11 : decode cX10_tear 11 = .ok (.getfield 110, 3) := by decide +kernel
theorem dX10_tear_14 : decode cX10_tear 14 = .ok (.iadd, 1) := by decide +kernel
theorem dX10_tear_15 : decode cX10_tear 15 = .ok (.istore_n 1, 1) := by decide +kernel
theorem dX10_tear_16 : decode cX10_tear 16 = .ok (.aload_n 0, 1) := by decide +kernel
theorem dX10_tear_17 : decode cX10_tear 17 = .ok (.getfield 51, 3) := by decide +kernel
theorem dX10_tear_20 : decode cX10_tear 20 = .ok (.iconst 0, 1) := by decide +kernel
theorem dX10_tear_21 : decode cX10_tear 21 = .ok (.putfield 107, 3) := by decide +kernel
theorem dX10_tear_24 : decode cX10_tear 24 = .ok (.aload_n 0, 1) := by decide +kernel
theorem dX10_tear_25 : decode cX10_tear 25 = .ok (.getfield 72, 3) := by decide +kernel
theorem dX10_tear_28 : decode cX10_tear 28 = .ok (.iconst 0, 1) := by decide +kernel
theorem dX10_tear_29 : decode cX10_tear 29 = .ok (.putfield 110, 3) := by decide +kernel
theorem dX10_tear_32 : decode cX10_tear 32 = .ok (.iload_n 1, 1) := by decide +kernel
theorem dX10_tear_33 : decode cX10_tear 33 = .ok (.ireturn, 1) := by decide +kernel
theorem dX10_judge_0 : decode cX10_judge 0 = .ok (.aload_n 0, 1) := by decide +kernel
theorem dX10_judge_1 : decode cX10_judge 1 = .ok (.getfield 72, 3) := by decide +kernel
theorem dX10_judge_4 : decode cX10_judge 4 = .ok (.aload_n 0, 1) := by decide +kernel
theorem dX10_judge_5 : decode cX10_judge 5 = .ok (.getfield 26, 3) := by decide +kernel
theorem dX10_judge_8 : decode cX10_judge 8 = .ok (.getfield 151, 3) := by decide +kernel
theorem dX10_judge_11 : decode cX10_judge 11 = .ok (.invokevirtual 264, 3) := by decide +kernel
theorem dX10_judge_14 : decode cX10_judge 14 = .ok (.ireturn, 1) := by decide +kernel
theorem dX10_seed_0 : decode cX10_seed 0 = .ok (.iload_n 1, 1) := by decide +kernel
theorem dX10_seed_1 : decode cX10_seed 1 = .ok (.ifCond .ge 6, 3) := by decide +kernel
theorem dX10_seed_4 : decode cX10_seed 4 = .ok (.ldc 83, 2) := by decide +kernel
theorem dX10_seed_6 : decode cX10_seed 6 = .ok (.ireturn, 1) := by decide +kernel
theorem dX10_seed_7 : decode cX10_seed 7 = .ok (.aload_n 0, 1) := by decide +kernel
theorem dX10_seed_8 : decode cX10_seed 8 = .ok (.getfield 26, 3) := by decide +kernel
theorem dX10_seed_11 : decode cX10_seed 11 = .ok (.getfield 268, 3) := by decide +kernel
theorem dX10_seed_14 : decode cX10_seed 14 = .ok (.istore_n 2, 1) := by decide +kernel
theorem dX10_seed_15 : decode cX10_seed 15 = .ok (.aload_n 0, 1) := by decide +kernel
theorem dX10_seed_16 : decode cX10_seed 16 = .ok (.getfield 26, 3) := by decide +kernel
theorem dX10_seed_19 : decode cX10_seed 19 = .ok (.iload_n 1, 1) := by decide +kernel
theorem dX10_seed_20 : decode cX10_seed 20 = .ok (.putfield 268, 3) := by decide +kernel
theorem dX10_seed_23 : decode cX10_seed 23 = .ok (.iload_n 2, 1) := by decide +kernel
theorem dX10_seed_24 : decode cX10_seed 24 = .ok (.ireturn, 1) := by decide +kernel
theorem dX10_keep_0 : decode cX10_keep 0 = .ok (.iload_n 1, 1) := by decide +kernel
theorem dX10_keep_1 : decode cX10_keep 1 = .ok (.ifCond .lt 8, 3) := by decide +kernel
theorem dX10_keep_4 : decode cX10_keep 4 = .ok (.iload_n 1, 1) := by decide +kernel
theorem dX10_keep_5 : decode cX10_keep 5 = .ok (.iconst 2, 1) := by decide +kernel
theorem dX10_keep_6 : decode cX10_keep 6 = .ok (.if_icmp .lt 6, 3) := by decide +kernel
theorem dX10_keep_9 : decode cX10_keep 9 = .ok (.ldc 150, 2) := by decide +kernel
theorem dX10_keep_11 : decode cX10_keep 11 = .ok (.ireturn, 1) := by decide +kernel
theorem dX10_keep_12 : decode cX10_keep 12 = .ok (.aload_n 0, 1) := by decide +kernel
theorem dX10_keep_13 : decode cX10_keep 13 = .ok (.getfield 30, 3) := by decide +kernel
theorem dX10_keep_16 : decode cX10_keep 16 = .ok (.iload_n 1, 1) := by decide +kernel
theorem dX10_keep_17 : decode cX10_keep 17 = .ok (.aaload, 1) := by decide +kernel
theorem dX10_keep_18 : decode cX10_keep 18 = .ok (.aload_n 0, 1) := by decide +kernel
theorem dX10_keep_19 : decode cX10_keep 19 = .ok (.getfield 26, 3) := by decide +kernel
theorem dX10_keep_22 : decode cX10_keep 22 = .ok (.invokevirtual 271, 3) := by decide +kernel
theorem dX10_keep_25 : decode cX10_keep 25 = .ok (.aload_n 0, 1) := by decide +kernel
theorem dX10_keep_26 : decode cX10_keep 26 = .ok (.dup, 1) := by decide +kernel
theorem dX10_keep_27 : decode cX10_keep 27 = .ok (.getfield 76, 3) := by decide +kernel
theorem dX10_keep_30 : decode cX10_keep 30 = .ok (.iconst 1, 1) := by decide +kernel
theorem dX10_keep_31 : decode cX10_keep 31 = .ok (.iload_n 1, 1) := by decide +kernel
theorem dX10_keep_32 : decode cX10_keep 32 = .ok (.ishl, 1) := by decide +kernel
theorem dX10_keep_33 : decode cX10_keep 33 = .ok (.ior, 1) := by decide +kernel
theorem dX10_keep_34 : decode cX10_keep 34 = .ok (.putfield 76, 3) := by decide +kernel
theorem dX10_keep_37 : decode cX10_keep 37 = .ok (.iconst 1, 1) := by decide +kernel
theorem dX10_keep_38 : decode cX10_keep 38 = .ok (.ireturn, 1) := by decide +kernel
theorem dX10_goBack_0 : decode cX10_goBack 0 = .ok (.iload_n 1, 1) := by decide +kernel
theorem dX10_goBack_1 : decode cX10_goBack 1 = .ok (.ifCond .lt 8, 3) := by decide +kernel
theorem dX10_goBack_4 : decode cX10_goBack 4 = .ok (.iload_n 1, 1) := by decide +kernel
theorem dX10_goBack_5 : decode cX10_goBack 5 = .ok (.iconst 2, 1) := by decide +kernel
theorem dX10_goBack_6 : decode cX10_goBack 6 = .ok (.if_icmp .lt 6, 3) := by decide +kernel
theorem dX10_goBack_9 : decode cX10_goBack 9 = .ok (.ldc 150, 2) := by decide +kernel
theorem dX10_goBack_11 : decode cX10_goBack 11 = .ok (.ireturn, 1) := by decide +kernel
theorem dX10_goBack_12 : decode cX10_goBack 12 = .ok (.aload_n 0, 1) := by decide +kernel
theorem dX10_goBack_13 : decode cX10_goBack 13 = .ok (.getfield 76, 3) := by decide +kernel
theorem dX10_goBack_16 : decode cX10_goBack 16 = .ok (.iload_n 1, 1) := by decide +kernel
theorem dX10_goBack_17 : decode cX10_goBack 17 = .ok (.invokestatic 190, 3) := by decide +kernel
theorem dX10_goBack_20 : decode cX10_goBack 20 = .ok (.ifCond .ne 6, 3) := by decide +kernel
theorem dX10_goBack_23 : decode cX10_goBack 23 = .ok (.ldc 193, 2) := by decide +kernel
theorem dX10_goBack_25 : decode cX10_goBack 25 = .ok (.ireturn, 1) := by decide +kernel
theorem dX10_goBack_26 : decode cX10_goBack 26 = .ok (.aload_n 0, 1) := by decide +kernel
theorem dX10_goBack_27 : decode cX10_goBack 27 = .ok (.getfield 26, 3) := by decide +kernel
theorem dX10_goBack_30 : decode cX10_goBack 30 = .ok (.aload_n 0, 1) := by decide +kernel
theorem dX10_goBack_31 : decode cX10_goBack 31 = .ok (.getfield 30, 3) := by decide +kernel
theorem dX10_goBack_34 : decode cX10_goBack 34 = .ok (.iload_n 1, 1) := by decide +kernel
theorem dX10_goBack_35 : decode cX10_goBack 35 = .ok (.aaload, 1) := by decide +kernel
theorem dX10_goBack_36 : decode cX10_goBack 36 = .ok (.invokevirtual 271, 3) := by decide +kernel
theorem dX10_goBack_39 : decode cX10_goBack 39 = .ok (.iconst 1, 1) := by decide +kernel
theorem dX10_goBack_40 : decode cX10_goBack 40 = .ok (.ireturn, 1) := by decide +kernel
theorem dX10_fewestWoken_0 : decode cX10_fewestWoken 0 = .ok (.aload_n 0, 1) := by decide +kernel
theorem dX10_fewestWoken_1 : decode cX10_fewestWoken 1 = .ok (.getfield 37, 3) := by decide +kernel
theorem dX10_fewestWoken_4 : decode cX10_fewestWoken 4 = .ok (.aload_n 0, 1) := by decide +kernel
theorem dX10_fewestWoken_5 : decode cX10_fewestWoken 5 = .ok (.getfield 19, 3) := by decide +kernel
theorem dX10_fewestWoken_8 : decode cX10_fewestWoken 8 = .ok (.aload_n 0, 1) := by decide +kernel
theorem dX10_fewestWoken_9 : decode cX10_fewestWoken 9 = .ok (.getfield 26, 3) := by decide +kernel
theorem dX10_fewestWoken_12 : decode cX10_fewestWoken 12 = .ok (.invokevirtual 212, 3) := by decide +kernel
theorem dX10_fewestWoken_15 : decode cX10_fewestWoken 15 = .ok (.iconst 1, 1) := by decide +kernel
theorem dX10_fewestWoken_16 : decode cX10_fewestWoken 16 = .ok (.aload_n 0, 1) := by decide +kernel
theorem dX10_fewestWoken_17 : decode cX10_fewestWoken 17 = .ok (.getfield 19, 3) := by decide +kernel
theorem dX10_fewestWoken_20 : decode cX10_fewestWoken 20 = .ok (.getfield 111, 3) := by decide +kernel
theorem dX10_fewestWoken_23 : decode cX10_fewestWoken 23 = .ok (.ishl, 1) := by decide +kernel
theorem dX10_fewestWoken_24 : decode cX10_fewestWoken 24 = .ok (.istore_n 2, 1) := by decide +kernel
theorem dX10_fewestWoken_25 : decode cX10_fewestWoken 25 = .ok (.iconst 0, 1) := by decide +kernel
theorem dX10_fewestWoken_26 : decode cX10_fewestWoken 26 = .ok (.istore_n 3, 1) := by decide +kernel
theorem dX10_fewestWoken_27 : decode cX10_fewestWoken 27 = .ok (.iload_n 3, 1) := by decide +kernel
theorem dX10_fewestWoken_28 : decode cX10_fewestWoken 28 = .ok (.aload_n 0, 1) := by decide +kernel
theorem dX10_fewestWoken_29 : decode cX10_fewestWoken 29 = .ok (.getfield 19, 3) := by decide +kernel
theorem dX10_fewestWoken_32 : decode cX10_fewestWoken 32 = .ok (.getfield 111, 3) := by decide +kernel
theorem dX10_fewestWoken_35 : decode cX10_fewestWoken 35 = .ok (.if_icmp .gt 73, 3) := by decide +kernel
theorem dX10_fewestWoken_38 : decode cX10_fewestWoken 38 = .ok (.iconst 0, 1) := by decide +kernel
theorem dX10_fewestWoken_39 : decode cX10_fewestWoken 39 = .ok (.istore 4, 2) := by decide +kernel
theorem dX10_fewestWoken_41 : decode cX10_fewestWoken 41 = .ok (.iload 4, 2) := by decide +kernel
theorem dX10_fewestWoken_43 : decode cX10_fewestWoken 43 = .ok (.iload_n 2, 1) := by decide +kernel
theorem dX10_fewestWoken_44 : decode cX10_fewestWoken 44 = .ok (.if_icmp .ge 58, 3) := by decide +kernel
theorem dX10_fewestWoken_47 : decode cX10_fewestWoken 47 = .ok (.iload 4, 2) := by decide +kernel
theorem dX10_fewestWoken_49 : decode cX10_fewestWoken 49 = .ok (.invokestatic 234, 3) := by decide +kernel
theorem dX10_fewestWoken_52 : decode cX10_fewestWoken 52 = .ok (.iload_n 3, 1) := by decide +kernel
theorem dX10_fewestWoken_53 : decode cX10_fewestWoken 53 = .ok (.if_icmp .ne 22, 3) := by decide +kernel
theorem dX10_fewestWoken_56 : decode cX10_fewestWoken 56 = .ok (.iload 4, 2) := by decide +kernel
theorem dX10_fewestWoken_58 : decode cX10_fewestWoken 58 = .ok (.aload_n 0, 1) := by decide +kernel
theorem dX10_fewestWoken_59 : decode cX10_fewestWoken 59 = .ok (.getfield 37, 3) := by decide +kernel
theorem dX10_fewestWoken_62 : decode cX10_fewestWoken 62 = .ok (.getfield 274, 3) := by decide +kernel
theorem dX10_fewestWoken_65 : decode cX10_fewestWoken 65 = .ok (.iconst (-1), 1) := by decide +kernel
theorem dX10_fewestWoken_66 : decode cX10_fewestWoken 66 = .ok (.ixor, 1) := by decide +kernel
theorem dX10_fewestWoken_67 : decode cX10_fewestWoken 67 = .ok (.iand, 1) := by decide +kernel
theorem dX10_fewestWoken_68 : decode cX10_fewestWoken 68 = .ok (.ifCond .ne 7, 3) := by decide +kernel
theorem dX10_fewestWoken_71 : decode cX10_fewestWoken 71 = .ok (.iconst 1, 1) := by decide +kernel
theorem dX10_fewestWoken_72 : decode cX10_fewestWoken 72 = .ok (.goto 4, 3) := by decide +kernel
theorem dX10_fewestWoken_75 : decode cX10_fewestWoken 75 = .ok (.iconst 0, 1) := by decide +kernel
theorem dX10_fewestWoken_76 : decode cX10_fewestWoken 76 = .ok (.istore 5, 2) := by decide +kernel
theorem dX10_fewestWoken_78 : decode cX10_fewestWoken 78 = .ok (.iload 5, 2) := by decide +kernel
theorem dX10_fewestWoken_80 : decode cX10_fewestWoken 80 = .ok (.ifCond .eq 16, 3) := by decide +kernel
theorem dX10_fewestWoken_83 : decode cX10_fewestWoken 83 = .ok (.aload_n 0, 1) := by decide +kernel
theorem dX10_fewestWoken_84 : decode cX10_fewestWoken 84 = .ok (.iload_n 1, 1) := by decide +kernel
theorem dX10_fewestWoken_85 : decode cX10_fewestWoken 85 = .ok (.iload 4, 2) := by decide +kernel
theorem dX10_fewestWoken_87 : decode cX10_fewestWoken 87 = .ok (.invokevirtual 277, 3) := by decide +kernel
theorem dX10_fewestWoken_90 : decode cX10_fewestWoken 90 = .ok (.ifCond .eq 6, 3) := by decide +kernel
theorem dX10_fewestWoken_93 : decode cX10_fewestWoken 93 = .ok (.iload 4, 2) := by decide +kernel
theorem dX10_fewestWoken_95 : decode cX10_fewestWoken 95 = .ok (.ireturn, 1) := by decide +kernel
theorem dX10_fewestWoken_96 : decode cX10_fewestWoken 96 = .ok (.iinc 4 1, 3) := by decide +kernel
theorem dX10_fewestWoken_99 : decode cX10_fewestWoken 99 = .ok (.goto (-58), 3) := by decide +kernel
theorem dX10_fewestWoken_102 : decode cX10_fewestWoken 102 = .ok (.iinc 3 1, 3) := by decide +kernel
theorem dX10_fewestWoken_105 : decode cX10_fewestWoken 105 = .ok (.goto (-78), 3) := by decide +kernel
theorem dX10_fewestWoken_108 : decode cX10_fewestWoken 108 = .ok (.iconst (-1), 1) := by decide +kernel
theorem dX10_fewestWoken_109 : decode cX10_fewestWoken 109 = .ok (.ireturn, 1) := by decide +kernel
theorem dX10_staysCalm_0 : decode cX10_staysCalm 0 = .ok (.aload_n 0, 1) := by decide +kernel
theorem dX10_staysCalm_1 : decode cX10_staysCalm 1 = .ok (.getfield 44, 3) := by decide +kernel
theorem dX10_staysCalm_4 : decode cX10_staysCalm 4 = .ok (.aload_n 0, 1) := by decide +kernel
theorem dX10_staysCalm_5 : decode cX10_staysCalm 5 = .ok (.getfield 19, 3) := by decide +kernel
theorem dX10_staysCalm_8 : decode cX10_staysCalm 8 = .ok (.aload_n 0, 1) := by decide +kernel
theorem dX10_staysCalm_9 : decode cX10_staysCalm 9 = .ok (.getfield 26, 3) := by decide +kernel
theorem dX10_staysCalm_12 : decode cX10_staysCalm 12 = .ok (.aload_n 0, 1) := by decide +kernel
theorem dX10_staysCalm_13 : decode cX10_staysCalm 13 = .ok (.getfield 37, 3) := by decide +kernel
theorem dX10_staysCalm_16 : decode cX10_staysCalm 16 = .ok (.iload_n 2, 1) := by decide +kernel
theorem dX10_staysCalm_17 : decode cX10_staysCalm 17 = .ok (.iload_n 1, 1) := by decide +kernel
theorem dX10_staysCalm_18 : decode cX10_staysCalm 18 = .ok (.invokevirtual 226, 3) := by decide +kernel
theorem dX10_staysCalm_21 : decode cX10_staysCalm 21 = .ok (.pop, 1) := by decide +kernel
theorem dX10_staysCalm_22 : decode cX10_staysCalm 22 = .ok (.iconst 0, 1) := by decide +kernel
theorem dX10_staysCalm_23 : decode cX10_staysCalm 23 = .ok (.istore_n 3, 1) := by decide +kernel
theorem dX10_staysCalm_24 : decode cX10_staysCalm 24 = .ok (.iload_n 3, 1) := by decide +kernel
theorem dX10_staysCalm_25 : decode cX10_staysCalm 25 = .ok (.aload_n 0, 1) := by decide +kernel
theorem dX10_staysCalm_26 : decode cX10_staysCalm 26 = .ok (.getfield 19, 3) := by decide +kernel
theorem dX10_staysCalm_29 : decode cX10_staysCalm 29 = .ok (.getfield 111, 3) := by decide +kernel
theorem dX10_staysCalm_32 : decode cX10_staysCalm 32 = .ok (.if_icmp .ge 32, 3) := by decide +kernel
theorem dX10_staysCalm_35 : decode cX10_staysCalm 35 = .ok (.aload_n 0, 1) := by decide +kernel
theorem dX10_staysCalm_36 : decode cX10_staysCalm 36 = .ok (.getfield 44, 3) := by decide +kernel
theorem dX10_staysCalm_39 : decode cX10_staysCalm 39 = .ok (.getfield 230, 3) := by decide +kernel
theorem dX10_staysCalm_42 : decode cX10_staysCalm 42 = .ok (.iload_n 3, 1) := by decide +kernel
theorem dX10_staysCalm_43 : decode cX10_staysCalm 43 = .ok (.invokevirtual 168, 3) := by decide +kernel
theorem dX10_staysCalm_46 : decode cX10_staysCalm 46 = .ok (.aload_n 0, 1) := by decide +kernel
theorem dX10_staysCalm_47 : decode cX10_staysCalm 47 = .ok (.getfield 19, 3) := by decide +kernel
theorem dX10_staysCalm_50 : decode cX10_staysCalm 50 = .ok (.getfield 123, 3) := by decide +kernel
theorem dX10_staysCalm_53 : decode cX10_staysCalm 53 = .ok (.if_icmp .ne 5, 3) := by decide +kernel
theorem dX10_staysCalm_56 : decode cX10_staysCalm 56 = .ok (.iconst 0, 1) := by decide +kernel
theorem dX10_staysCalm_57 : decode cX10_staysCalm 57 = .ok (.ireturn, 1) := by decide +kernel
theorem dX10_staysCalm_58 : decode cX10_staysCalm 58 = .ok (.iinc 3 1, 3) := by decide +kernel
theorem dX10_staysCalm_61 : decode cX10_staysCalm 61 = .ok (.goto (-37), 3) := by decide +kernel
theorem dX10_staysCalm_64 : decode cX10_staysCalm 64 = .ok (.iconst 1, 1) := by decide +kernel
theorem dX10_staysCalm_65 : decode cX10_staysCalm 65 = .ok (.ireturn, 1) := by decide +kernel
theorem dX10_bit_0 : decode cX10_bit 0 = .ok (.iload_n 0, 1) := by decide +kernel
theorem dX10_bit_1 : decode cX10_bit 1 = .ok (.iload_n 1, 1) := by decide +kernel
theorem dX10_bit_2 : decode cX10_bit 2 = .ok (.ishr, 1) := by decide +kernel
theorem dX10_bit_3 : decode cX10_bit 3 = .ok (.iconst 1, 1) := by decide +kernel
theorem dX10_bit_4 : decode cX10_bit 4 = .ok (.iand, 1) := by decide +kernel
theorem dX10_bit_5 : decode cX10_bit 5 = .ok (.ireturn, 1) := by decide +kernel
theorem dX10_greatestShared_0 : decode cX10_greatestShared 0 = .ok (.iload_n 1, 1) := by decide +kernel
theorem dX10_greatestShared_1 : decode cX10_greatestShared 1 = .ok (.istore_n 2, 1) := by decide +kernel
theorem dX10_greatestShared_2 : decode cX10_greatestShared 2 = .ok (.iload_n 2, 1) := by decide +kernel
theorem dX10_greatestShared_3 : decode cX10_greatestShared 3 = .ok (.iconst 1, 1) := by decide +kernel
theorem dX10_greatestShared_4 : decode cX10_greatestShared 4 = .ok (.if_icmp .le 23, 3) := by decide +kernel
theorem dX10_greatestShared_7 : decode cX10_greatestShared 7 = .ok (.iload_n 0, 1) := by decide +kernel
theorem dX10_greatestShared_8 : decode cX10_greatestShared 8 = .ok (.iload_n 2, 1) := by decide +kernel
theorem dX10_greatestShared_9 : decode cX10_greatestShared 9 = .ok (.irem, 1) := by decide +kernel
theorem dX10_greatestShared_10 : decode cX10_greatestShared 10 = .ok (.ifCond .ne 11, 3) := by decide +kernel
theorem dX10_greatestShared_13 : decode cX10_greatestShared 13 = .ok (.iload_n 1, 1) := by decide +kernel
theorem dX10_greatestShared_14 : decode cX10_greatestShared 14 = .ok (.iload_n 2, 1) := by decide +kernel
theorem dX10_greatestShared_15 : decode cX10_greatestShared 15 = .ok (.irem, 1) := by decide +kernel
theorem dX10_greatestShared_16 : decode cX10_greatestShared 16 = .ok (.ifCond .ne 5, 3) := by decide +kernel
theorem dX10_greatestShared_19 : decode cX10_greatestShared 19 = .ok (.iload_n 2, 1) := by decide +kernel
theorem dX10_greatestShared_20 : decode cX10_greatestShared 20 = .ok (.ireturn, 1) := by decide +kernel
theorem dX10_greatestShared_21 : decode cX10_greatestShared 21 = .ok (.iinc 2 (-1), 3) := by decide +kernel
theorem dX10_greatestShared_24 : decode cX10_greatestShared 24 = .ok (.goto (-22), 3) := by decide +kernel
theorem dX10_greatestShared_27 : decode cX10_greatestShared 27 = .ok (.iconst 1, 1) := by decide +kernel
theorem dX10_greatestShared_28 : decode cX10_greatestShared 28 = .ok (.ireturn, 1) := by decide +kernel
end
section
theorem dX11_init_0 : decode cX11_init 0 = .ok (.aload_n 0, 1) := by decide +kernel
theorem dX11_init_1 : decode cX11_init 1 = .ok (.invokespecial 1, 3) := by decide +kernel
theorem dX11_init_4 : decode cX11_init 4 = .ok (.aload_n 0, 1) := by decide +kernel
theorem dX11_init_5 : decode cX11_init 5 = .ok (.sipush 220, 3) := by decide +kernel
theorem dX11_init_8 : decode cX11_init 8 = .ok (.newarray .int, 2) := by decide +kernel
theorem dX11_init_10 : decode cX11_init 10 = .ok (.putfield 7, 3) := by decide +kernel
theorem dX11_init_13 : decode cX11_init 13 = .ok (.aload_n 0, 1) := by decide +kernel
theorem dX11_init_14 : decode cX11_init 14 = .ok (.iconst 2, 1) := by decide +kernel
theorem dX11_init_15 : decode cX11_init 15 = .ok (.newarray .boolean, 2) := by decide +kernel
theorem dX11_init_17 : decode cX11_init 17 = .ok (.putfield 13, 3) := by decide +kernel
theorem dX11_init_20 : decode cX11_init 20 = .ok (.aload_n 0, 1) := by decide +kernel
theorem dX11_init_21 : decode cX11_init 21 = .ok (.bipush 7, 2) := by decide +kernel
theorem dX11_init_23 : decode cX11_init 23 = .ok (.newarray .int, 2) := by decide +kernel
theorem dX11_init_25 : decode cX11_init 25 = .ok (.putfield 17, 3) := by decide +kernel
theorem dX11_init_28 : decode cX11_init 28 = .ok (.aload_n 0, 1) := by decide +kernel
theorem dX11_init_29 : decode cX11_init 29 = .ok (.bipush 7, 2) := by decide +kernel
theorem dX11_init_31 : decode cX11_init 31 = .ok (.newarray .int, 2) := by decide +kernel
theorem dX11_init_33 : decode cX11_init 33 = .ok (.putfield 20, 3) := by decide +kernel
theorem dX11_init_36 : decode cX11_init 36 = .ok (.aload_n 0, 1) := by decide +kernel
theorem dX11_init_37 : decode cX11_init 37 = .ok (.bipush 7, 2) := by decide +kernel
theorem dX11_init_39 : decode cX11_init 39 = .ok (.newarray .int, 2) := by decide +kernel
theorem dX11_init_41 : decode cX11_init 41 = .ok (.putfield 23, 3) := by decide +kernel
theorem dX11_init_44 : decode cX11_init 44 = .ok (.aload_n 0, 1) := by decide +kernel
theorem dX11_init_45 : decode cX11_init 45 = .ok (.sipush 240, 3) := by decide +kernel
theorem dX11_init_48 : decode cX11_init 48 = .ok (.newarray .int, 2) := by decide +kernel
theorem dX11_init_50 : decode cX11_init 50 = .ok (.putfield 26, 3) := by decide +kernel
theorem dX11_init_53 : decode cX11_init 53 = .ok (.aload_n 0, 1) := by decide +kernel
theorem dX11_init_54 : decode cX11_init 54 = .ok (.iconst (-1), 1) := by decide +kernel
theorem dX11_init_55 : decode cX11_init 55 = .ok (.putfield 29, 3) := by decide +kernel
theorem dX11_init_58 : decode cX11_init 58 = .ok (.aload_n 0, 1) := by decide +kernel
theorem dX11_init_59 : decode cX11_init 59 = .ok (.bipush 30, 2) := by decide +kernel
theorem dX11_init_61 : decode cX11_init 61 = .ok (.newarray .int, 2) := by decide +kernel
theorem dX11_init_63 : decode cX11_init 63 = .ok (.putfield 33, 3) := by decide +kernel
theorem dX11_init_66 : decode cX11_init 66 = .ok (.aload_n 0, 1) := by decide +kernel
theorem dX11_init_67 : decode cX11_init 67 = .ok (.bipush 21, 2) := by decide +kernel
theorem dX11_init_69 : decode cX11_init 69 = .ok (.newarray .int, 2) := by decide +kernel
theorem dX11_init_71 : decode cX11_init 71 = .ok (.putfield 36, 3) := by decide +kernel
theorem dX11_init_74 : decode cX11_init 74 = .ok (.aload_n 0, 1) := by decide +kernel
theorem dX11_init_75 : decode cX11_init 75 = .ok (.sipush 512, 3) := by decide +kernel
theorem dX11_init_78 : decode cX11_init 78 = .ok (.newarray .int, 2) := by decide +kernel
theorem dX11_init_80 : decode cX11_init 80 = .ok (.putfield 39, 3) := by decide +kernel
theorem dX11_init_83 : decode cX11_init 83 = .ok (.aload_n 0, 1) := by decide +kernel
theorem dX11_init_84 : decode cX11_init 84 = .ok (.bipush 7, 2) := by decide +kernel
theorem dX11_init_86 : decode cX11_init 86 = .ok (.newarray .int, 2) := by decide +kernel
theorem dX11_init_88 : decode cX11_init 88 = .ok (.putfield 42, 3) := by decide +kernel
theorem dX11_init_91 : decode cX11_init 91 = .ok (.aload_n 0, 1) := by decide +kernel
theorem dX11_init_92 : decode cX11_init 92 = .ok (.bipush 7, 2) := by decide +kernel
theorem dX11_init_94 : decode cX11_init 94 = .ok (.newarray .int, 2) := by decide +kernel
theorem dX11_init_96 : decode cX11_init 96 = .ok (.putfield 45, 3) := by decide +kernel
theorem dX11_init_99 : decode cX11_init 99 = .ok (.aload_n 0, 1) := by decide +kernel
theorem dX11_init_100 : decode cX11_init 100 = .ok (.bipush 8, 2) := by decide +kernel
theorem dX11_init_102 : decode cX11_init 102 = .ok (.newarray .int, 2) := by decide +kernel
theorem dX11_init_104 : decode cX11_init 104 = .ok (.putfield 48, 3) := by decide +kernel
theorem dX11_init_107 : decode cX11_init 107 = .ok (.aload_n 0, 1) := by decide +kernel
theorem dX11_init_108 : decode cX11_init 108 = .ok (.bipush 7, 2) := by decide +kernel
theorem dX11_init_110 : decode cX11_init 110 = .ok (.newarray .int, 2) := by decide +kernel
theorem dX11_init_112 : decode cX11_init 112 = .ok (.putfield 51, 3) := by decide +kernel
theorem dX11_init_115 : decode cX11_init 115 = .ok (.aload_n 0, 1) := by decide +kernel
theorem dX11_init_116 : decode cX11_init 116 = .ok (.bipush 7, 2) := by decide +kernel
theorem dX11_init_118 : decode cX11_init 118 = .ok (.newarray .int, 2) := by decide +kernel
theorem dX11_init_120 : decode cX11_init 120 = .ok (.putfield 54, 3) := by decide +kernel
theorem dX11_init_123 : decode cX11_init 123 = .ok (.aload_n 0, 1) := by decide +kernel
theorem dX11_init_124 : decode cX11_init 124 = .ok (.bipush 8, 2) := by decide +kernel
theorem dX11_init_126 : decode cX11_init 126 = .ok (.newarray .long, 2) := by decide +kernel
theorem dX11_init_128 : decode cX11_init 128 = .ok (.putfield 57, 3) := by decide +kernel
theorem dX11_init_131 : decode cX11_init 131 = .ok (.aload_n 0, 1) := by decide +kernel
theorem dX11_init_132 : decode cX11_init 132 = .ok (.bipush 15, 2) := by decide +kernel
theorem dX11_init_134 : decode cX11_init 134 = .ok (.newarray .int, 2) := by decide +kernel
theorem dX11_init_136 : decode cX11_init 136 = .ok (.putfield 61, 3) := by decide +kernel
theorem dX11_init_139 : decode cX11_init 139 = .ok (.aload_n 0, 1) := by decide +kernel
theorem dX11_init_140 : decode cX11_init 140 = .ok (.bipush 15, 2) := by decide +kernel
theorem dX11_init_142 : decode cX11_init 142 = .ok (.newarray .int, 2) := by decide +kernel
theorem dX11_init_144 : decode cX11_init 144 = .ok (.putfield 64, 3) := by decide +kernel
theorem dX11_init_147 : decode cX11_init 147 = .ok (.aload_n 0, 1) := by decide +kernel
theorem dX11_init_148 : decode cX11_init 148 = .ok (.bipush 15, 2) := by decide +kernel
theorem dX11_init_150 : decode cX11_init 150 = .ok (.newarray .int, 2) := by decide +kernel
theorem dX11_init_152 : decode cX11_init 152 = .ok (.putfield 67, 3) := by decide +kernel
theorem dX11_init_155 : decode cX11_init 155 = .ok (.aload_n 0, 1) := by decide +kernel
theorem dX11_init_156 : decode cX11_init 156 = .ok (.invokevirtual 70, 3) := by decide +kernel
theorem dX11_init_159 : decode cX11_init 159 = .ok (.return_, 1) := by decide +kernel
theorem dX11_in_0 : decode cX11_in 0 = .ok (.lload_n 0, 1) := by decide +kernel
theorem dX11_in_1 : decode cX11_in 1 = .ok (.lload_n 2, 1) := by decide +kernel
theorem dX11_in_2 : decode cX11_in 2 = .ok (.lcmp, 1) := by decide +kernel
theorem dX11_in_3 : decode cX11_in 3 = .ok (.ifCond .lt 14, 3) := by decide +kernel
theorem dX11_in_6 : decode cX11_in 6 = .ok (.lload_n 0, 1) := by decide +kernel
theorem dX11_in_7 : decode cX11_in 7 = .ok (.lload 4, 2) := by decide +kernel
theorem dX11_in_9 : decode cX11_in 9 = .ok (.lcmp, 1) := by decide +kernel
theorem dX11_in_10 : decode cX11_in 10 = .ok (.ifCond .gt 7, 3) := by decide +kernel
theorem dX11_in_13 : decode cX11_in 13 = .ok (.iconst 1, 1) := by decide +kernel
theorem dX11_in_14 : decode cX11_in 14 = .ok (.goto 4, 3) := by decide +kernel
theorem dX11_in_17 : decode cX11_in 17 = .ok (.iconst 0, 1) := by decide +kernel
theorem dX11_in_18 : decode cX11_in 18 = .ok (.ireturn, 1) := by decide +kernel
theorem dX11_has_0 : decode cX11_has 0 = .ok (.iload_n 0, 1) := by decide +kernel
theorem dX11_has_1 : decode cX11_has 1 = .ok (.iload_n 1, 1) := by decide +kernel
theorem dX11_has_2 : decode cX11_has 2 = .ok (.ishr, 1) := by decide +kernel
theorem dX11_has_3 : decode cX11_has 3 = .ok (.iconst 1, 1) := by decide +kernel
theorem dX11_has_4 : decode cX11_has 4 = .ok (.iand, 1) := by decide +kernel
theorem dX11_has_5 : decode cX11_has 5 = .ok (.iconst 1, 1) := by decide +kernel
theorem dX11_has_6 : decode cX11_has 6 = .ok (.if_icmp .ne 7, 3) := by decide +kernel
theorem dX11_has_9 : decode cX11_has 9 = .ok (.iconst 1, 1) := by decide +kernel
theorem dX11_has_10 : decode cX11_has 10 = .ok (.goto 4, 3) := by decide +kernel
theorem dX11_has_13 : decode cX11_has 13 = .ok (.iconst 0, 1) := by decide +kernel
theorem dX11_has_14 : decode cX11_has 14 = .ok (.ireturn, 1) := by decide +kernel
theorem dX11_ones_0 : decode cX11_ones 0 = .ok (.iconst 0, 1) := by decide +kernel
theorem dX11_ones_1 : decode cX11_ones 1 = .ok (.istore_n 1, 1) := by decide +kernel
theorem dX11_ones_2 : decode cX11_ones 2 = .ok (.iconst 0, 1) := by decide +kernel
theorem dX11_ones_3 : decode cX11_ones 3 = .ok (.istore_n 2, 1) := by decide +kernel
theorem dX11_ones_4 : decode cX11_ones 4 = .ok (.iload_n 2, 1) := by decide +kernel
theorem dX11_ones_5 : decode cX11_ones 5 = .ok (.bipush 7, 2) := by decide +kernel
theorem dX11_ones_7 : decode cX11_ones 7 = .ok (.if_icmp .ge 17, 3) := by decide +kernel
theorem dX11_ones_10 : decode cX11_ones 10 = .ok (.iload_n 1, 1) := by decide +kernel
theorem dX11_ones_11 : decode cX11_ones 11 = .ok (.iload_n 0, 1) := by decide +kernel
theorem dX11_ones_12 : decode cX11_ones 12 = .ok (.iload_n 2, 1) := by decide +kernel
theorem dX11_ones_13 : decode cX11_ones 13 = .ok (.ishr, 1) := by decide +kernel
theorem dX11_ones_14 : decode cX11_ones 14 = .ok (.iconst 1, 1) := by decide +kernel
theorem dX11_ones_15 : decode cX11_ones 15 = .ok (.iand, 1) := by decide +kernel
theorem dX11_ones_16 : decode cX11_ones 16 = .ok (.iadd, 1) := by decide +kernel
theorem dX11_ones_17 : decode cX11_ones 17 = .ok (.istore_n 1, 1) := by decide +kernel
theorem dX11_ones_18 : decode cX11_ones 18 = .ok (.iinc 2 1, 3) := by decide +kernel
theorem dX11_ones_21 : decode cX11_ones 21 = .ok (.goto (-17), 3) := by decide +kernel
theorem dX11_ones_24 : decode cX11_ones 24 = .ok (.iload_n 1, 1) := by decide +kernel
theorem dX11_ones_25 : decode cX11_ones 25 = .ok (.ireturn, 1) := by decide +kernel
theorem dX11_copy_0 : decode cX11_copy 0 = .ok (.iconst 0, 1) := by decide +kernel
theorem dX11_copy_1 : decode cX11_copy 1 = .ok (.istore_n 3, 1) := by decide +kernel
theorem dX11_copy_2 : decode cX11_copy 2 = .ok (.iload_n 3, 1) := by decide +kernel
theorem dX11_copy_3 : decode cX11_copy 3 = .ok (.bipush 55, 2) := by decide +kernel
theorem dX11_copy_5 : decode cX11_copy 5 = .ok (.if_icmp .ge 25, 3) := by decide +kernel
theorem dX11_copy_8 : decode cX11_copy 8 = .ok (.aload_n 0, 1) := by decide +kernel
theorem dX11_copy_9 : decode cX11_copy 9 = .ok (.getfield 7, 3) := by decide +kernel
theorem dX11_copy_12 : decode cX11_copy 12 = .ok (.iload_n 2, 1) := by decide +kernel
theorem dX11_copy_13 : decode cX11_copy 13 = .ok (.iload_n 3, 1) := by decide +kernel
theorem dX11_copy_14 : decode cX11_copy 14 = .ok (.iadd, 1) := by decide +kernel
theorem dX11_copy_15 : decode cX11_copy 15 = .ok (.aload_n 0, 1) := by decide +kernel
theorem dX11_copy_16 : decode cX11_copy 16 = .ok (.getfield 7, 3) := by decide +kernel
theorem dX11_copy_19 : decode cX11_copy 19 = .ok (.iload_n 1, 1) := by decide +kernel
theorem dX11_copy_20 : decode cX11_copy 20 = .ok (.iload_n 3, 1) := by decide +kernel
theorem dX11_copy_21 : decode cX11_copy 21 = .ok (.iadd, 1) := by decide +kernel
theorem dX11_copy_22 : decode cX11_copy 22 = .ok (.iaload, 1) := by decide +kernel
theorem dX11_copy_23 : decode cX11_copy 23 = .ok (.iastore, 1) := by decide +kernel
theorem dX11_copy_24 : decode cX11_copy 24 = .ok (.iinc 3 1, 3) := by decide +kernel
theorem dX11_copy_27 : decode cX11_copy 27 = .ok (.goto (-25), 3) := by decide +kernel
theorem dX11_copy_30 : decode cX11_copy 30 = .ok (.return_, 1) := by decide +kernel
theorem dX11_begins_0 : decode cX11_begins 0 = .ok (.aload_n 0, 1) := by decide +kernel
theorem dX11_begins_1 : decode cX11_begins 1 = .ok (.getfield 7, 3) := by decide +kernel
theorem dX11_begins_4 : decode cX11_begins 4 = .ok (.bipush 54, 2) := by decide +kernel
theorem dX11_begins_6 : decode cX11_begins 6 = .ok (.iaload, 1) := by decide +kernel
theorem dX11_begins_7 : decode cX11_begins 7 = .ok (.istore_n 1, 1) := by decide +kernel
theorem dX11_begins_8 : decode cX11_begins 8 = .ok (.iconst 0, 1) := by decide +kernel
theorem dX11_begins_9 : decode cX11_begins 9 = .ok (.istore_n 2, 1) := by decide +kernel
theorem dX11_begins_10 : decode cX11_begins 10 = .ok (.iload_n 2, 1) := by decide +kernel
theorem dX11_begins_11 : decode cX11_begins 11 = .ok (.bipush 55, 2) := by decide +kernel
theorem dX11_begins_13 : decode cX11_begins 13 = .ok (.if_icmp .ge 16, 3) := by decide +kernel
theorem dX11_begins_16 : decode cX11_begins 16 = .ok (.aload_n 0, 1) := by decide +kernel
theorem dX11_begins_17 : decode cX11_begins 17 = .ok (.getfield 7, 3) := by decide +kernel
theorem dX11_begins_20 : decode cX11_begins 20 = .ok (.iload_n 2, 1) := by decide +kernel
theorem dX11_begins_21 : decode cX11_begins 21 = .ok (.iconst 0, 1) := by decide +kernel
theorem dX11_begins_22 : decode cX11_begins 22 = .ok (.iastore, 1) := by decide +kernel
theorem dX11_begins_23 : decode cX11_begins 23 = .ok (.iinc 2 1, 3) := by decide +kernel
theorem dX11_begins_26 : decode cX11_begins 26 = .ok (.goto (-16), 3) := by decide +kernel
theorem dX11_begins_29 : decode cX11_begins 29 = .ok (.iconst 0, 1) := by decide +kernel
theorem dX11_begins_30 : decode cX11_begins 30 = .ok (.istore_n 2, 1) := by decide +kernel
theorem dX11_begins_31 : decode cX11_begins 31 = .ok (.iload_n 2, 1) := by decide +kernel
theorem dX11_begins_32 : decode cX11_begins 32 = .ok (.bipush 7, 2) := by decide +kernel
theorem dX11_begins_34 : decode cX11_begins 34 = .ok (.if_icmp .ge 29, 3) := by decide +kernel
theorem dX11_begins_37 : decode cX11_begins 37 = .ok (.aload_n 0, 1) := by decide +kernel
theorem dX11_begins_38 : decode cX11_begins 38 = .ok (.getfield 7, 3) := by decide +kernel
theorem dX11_begins_41 : decode cX11_begins 41 = .ok (.bipush 30, 2) := by decide +kernel
theorem dX11_begins_43 : decode cX11_begins 43 = .ok (.iload_n 2, 1) := by decide +kernel
theorem dX11_begins_44 : decode cX11_begins 44 = .ok (.iadd, 1) := by decide +kernel
theorem dX11_begins_45 : decode cX11_begins 45 = .ok (.iconst (-1), 1) := by decide +kernel
theorem dX11_begins_46 : decode cX11_begins 46 = .ok (.iastore, 1) := by decide +kernel
theorem dX11_begins_47 : decode cX11_begins 47 = .ok (.aload_n 0, 1) := by decide +kernel
theorem dX11_begins_48 : decode cX11_begins 48 = .ok (.getfield 7, 3) := by decide +kernel
theorem dX11_begins_51 : decode cX11_begins 51 = .ok (.bipush 37, 2) := by decide +kernel
theorem dX11_begins_53 : decode cX11_begins 53 = .ok (.iload_n 2, 1) := by decide +kernel
theorem dX11_begins_54 : decode cX11_begins 54 = .ok (.iadd, 1) := by decide +kernel
theorem dX11_begins_55 : decode cX11_begins 55 = .ok (.iconst (-1), 1) := by decide +kernel
theorem dX11_begins_56 : decode cX11_begins 56 = .ok (.iastore, 1) := by decide +kernel
theorem dX11_begins_57 : decode cX11_begins 57 = .ok (.iinc 2 1, 3) := by decide +kernel
theorem dX11_begins_60 : decode cX11_begins 60 = .ok (.goto (-29), 3) := by decide +kernel
theorem dX11_begins_63 : decode cX11_begins 63 = .ok (.aload_n 0, 1) := by decide +kernel
theorem dX11_begins_64 : decode cX11_begins 64 = .ok (.getfield 7, 3) := by decide +kernel
theorem dX11_begins_67 : decode cX11_begins 67 = .ok (.bipush 54, 2) := by decide +kernel
theorem dX11_begins_69 : decode cX11_begins 69 = .ok (.iload_n 1, 1) := by decide +kernel
theorem dX11_begins_70 : decode cX11_begins 70 = .ok (.iastore, 1) := by decide +kernel
theorem dX11_begins_71 : decode cX11_begins 71 = .ok (.return_, 1) := by decide +kernel
theorem dX11_isSleeper_0 : decode cX11_isSleeper 0 = .ok (.iload_n 1, 1) := by decide +kernel
theorem dX11_isSleeper_1 : decode cX11_isSleeper 1 = .ok (.i2l, 1) := by decide +kernel
theorem dX11_isSleeper_2 : decode cX11_isSleeper 2 = .ok (.lconst 0, 1) := by decide +kernel
theorem dX11_isSleeper_3 : decode cX11_isSleeper 3 = .ok (.aload_n 0, 1) := by decide +kernel
theorem dX11_isSleeper_4 : decode cX11_isSleeper 4 = .ok (.getfield 73, 3) := by decide +kernel
theorem dX11_isSleeper_7 : decode cX11_isSleeper 7 = .ok (.iconst 1, 1) := by decide +kernel
theorem dX11_isSleeper_8 : decode cX11_isSleeper 8 = .ok (.isub, 1) := by decide +kernel
theorem dX11_isSleeper_9 : decode cX11_isSleeper 9 = .ok (.i2l, 1) := by decide +kernel
theorem dX11_isSleeper_10 : decode cX11_isSleeper 10 = .ok (.invokestatic 76, 3) := by decide +kernel
theorem dX11_isSleeper_13 : decode cX11_isSleeper 13 = .ok (.ireturn, 1) := by decide +kernel
theorem dX11_isDream_0 : decode cX11_isDream 0 = .ok (.iload_n 1, 1) := by decide +kernel
theorem dX11_isDream_1 : decode cX11_isDream 1 = .ok (.i2l, 1) := by decide +kernel
theorem dX11_isDream_2 : decode cX11_isDream 2 = .ok (.lconst 0, 1) := by decide +kernel
theorem dX11_isDream_3 : decode cX11_isDream 3 = .ok (.aload_n 0, 1) := by decide +kernel
theorem dX11_isDream_4 : decode cX11_isDream 4 = .ok (.getfield 80, 3) := by decide +kernel
theorem dX11_isDream_7 : decode cX11_isDream 7 = .ok (.iconst 1, 1) := by decide +kernel
theorem dX11_isDream_8 : decode cX11_isDream 8 = .ok (.isub, 1) := by decide +kernel
theorem dX11_isDream_9 : decode cX11_isDream 9 = .ok (.i2l, 1) := by decide +kernel
theorem dX11_isDream_10 : decode cX11_isDream 10 = .ok (.invokestatic 76, 3) := by decide +kernel
theorem dX11_isDream_13 : decode cX11_isDream 13 = .ok (.ireturn, 1) := by decide +kernel
theorem dX11_isLoaf_0 : decode cX11_isLoaf 0 = .ok (.iload_n 1, 1) := by decide +kernel
theorem dX11_isLoaf_1 : decode cX11_isLoaf 1 = .ok (.i2l, 1) := by decide +kernel
theorem dX11_isLoaf_2 : decode cX11_isLoaf 2 = .ok (.lconst 0, 1) := by decide +kernel
theorem dX11_isLoaf_3 : decode cX11_isLoaf 3 = .ok (.aload_n 0, 1) := by decide +kernel
theorem dX11_isLoaf_4 : decode cX11_isLoaf 4 = .ok (.getfield 83, 3) := by decide +kernel
theorem dX11_isLoaf_7 : decode cX11_isLoaf 7 = .ok (.iconst 1, 1) := by decide +kernel
theorem dX11_isLoaf_8 : decode cX11_isLoaf 8 = .ok (.isub, 1) := by decide +kernel
theorem dX11_isLoaf_9 : decode cX11_isLoaf 9 = .ok (.i2l, 1) := by decide +kernel
theorem dX11_isLoaf_10 : decode cX11_isLoaf 10 = .ok (.invokestatic 76, 3) := by decide +kernel
theorem dX11_isLoaf_13 : decode cX11_isLoaf 13 = .ok (.ireturn, 1) := by decide +kernel
theorem dX11_feed_0 : decode cX11_feed 0 = .ok (.iload_n 1, 1) := by decide +kernel
theorem dX11_feed_1 : decode cX11_feed 1 = .ok (.i2l, 1) := by decide +kernel
theorem dX11_feed_2 : decode cX11_feed 2 = .ok (.lconst 0, 1) := by decide +kernel
theorem dX11_feed_3 : decode cX11_feed 3 = .ok (.ldc2_w 86, 3) := by decide +kernel
theorem dX11_feed_6 : decode cX11_feed 6 = .ok (.invokestatic 76, 3) := by decide +kernel
theorem dX11_feed_9 : decode cX11_feed 9 = .ok (.ifCond .ne 6, 3) := by decide +kernel
theorem dX11_feed_12 : decode cX11_feed 12 = .ok (.ldc 88, 2) := by decide +kernel
theorem dX11_feed_14 : decode cX11_feed 14 = .ok (.ireturn, 1) := by decide +kernel
theorem dX11_feed_15 : decode cX11_feed 15 = .ok (.aload_n 0, 1) := by decide +kernel
theorem dX11_feed_16 : decode cX11_feed 16 = .ok (.getfield 89, 3) := by decide +kernel
theorem dX11_feed_19 : decode cX11_feed 19 = .ok (.sipush 240, 3) := by decide +kernel
theorem dX11_feed_22 : decode cX11_feed 22 = .ok (.if_icmp .ne 6, 3) := by decide +kernel
theorem dX11_feed_25 : decode cX11_feed 25 = .ok (.ldc 92, 2) := by decide +kernel
theorem dX11_feed_27 : decode cX11_feed 27 = .ok (.ireturn, 1) := by decide +kernel
theorem dX11_feed_28 : decode cX11_feed 28 = .ok (.aload_n 0, 1) := by decide +kernel
theorem dX11_feed_29 : decode cX11_feed 29 = .ok (.getfield 26, 3) := by decide +kernel
theorem dX11_feed_32 : decode cX11_feed 32 = .ok (.aload_n 0, 1) := by decide +kernel
theorem dX11_feed_33 : decode cX11_feed 33 = .ok (.getfield 89, 3) := by decide +kernel
theorem dX11_feed_36 : decode cX11_feed 36 = .ok (.iload_n 1, 1) := by decide +kernel
theorem dX11_feed_37 : decode cX11_feed 37 = .ok (.iastore, 1) := by decide +kernel
theorem dX11_feed_38 : decode cX11_feed 38 = .ok (.aload_n 0, 1) := by decide +kernel
theorem dX11_feed_39 : decode cX11_feed 39 = .ok (.dup, 1) := by decide +kernel
theorem dX11_feed_40 : decode cX11_feed 40 = .ok (.getfield 89, 3) := by decide +kernel
theorem dX11_feed_43 : decode cX11_feed 43 = .ok (.iconst 1, 1) := by decide +kernel
theorem dX11_feed_44 : decode cX11_feed 44 = .ok (.iadd, 1) := by decide +kernel
theorem dX11_feed_45 : decode cX11_feed 45 = .ok (.putfield 89, 3) := by decide +kernel
theorem dX11_feed_48 : decode cX11_feed 48 = .ok (.aload_n 0, 1) := by decide +kernel
theorem dX11_feed_49 : decode cX11_feed 49 = .ok (.getfield 89, 3) := by decide +kernel
theorem dX11_feed_52 : decode cX11_feed 52 = .ok (.ireturn, 1) := by decide +kernel
theorem dX11_letterAt_0 : decode cX11_letterAt 0 = .ok (.iload_n 1, 1) := by decide +kernel
theorem dX11_letterAt_1 : decode cX11_letterAt 1 = .ok (.aload_n 0, 1) := by decide +kernel
theorem dX11_letterAt_2 : decode cX11_letterAt 2 = .ok (.getfield 89, 3) := by decide +kernel
theorem dX11_letterAt_5 : decode cX11_letterAt 5 = .ok (.if_icmp .ge 12, 3) := by decide +kernel
theorem dX11_letterAt_8 : decode cX11_letterAt 8 = .ok (.aload_n 0, 1) := by decide +kernel
theorem dX11_letterAt_9 : decode cX11_letterAt 9 = .ok (.getfield 26, 3) := by decide +kernel
theorem dX11_letterAt_12 : decode cX11_letterAt 12 = .ok (.iload_n 1, 1) := by decide +kernel
theorem dX11_letterAt_13 : decode cX11_letterAt 13 = .ok (.iaload, 1) := by decide +kernel
theorem dX11_letterAt_14 : decode cX11_letterAt 14 = .ok (.goto 4, 3) := by decide +kernel
theorem dX11_letterAt_17 : decode cX11_letterAt 17 = .ok (.iconst (-1), 1) := by decide +kernel
theorem dX11_letterAt_18 : decode cX11_letterAt 18 = .ok (.ireturn, 1) := by decide +kernel
theorem dX11_here_0 : decode cX11_here 0 = .ok (.aload_n 0, 1) := by decide +kernel
theorem dX11_here_1 : decode cX11_here 1 = .ok (.aload_n 0, 1) := by decide +kernel
theorem dX11_here_2 : decode cX11_here 2 = .ok (.getfield 93, 3) := by decide +kernel
theorem dX11_here_5 : decode cX11_here 5 = .ok (.invokevirtual 96, 3) := by decide +kernel
theorem dX11_here_8 : decode cX11_here 8 = .ok (.bipush 32, 2) := by decide +kernel
theorem dX11_here_10 : decode cX11_here 10 = .ok (.if_icmp .ne 16, 3) := by decide +kernel
theorem dX11_here_13 : decode cX11_here 13 = .ok (.aload_n 0, 1) := by decide +kernel
theorem dX11_here_14 : decode cX11_here 14 = .ok (.dup, 1) := by decide +kernel
theorem dX11_here_15 : decode cX11_here 15 = .ok (.getfield 93, 3) := by decide +kernel
theorem dX11_here_18 : decode cX11_here 18 = .ok (.iconst 1, 1) := by decide +kernel
theorem dX11_here_19 : decode cX11_here 19 = .ok (.iadd, 1) := by decide +kernel
theorem dX11_here_20 : decode cX11_here 20 = .ok (.putfield 93, 3) := by decide +kernel
theorem dX11_here_23 : decode cX11_here 23 = .ok (.goto (-23), 3) := by decide +kernel
theorem dX11_here_26 : decode cX11_here 26 = .ok (.aload_n 0, 1) := by decide +kernel
theorem dX11_here_27 : decode cX11_here 27 = .ok (.aload_n 0, 1) := by decide +kernel
theorem dX11_here_28 : decode cX11_here 28 = .ok (.getfield 93, 3) := by decide +kernel
theorem dX11_here_31 : decode cX11_here 31 = .ok (.putfield 100, 3) := by decide +kernel
theorem dX11_here_34 : decode cX11_here 34 = .ok (.aload_n 0, 1) := by decide +kernel
theorem dX11_here_35 : decode cX11_here 35 = .ok (.aload_n 0, 1) := by decide +kernel
theorem dX11_here_36 : decode cX11_here 36 = .ok (.getfield 93, 3) := by decide +kernel
theorem dX11_here_39 : decode cX11_here 39 = .ok (.invokevirtual 96, 3) := by decide +kernel
theorem dX11_here_42 : decode cX11_here 42 = .ok (.ireturn, 1) := by decide +kernel
theorem dX11_fails_0 : decode cX11_fails 0 = .ok (.aload_n 0, 1) := by decide +kernel
theorem dX11_fails_1 : decode cX11_fails 1 = .ok (.iload_n 1, 1) := by decide +kernel
theorem dX11_fails_2 : decode cX11_fails 2 = .ok (.putfield 103, 3) := by decide +kernel
theorem dX11_fails_5 : decode cX11_fails 5 = .ok (.aload_n 0, 1) := by decide +kernel
theorem dX11_fails_6 : decode cX11_fails 6 = .ok (.iload_n 2, 1) := by decide +kernel
theorem dX11_fails_7 : decode cX11_fails 7 = .ok (.putfield 29, 3) := by decide +kernel
theorem dX11_fails_10 : decode cX11_fails 10 = .ok (.iconst 0, 1) := by decide +kernel
theorem dX11_fails_11 : decode cX11_fails 11 = .ok (.ireturn, 1) := by decide +kernel
theorem dX11_takes_0 : decode cX11_takes 0 = .ok (.aload_n 0, 1) := by decide +kernel
theorem dX11_takes_1 : decode cX11_takes 1 = .ok (.invokevirtual 106, 3) := by decide +kernel
theorem dX11_takes_4 : decode cX11_takes 4 = .ok (.iload_n 1, 1) := by decide +kernel
theorem dX11_takes_5 : decode cX11_takes 5 = .ok (.if_icmp .eq 13, 3) := by decide +kernel
theorem dX11_takes_8 : decode cX11_takes 8 = .ok (.aload_n 0, 1) := by decide +kernel
theorem dX11_takes_9 : decode cX11_takes 9 = .ok (.iconst 1, 1) := by decide +kernel
theorem dX11_takes_10 : decode cX11_takes 10 = .ok (.aload_n 0, 1) := by decide +kernel
theorem dX11_takes_11 : decode cX11_takes 11 = .ok (.getfield 100, 3) := by decide +kernel
theorem dX11_takes_14 : decode cX11_takes 14 = .ok (.invokevirtual 110, 3) := by decide +kernel
theorem dX11_takes_17 : decode cX11_takes 17 = .ok (.ireturn, 1) := by decide +kernel
theorem dX11_takes_18 : decode cX11_takes 18 = .ok (.aload_n 0, 1) := by decide +kernel
theorem dX11_takes_19 : decode cX11_takes 19 = .ok (.dup, 1) := by decide +kernel
theorem dX11_takes_20 : decode cX11_takes 20 = .ok (.getfield 93, 3) := by decide +kernel
theorem dX11_takes_23 : decode cX11_takes 23 = .ok (.iconst 1, 1) := by decide +kernel
theorem dX11_takes_24 : decode cX11_takes 24 = .ok (.iadd, 1) := by decide +kernel
theorem dX11_takes_25 : decode cX11_takes 25 = .ok (.putfield 93, 3) := by decide +kernel
theorem dX11_takes_28 : decode cX11_takes 28 = .ok (.iconst 1, 1) := by decide +kernel
theorem dX11_takes_29 : decode cX11_takes 29 = .ok (.ireturn, 1) := by decide +kernel
theorem dX11_takesNumber_0 : decode cX11_takesNumber 0 = .ok (.aload_n 0, 1) := by decide +kernel
theorem dX11_takesNumber_1 : decode cX11_takesNumber 1 = .ok (.invokevirtual 106, 3) := by decide +kernel
theorem dX11_takesNumber_4 : decode cX11_takesNumber 4 = .ok (.i2l, 1) := by decide +kernel
theorem dX11_takesNumber_5 : decode cX11_takesNumber 5 = .ok (.ldc2_w 114, 3) := by decide +kernel
theorem dX11_takesNumber_8 : decode cX11_takesNumber 8 = .ok (.ldc2_w 116, 3) := by decide +kernel
theorem dX11_takesNumber_11 : decode cX11_takesNumber 11 = .ok (.invokestatic 76, 3) := by decide +kernel
theorem dX11_takesNumber_14 : decode cX11_takesNumber 14 = .ok (.ifCond .ne 13, 3) := by decide +kernel
theorem dX11_takesNumber_17 : decode cX11_takesNumber 17 = .ok (.aload_n 0, 1) := by decide +kernel
theorem dX11_takesNumber_18 : decode cX11_takesNumber 18 = .ok (.iconst 1, 1) := by decide +kernel
theorem dX11_takesNumber_19 : decode cX11_takesNumber 19 = .ok (.aload_n 0, 1) := by decide +kernel
theorem dX11_takesNumber_20 : decode cX11_takesNumber 20 = .ok (.getfield 100, 3) := by decide +kernel
theorem dX11_takesNumber_23 : decode cX11_takesNumber 23 = .ok (.invokevirtual 110, 3) := by decide +kernel
theorem dX11_takesNumber_26 : decode cX11_takesNumber 26 = .ok (.ireturn, 1) := by decide +kernel
theorem dX11_takesNumber_27 : decode cX11_takesNumber 27 = .ok (.aload_n 0, 1) := by decide +kernel
theorem dX11_takesNumber_28 : decode cX11_takesNumber 28 = .ok (.iconst 0, 1) := by decide +kernel
theorem dX11_takesNumber_29 : decode cX11_takesNumber 29 = .ok (.putfield 118, 3) := by decide +kernel
theorem dX11_takesNumber_32 : decode cX11_takesNumber 32 = .ok (.aload_n 0, 1) := by decide +kernel
theorem dX11_takesNumber_33 : decode cX11_takesNumber 33 = .ok (.aload_n 0, 1) := by decide +kernel
theorem dX11_takesNumber_34 : decode cX11_takesNumber 34 = .ok (.getfield 93, 3) := by decide +kernel
theorem dX11_takesNumber_37 : decode cX11_takesNumber 37 = .ok (.invokevirtual 96, 3) := by decide +kernel
theorem dX11_takesNumber_40 : decode cX11_takesNumber 40 = .ok (.i2l, 1) := by decide +kernel
theorem dX11_takesNumber_41 : decode cX11_takesNumber 41 = .ok (.ldc2_w 114, 3) := by decide +kernel
theorem dX11_takesNumber_44 : decode cX11_takesNumber 44 = .ok (.ldc2_w 116, 3) := by decide +kernel
theorem dX11_takesNumber_47 : decode cX11_takesNumber 47 = .ok (.invokestatic 76, 3) := by decide +kernel
theorem dX11_takesNumber_50 : decode cX11_takesNumber 50 = .ok (.ifCond .eq 59, 3) := by decide +kernel
theorem dX11_takesNumber_53 : decode cX11_takesNumber 53 = .ok (.aload_n 0, 1) := by decide +kernel
theorem dX11_takesNumber_54 : decode cX11_takesNumber 54 = .ok (.aload_n 0, 1) := by decide +kernel
theorem dX11_takesNumber_55 : decode cX11_takesNumber 55 = .ok (.getfield 93, 3) := by decide +kernel
theorem dX11_takesNumber_58 : decode cX11_takesNumber 58 = .ok (.aload_n 0, 1) := by decide +kernel
theorem dX11_takesNumber_59 : decode cX11_takesNumber 59 = .ok (.getfield 100, 3) := by decide +kernel
theorem dX11_takesNumber_62 : decode cX11_takesNumber 62 = .ok (.isub, 1) := by decide +kernel
theorem dX11_takesNumber_63 : decode cX11_takesNumber 63 = .ok (.iconst 3, 1) := by decide +kernel
theorem dX11_takesNumber_64 : decode cX11_takesNumber 64 = .ok (.if_icmp .ge 25, 3) := by decide +kernel
theorem dX11_takesNumber_67 : decode cX11_takesNumber 67 = .ok (.bipush 10, 2) := by decide +kernel
theorem dX11_takesNumber_69 : decode cX11_takesNumber 69 = .ok (.aload_n 0, 1) := by decide +kernel
theorem dX11_takesNumber_70 : decode cX11_takesNumber 70 = .ok (.getfield 118, 3) := by decide +kernel
theorem dX11_takesNumber_73 : decode cX11_takesNumber 73 = .ok (.imul, 1) := by decide +kernel
theorem dX11_takesNumber_74 : decode cX11_takesNumber 74 = .ok (.aload_n 0, 1) := by decide +kernel
theorem dX11_takesNumber_75 : decode cX11_takesNumber 75 = .ok (.aload_n 0, 1) := by decide +kernel
theorem dX11_takesNumber_76 : decode cX11_takesNumber 76 = .ok (.getfield 93, 3) := by decide +kernel
theorem dX11_takesNumber_79 : decode cX11_takesNumber 79 = .ok (.invokevirtual 96, 3) := by decide +kernel
theorem dX11_takesNumber_82 : decode cX11_takesNumber 82 = .ok (.iadd, 1) := by decide +kernel
theorem dX11_takesNumber_83 : decode cX11_takesNumber 83 = .ok (.bipush 48, 2) := by decide +kernel
theorem dX11_takesNumber_85 : decode cX11_takesNumber 85 = .ok (.isub, 1) := by decide +kernel
theorem dX11_takesNumber_86 : decode cX11_takesNumber 86 = .ok (.goto 7, 3) := by decide +kernel
theorem dX11_takesNumber_89 : decode cX11_takesNumber 89 = .ok (.aload_n 0, 1) := by decide +kernel
theorem dX11_takesNumber_90 : decode cX11_takesNumber 90 = .ok (.getfield 118, 3) := by decide +kernel
theorem dX11_takesNumber_93 : decode cX11_takesNumber 93 = .ok (.putfield 118, 3) := by decide +kernel
theorem dX11_takesNumber_96 : decode cX11_takesNumber 96 = .ok (.aload_n 0, 1) := by decide +kernel
theorem dX11_takesNumber_97 : decode cX11_takesNumber 97 = .ok (.dup, 1) := by decide +kernel
theorem dX11_takesNumber_98 : decode cX11_takesNumber 98 = .ok (.getfield 93, 3) := by decide +kernel
theorem dX11_takesNumber_101 : decode cX11_takesNumber 101 = .ok (.iconst 1, 1) := by decide +kernel
theorem dX11_takesNumber_102 : decode cX11_takesNumber 102 = .ok (.iadd, 1) := by decide +kernel
theorem dX11_takesNumber_103 : decode cX11_takesNumber 103 = .ok (.putfield 93, 3) := by decide +kernel
theorem dX11_takesNumber_106 : decode cX11_takesNumber 106 = .ok (.goto (-74), 3) := by decide +kernel
theorem dX11_takesNumber_109 : decode cX11_takesNumber 109 = .ok (.aload_n 0, 1) := by decide +kernel
theorem dX11_takesNumber_110 : decode cX11_takesNumber 110 = .ok (.getfield 93, 3) := by decide +kernel
theorem dX11_takesNumber_113 : decode cX11_takesNumber 113 = .ok (.aload_n 0, 1) := by decide +kernel
theorem dX11_takesNumber_114 : decode cX11_takesNumber 114 = .ok (.getfield 100, 3) := by decide +kernel
theorem dX11_takesNumber_117 : decode cX11_takesNumber 117 = .ok (.isub, 1) := by decide +kernel
theorem dX11_takesNumber_118 : decode cX11_takesNumber 118 = .ok (.iconst 4, 1) := by decide +kernel
theorem dX11_takesNumber_119 : decode cX11_takesNumber 119 = .ok (.if_icmp .ge 18, 3) := by decide +kernel
theorem dX11_takesNumber_122 : decode cX11_takesNumber 122 = .ok (.aload_n 0, 1) := by decide +kernel
theorem dX11_takesNumber_123 : decode cX11_takesNumber 123 = .ok (.getfield 118, 3) := by decide +kernel
theorem dX11_takesNumber_126 : decode cX11_takesNumber 126 = .ok (.i2l, 1) := by decide +kernel
theorem dX11_takesNumber_127 : decode cX11_takesNumber 127 = .ok (.iload_n 1, 1) := by decide +kernel
theorem dX11_takesNumber_128 : decode cX11_takesNumber 128 = .ok (.i2l, 1) := by decide +kernel
theorem dX11_takesNumber_129 : decode cX11_takesNumber 129 = .ok (.iload_n 2, 1) := by decide +kernel
theorem dX11_takesNumber_130 : decode cX11_takesNumber 130 = .ok (.i2l, 1) := by decide +kernel
theorem dX11_takesNumber_131 : decode cX11_takesNumber 131 = .ok (.invokestatic 76, 3) := by decide +kernel
theorem dX11_takesNumber_134 : decode cX11_takesNumber 134 = .ok (.ifCond .ne 15, 3) := by decide +kernel
theorem dX11_takesNumber_137 : decode cX11_takesNumber 137 = .ok (.aload_n 0, 1) := by decide +kernel
theorem dX11_takesNumber_138 : decode cX11_takesNumber 138 = .ok (.iconst 2, 1) := by decide +kernel
theorem dX11_takesNumber_139 : decode cX11_takesNumber 139 = .ok (.aload_n 0, 1) := by decide +kernel
theorem dX11_takesNumber_140 : decode cX11_takesNumber 140 = .ok (.getfield 100, 3) := by decide +kernel
theorem dX11_takesNumber_143 : decode cX11_takesNumber 143 = .ok (.invokevirtual 110, 3) := by decide +kernel
theorem dX11_takesNumber_146 : decode cX11_takesNumber 146 = .ok (.ifCond .eq 7, 3) := by decide +kernel
theorem dX11_takesNumber_149 : decode cX11_takesNumber 149 = .ok (.iconst 1, 1) := by decide +kernel
theorem dX11_takesNumber_150 : decode cX11_takesNumber 150 = .ok (.goto 4, 3) := by decide +kernel
theorem dX11_takesNumber_153 : decode cX11_takesNumber 153 = .ok (.iconst 0, 1) := by decide +kernel
theorem dX11_takesNumber_154 : decode cX11_takesNumber 154 = .ok (.ireturn, 1) := by decide +kernel
theorem dX11_takesDreams_0 : decode cX11_takesDreams 0 = .ok (.aload_n 0, 1) := by decide +kernel
theorem dX11_takesDreams_1 : decode cX11_takesDreams 1 = .ok (.iconst 2, 1) := by decide +kernel
theorem dX11_takesDreams_2 : decode cX11_takesDreams 2 = .ok (.iconst 5, 1) := by decide +kernel
theorem dX11_takesDreams_3 : decode cX11_takesDreams 3 = .ok (.invokevirtual 121, 3) := by decide +kernel
theorem dX11_takesDreams_6 : decode cX11_takesDreams 6 = .ok (.ifCond .ne 5, 3) := by decide +kernel
theorem dX11_takesDreams_9 : decode cX11_takesDreams 9 = .ok (.iconst 0, 1) := by decide +kernel
theorem dX11_takesDreams_10 : decode cX11_takesDreams 10 = .ok (.ireturn, 1) := by decide +kernel
theorem dX11_takesDreams_11 : decode cX11_takesDreams 11 = .ok (.aload_n 0, 1) := by decide +kernel
theorem dX11_takesDreams_12 : decode cX11_takesDreams 12 = .ok (.aload_n 0, 1) := by decide +kernel
theorem dX11_takesDreams_13 : decode cX11_takesDreams 13 = .ok (.getfield 118, 3) := by decide +kernel
theorem dX11_takesDreams_16 : decode cX11_takesDreams 16 = .ok (.putfield 124, 3) := by decide +kernel
theorem dX11_takesDreams_19 : decode cX11_takesDreams 19 = .ok (.aload_n 0, 1) := by decide +kernel
theorem dX11_takesDreams_20 : decode cX11_takesDreams 20 = .ok (.iconst 0, 1) := by decide +kernel
theorem dX11_takesDreams_21 : decode cX11_takesDreams 21 = .ok (.iconst 5, 1) := by decide +kernel
theorem dX11_takesDreams_22 : decode cX11_takesDreams 22 = .ok (.invokevirtual 121, 3) := by decide +kernel
theorem dX11_takesDreams_25 : decode cX11_takesDreams 25 = .ok (.ifCond .ne 5, 3) := by decide +kernel
theorem dX11_takesDreams_28 : decode cX11_takesDreams 28 = .ok (.iconst 0, 1) := by decide +kernel
theorem dX11_takesDreams_29 : decode cX11_takesDreams 29 = .ok (.ireturn, 1) := by decide +kernel
theorem dX11_takesDreams_30 : decode cX11_takesDreams 30 = .ok (.aload_n 0, 1) := by decide +kernel
theorem dX11_takesDreams_31 : decode cX11_takesDreams 31 = .ok (.aload_n 0, 1) := by decide +kernel
theorem dX11_takesDreams_32 : decode cX11_takesDreams 32 = .ok (.getfield 118, 3) := by decide +kernel
theorem dX11_takesDreams_35 : decode cX11_takesDreams 35 = .ok (.putfield 127, 3) := by decide +kernel
theorem dX11_takesDreams_38 : decode cX11_takesDreams 38 = .ok (.iconst 1, 1) := by decide +kernel
theorem dX11_takesDreams_39 : decode cX11_takesDreams 39 = .ok (.ireturn, 1) := by decide +kernel
theorem dX11_takesSleeper_0 : decode cX11_takesSleeper 0 = .ok (.iconst 0, 1) := by decide +kernel
theorem dX11_takesSleeper_1 : decode cX11_takesSleeper 1 = .ok (.istore_n 1, 1) := by decide +kernel
theorem dX11_takesSleeper_2 : decode cX11_takesSleeper 2 = .ok (.iconst 0, 1) := by decide +kernel
theorem dX11_takesSleeper_3 : decode cX11_takesSleeper 3 = .ok (.istore_n 2, 1) := by decide +kernel
theorem dX11_takesSleeper_4 : decode cX11_takesSleeper 4 = .ok (.iload_n 2, 1) := by decide +kernel
theorem dX11_takesSleeper_5 : decode cX11_takesSleeper 5 = .ok (.aload_n 0, 1) := by decide +kernel
theorem dX11_takesSleeper_6 : decode cX11_takesSleeper 6 = .ok (.getfield 124, 3) := by decide +kernel
theorem dX11_takesSleeper_9 : decode cX11_takesSleeper 9 = .ok (.if_icmp .ge 58, 3) := by decide +kernel
theorem dX11_takesSleeper_12 : decode cX11_takesSleeper 12 = .ok (.iload_n 2, 1) := by decide +kernel
theorem dX11_takesSleeper_13 : decode cX11_takesSleeper 13 = .ok (.ifCond .le 12, 3) := by decide +kernel
theorem dX11_takesSleeper_16 : decode cX11_takesSleeper 16 = .ok (.aload_n 0, 1) := by decide +kernel
theorem dX11_takesSleeper_17 : decode cX11_takesSleeper 17 = .ok (.bipush 44, 2) := by decide +kernel
theorem dX11_takesSleeper_19 : decode cX11_takesSleeper 19 = .ok (.invokevirtual 130, 3) := by decide +kernel
theorem dX11_takesSleeper_22 : decode cX11_takesSleeper 22 = .ok (.ifCond .eq 13, 3) := by decide +kernel
theorem dX11_takesSleeper_25 : decode cX11_takesSleeper 25 = .ok (.aload_n 0, 1) := by decide +kernel
theorem dX11_takesSleeper_26 : decode cX11_takesSleeper 26 = .ok (.iconst 0, 1) := by decide +kernel
theorem dX11_takesSleeper_27 : decode cX11_takesSleeper 27 = .ok (.bipush 9, 2) := by decide +kernel
theorem dX11_takesSleeper_29 : decode cX11_takesSleeper 29 = .ok (.invokevirtual 121, 3) := by decide +kernel
theorem dX11_takesSleeper_32 : decode cX11_takesSleeper 32 = .ok (.ifCond .ne 5, 3) := by decide +kernel
theorem dX11_takesSleeper_35 : decode cX11_takesSleeper 35 = .ok (.iconst 0, 1) := by decide +kernel
theorem dX11_takesSleeper_36 : decode cX11_takesSleeper 36 = .ok (.ireturn, 1) := by decide +kernel
theorem dX11_takesSleeper_37 : decode cX11_takesSleeper 37 = .ok (.aload_n 0, 1) := by decide +kernel
theorem dX11_takesSleeper_38 : decode cX11_takesSleeper 38 = .ok (.getfield 33, 3) := by decide +kernel
theorem dX11_takesSleeper_41 : decode cX11_takesSleeper 41 = .ok (.iconst 5, 1) := by decide +kernel
theorem dX11_takesSleeper_42 : decode cX11_takesSleeper 42 = .ok (.aload_n 0, 1) := by decide +kernel
theorem dX11_takesSleeper_43 : decode cX11_takesSleeper 43 = .ok (.getfield 134, 3) := by decide +kernel
theorem dX11_takesSleeper_46 : decode cX11_takesSleeper 46 = .ok (.imul, 1) := by decide +kernel
theorem dX11_takesSleeper_47 : decode cX11_takesSleeper 47 = .ok (.iload_n 2, 1) := by decide +kernel
theorem dX11_takesSleeper_48 : decode cX11_takesSleeper 48 = .ok (.iadd, 1) := by decide +kernel
theorem dX11_takesSleeper_49 : decode cX11_takesSleeper 49 = .ok (.aload_n 0, 1) := by decide +kernel
theorem dX11_takesSleeper_50 : decode cX11_takesSleeper 50 = .ok (.getfield 118, 3) := by decide +kernel
theorem dX11_takesSleeper_53 : decode cX11_takesSleeper 53 = .ok (.iastore, 1) := by decide +kernel
theorem dX11_takesSleeper_54 : decode cX11_takesSleeper 54 = .ok (.iload_n 1, 1) := by decide +kernel
theorem dX11_takesSleeper_55 : decode cX11_takesSleeper 55 = .ok (.aload_n 0, 1) := by decide +kernel
theorem dX11_takesSleeper_56 : decode cX11_takesSleeper 56 = .ok (.getfield 118, 3) := by decide +kernel
theorem dX11_takesSleeper_59 : decode cX11_takesSleeper 59 = .ok (.iadd, 1) := by decide +kernel
theorem dX11_takesSleeper_60 : decode cX11_takesSleeper 60 = .ok (.istore_n 1, 1) := by decide +kernel
theorem dX11_takesSleeper_61 : decode cX11_takesSleeper 61 = .ok (.iinc 2 1, 3) := by decide +kernel
theorem dX11_takesSleeper_64 : decode cX11_takesSleeper 64 = .ok (.goto (-60), 3) := by decide +kernel
theorem dX11_takesSleeper_67 : decode cX11_takesSleeper 67 = .ok (.aload_n 0, 1) := by decide +kernel
theorem dX11_takesSleeper_68 : decode cX11_takesSleeper 68 = .ok (.dup, 1) := by decide +kernel
theorem dX11_takesSleeper_69 : decode cX11_takesSleeper 69 = .ok (.getfield 134, 3) := by decide +kernel
theorem dX11_takesSleeper_72 : decode cX11_takesSleeper 72 = .ok (.iconst 1, 1) := by decide +kernel
theorem dX11_takesSleeper_73 : decode cX11_takesSleeper 73 = .ok (.iadd, 1) := by decide +kernel
theorem dX11_takesSleeper_74 : decode cX11_takesSleeper 74 = .ok (.putfield 134, 3) := by decide +kernel
theorem dX11_takesSleeper_77 : decode cX11_takesSleeper 77 = .ok (.iload_n 1, 1) := by decide +kernel
theorem dX11_takesSleeper_78 : decode cX11_takesSleeper 78 = .ok (.ifCond .gt 15, 3) := by decide +kernel
theorem dX11_takesSleeper_81 : decode cX11_takesSleeper 81 = .ok (.aload_n 0, 1) := by decide +kernel
theorem dX11_takesSleeper_82 : decode cX11_takesSleeper 82 = .ok (.iconst 4, 1) := by decide +kernel
theorem dX11_takesSleeper_83 : decode cX11_takesSleeper 83 = .ok (.aload_n 0, 1) := by decide +kernel
theorem dX11_takesSleeper_84 : decode cX11_takesSleeper 84 = .ok (.getfield 100, 3) := by decide +kernel
theorem dX11_takesSleeper_87 : decode cX11_takesSleeper 87 = .ok (.invokevirtual 110, 3) := by decide +kernel
theorem dX11_takesSleeper_90 : decode cX11_takesSleeper 90 = .ok (.ifCond .eq 7, 3) := by decide +kernel
theorem dX11_takesSleeper_93 : decode cX11_takesSleeper 93 = .ok (.iconst 1, 1) := by decide +kernel
theorem dX11_takesSleeper_94 : decode cX11_takesSleeper 94 = .ok (.goto 4, 3) := by decide +kernel
theorem dX11_takesSleeper_97 : decode cX11_takesSleeper 97 = .ok (.iconst 0, 1) := by decide +kernel
theorem dX11_takesSleeper_98 : decode cX11_takesSleeper 98 = .ok (.ireturn, 1) := by decide +kernel
theorem dX11_takesLoaf_0 : decode cX11_takesLoaf 0 = .ok (.iconst 3, 1) := by decide +kernel
theorem dX11_takesLoaf_1 : decode cX11_takesLoaf 1 = .ok (.aload_n 0, 1) := by decide +kernel
theorem dX11_takesLoaf_2 : decode cX11_takesLoaf 2 = .ok (.getfield 137, 3) := by decide +kernel
theorem dX11_takesLoaf_5 : decode cX11_takesLoaf 5 = .ok (.imul, 1) := by decide +kernel
theorem dX11_takesLoaf_6 : decode cX11_takesLoaf 6 = .ok (.istore_n 1, 1) := by decide +kernel
theorem dX11_takesLoaf_7 : decode cX11_takesLoaf 7 = .ok (.iconst 0, 1) := by decide +kernel
theorem dX11_takesLoaf_8 : decode cX11_takesLoaf 8 = .ok (.istore_n 2, 1) := by decide +kernel
theorem dX11_takesLoaf_9 : decode cX11_takesLoaf 9 = .ok (.iload_n 2, 1) := by decide +kernel
theorem dX11_takesLoaf_10 : decode cX11_takesLoaf 10 = .ok (.iconst 3, 1) := by decide +kernel
theorem dX11_takesLoaf_11 : decode cX11_takesLoaf 11 = .ok (.if_icmp .ge 60, 3) := by decide +kernel
theorem dX11_takesLoaf_14 : decode cX11_takesLoaf 14 = .ok (.aload_n 0, 1) := by decide +kernel
theorem dX11_takesLoaf_15 : decode cX11_takesLoaf 15 = .ok (.iconst 0, 1) := by decide +kernel
theorem dX11_takesLoaf_16 : decode cX11_takesLoaf 16 = .ok (.iload_n 2, 1) := by decide +kernel
theorem dX11_takesLoaf_17 : decode cX11_takesLoaf 17 = .ok (.ifCond .ne 12, 3) := by decide +kernel
theorem dX11_takesLoaf_20 : decode cX11_takesLoaf 20 = .ok (.aload_n 0, 1) := by decide +kernel
theorem dX11_takesLoaf_21 : decode cX11_takesLoaf 21 = .ok (.getfield 134, 3) := by decide +kernel
theorem dX11_takesLoaf_24 : decode cX11_takesLoaf 24 = .ok (.iconst 1, 1) := by decide +kernel
theorem dX11_takesLoaf_25 : decode cX11_takesLoaf 25 = .ok (.isub, 1) := by decide +kernel
theorem dX11_takesLoaf_26 : decode cX11_takesLoaf 26 = .ok (.goto 19, 3) := by decide +kernel
theorem dX11_takesLoaf_29 : decode cX11_takesLoaf 29 = .ok (.iload_n 2, 1) := by decide +kernel
theorem dX11_takesLoaf_30 : decode cX11_takesLoaf 30 = .ok (.iconst 1, 1) := by decide +kernel
theorem dX11_takesLoaf_31 : decode cX11_takesLoaf 31 = .ok (.if_icmp .ne 12, 3) := by decide +kernel
theorem dX11_takesLoaf_34 : decode cX11_takesLoaf 34 = .ok (.aload_n 0, 1) := by decide +kernel
theorem dX11_takesLoaf_35 : decode cX11_takesLoaf 35 = .ok (.getfield 124, 3) := by decide +kernel
theorem dX11_takesLoaf_38 : decode cX11_takesLoaf 38 = .ok (.iconst 1, 1) := by decide +kernel
theorem dX11_takesLoaf_39 : decode cX11_takesLoaf 39 = .ok (.isub, 1) := by decide +kernel
theorem dX11_takesLoaf_40 : decode cX11_takesLoaf 40 = .ok (.goto 5, 3) := by decide +kernel
theorem dX11_takesLoaf_43 : decode cX11_takesLoaf 43 = .ok (.bipush 99, 2) := by decide +kernel
theorem dX11_takesLoaf_45 : decode cX11_takesLoaf 45 = .ok (.invokevirtual 121, 3) := by decide +kernel
theorem dX11_takesLoaf_48 : decode cX11_takesLoaf 48 = .ok (.ifCond .ne 5, 3) := by decide +kernel
theorem dX11_takesLoaf_51 : decode cX11_takesLoaf 51 = .ok (.iconst 0, 1) := by decide +kernel
theorem dX11_takesLoaf_52 : decode cX11_takesLoaf 52 = .ok (.ireturn, 1) := by decide +kernel
theorem dX11_takesLoaf_53 : decode cX11_takesLoaf 53 = .ok (.aload_n 0, 1) := by decide +kernel
theorem dX11_takesLoaf_54 : decode cX11_takesLoaf 54 = .ok (.getfield 36, 3) := by decide +kernel
theorem dX11_takesLoaf_57 : decode cX11_takesLoaf 57 = .ok (.iload_n 1, 1) := by decide +kernel
theorem dX11_takesLoaf_58 : decode cX11_takesLoaf 58 = .ok (.iload_n 2, 1) := by decide +kernel
theorem dX11_takesLoaf_59 : decode cX11_takesLoaf 59 = .ok (.iadd, 1) := by decide +kernel
theorem dX11_takesLoaf_60 : decode cX11_takesLoaf 60 = .ok (.aload_n 0, 1) := by decide +kernel
theorem dX11_takesLoaf_61 : decode cX11_takesLoaf 61 = .ok (.getfield 118, 3) := by decide +kernel
theorem dX11_takesLoaf_64 : decode cX11_takesLoaf 64 = .ok (.iastore, 1) := by decide +kernel
theorem dX11_takesLoaf_65 : decode cX11_takesLoaf 65 = .ok (.iinc 2 1, 3) := by decide +kernel
theorem dX11_takesLoaf_68 : decode cX11_takesLoaf 68 = .ok (.goto (-59), 3) := by decide +kernel
theorem dX11_takesLoaf_71 : decode cX11_takesLoaf 71 = .ok (.aload_n 0, 1) := by decide +kernel
theorem dX11_takesLoaf_72 : decode cX11_takesLoaf 72 = .ok (.dup, 1) := by decide +kernel
theorem dX11_takesLoaf_73 : decode cX11_takesLoaf 73 = .ok (.getfield 137, 3) := by decide +kernel
theorem dX11_takesLoaf_76 : decode cX11_takesLoaf 76 = .ok (.iconst 1, 1) := by decide +kernel
theorem dX11_takesLoaf_77 : decode cX11_takesLoaf 77 = .ok (.iadd, 1) := by decide +kernel
theorem dX11_takesLoaf_78 : decode cX11_takesLoaf 78 = .ok (.putfield 137, 3) := by decide +kernel
theorem dX11_takesLoaf_81 : decode cX11_takesLoaf 81 = .ok (.iconst 1, 1) := by decide +kernel
theorem dX11_takesLoaf_82 : decode cX11_takesLoaf 82 = .ok (.ireturn, 1) := by decide +kernel
theorem dX11_takesMare_0 : decode cX11_takesMare 0 = .ok (.aload_n 0, 1) := by decide +kernel
theorem dX11_takesMare_1 : decode cX11_takesMare 1 = .ok (.iconst 1, 1) := by decide +kernel
theorem dX11_takesMare_2 : decode cX11_takesMare 2 = .ok (.putfield 140, 3) := by decide +kernel
theorem dX11_takesMare_5 : decode cX11_takesMare 5 = .ok (.aload_n 0, 1) := by decide +kernel
theorem dX11_takesMare_6 : decode cX11_takesMare 6 = .ok (.iconst 0, 1) := by decide +kernel
theorem dX11_takesMare_7 : decode cX11_takesMare 7 = .ok (.aload_n 0, 1) := by decide +kernel
theorem dX11_takesMare_8 : decode cX11_takesMare 8 = .ok (.getfield 124, 3) := by decide +kernel
theorem dX11_takesMare_11 : decode cX11_takesMare 11 = .ok (.iconst 1, 1) := by decide +kernel
theorem dX11_takesMare_12 : decode cX11_takesMare 12 = .ok (.isub, 1) := by decide +kernel
theorem dX11_takesMare_13 : decode cX11_takesMare 13 = .ok (.invokevirtual 121, 3) := by decide +kernel
theorem dX11_takesMare_16 : decode cX11_takesMare 16 = .ok (.ifCond .ne 5, 3) := by decide +kernel
theorem dX11_takesMare_19 : decode cX11_takesMare 19 = .ok (.iconst 0, 1) := by decide +kernel
theorem dX11_takesMare_20 : decode cX11_takesMare 20 = .ok (.ireturn, 1) := by decide +kernel
theorem dX11_takesMare_21 : decode cX11_takesMare 21 = .ok (.aload_n 0, 1) := by decide +kernel
theorem dX11_takesMare_22 : decode cX11_takesMare 22 = .ok (.aload_n 0, 1) := by decide +kernel
theorem dX11_takesMare_23 : decode cX11_takesMare 23 = .ok (.getfield 118, 3) := by decide +kernel
theorem dX11_takesMare_26 : decode cX11_takesMare 26 = .ok (.putfield 144, 3) := by decide +kernel
theorem dX11_takesMare_29 : decode cX11_takesMare 29 = .ok (.iconst 1, 1) := by decide +kernel
theorem dX11_takesMare_30 : decode cX11_takesMare 30 = .ok (.ireturn, 1) := by decide +kernel
theorem dX11_takesClause_0 : decode cX11_takesClause 0 = .ok (.aload_n 0, 1) := by decide +kernel
theorem dX11_takesClause_1 : decode cX11_takesClause 1 = .ok (.invokevirtual 106, 3) := by decide +kernel
theorem dX11_takesClause_4 : decode cX11_takesClause 4 = .ok (.istore_n 1, 1) := by decide +kernel
theorem dX11_takesClause_5 : decode cX11_takesClause 5 = .ok (.iload_n 1, 1) := by decide +kernel
theorem dX11_takesClause_6 : decode cX11_takesClause 6 = .ok (.bipush 100, 2) := by decide +kernel
theorem dX11_takesClause_8 : decode cX11_takesClause 8 = .ok (.if_icmp .eq 28, 3) := by decide +kernel
theorem dX11_takesClause_11 : decode cX11_takesClause 11 = .ok (.aload_n 0, 1) := by decide +kernel
theorem dX11_takesClause_12 : decode cX11_takesClause 12 = .ok (.getfield 124, 3) := by decide +kernel
theorem dX11_takesClause_15 : decode cX11_takesClause 15 = .ok (.ifCond .le 25, 3) := by decide +kernel
theorem dX11_takesClause_18 : decode cX11_takesClause 18 = .ok (.iload_n 1, 1) := by decide +kernel
theorem dX11_takesClause_19 : decode cX11_takesClause 19 = .ok (.bipush 115, 2) := by decide +kernel
theorem dX11_takesClause_21 : decode cX11_takesClause 21 = .ok (.if_icmp .eq 15, 3) := by decide +kernel
theorem dX11_takesClause_24 : decode cX11_takesClause 24 = .ok (.iload_n 1, 1) := by decide +kernel
theorem dX11_takesClause_25 : decode cX11_takesClause 25 = .ok (.bipush 108, 2) := by decide +kernel
theorem dX11_takesClause_27 : decode cX11_takesClause 27 = .ok (.if_icmp .eq 9, 3) := by decide +kernel
theorem dX11_takesClause_30 : decode cX11_takesClause 30 = .ok (.iload_n 1, 1) := by decide +kernel
theorem dX11_takesClause_31 : decode cX11_takesClause 31 = .ok (.bipush 110, 2) := by decide +kernel
theorem dX11_takesClause_33 : decode cX11_takesClause 33 = .ok (.if_icmp .ne 7, 3) := by decide +kernel
theorem dX11_takesClause_36 : decode cX11_takesClause 36 = .ok (.iconst 1, 1) := by decide +kernel
theorem dX11_takesClause_37 : decode cX11_takesClause 37 = .ok (.goto 4, 3) := by decide +kernel
theorem dX11_takesClause_40 : decode cX11_takesClause 40 = .ok (.iconst 0, 1) := by decide +kernel
theorem dX11_takesClause_41 : decode cX11_takesClause 41 = .ok (.istore_n 2, 1) := by decide +kernel
theorem dX11_takesClause_42 : decode cX11_takesClause 42 = .ok (.iload_n 2, 1) := by decide +kernel
theorem dX11_takesClause_43 : decode cX11_takesClause 43 = .ok (.ifCond .ne 13, 3) := by decide +kernel
theorem dX11_takesClause_46 : decode cX11_takesClause 46 = .ok (.aload_n 0, 1) := by decide +kernel
theorem dX11_takesClause_47 : decode cX11_takesClause 47 = .ok (.iconst 1, 1) := by decide +kernel
theorem dX11_takesClause_48 : decode cX11_takesClause 48 = .ok (.aload_n 0, 1) := by decide +kernel
theorem dX11_takesClause_49 : decode cX11_takesClause 49 = .ok (.getfield 100, 3) := by decide +kernel
theorem dX11_takesClause_52 : decode cX11_takesClause 52 = .ok (.invokevirtual 110, 3) := by decide +kernel
theorem dX11_takesClause_55 : decode cX11_takesClause 55 = .ok (.ireturn, 1) := by decide +kernel
theorem dX11_takesClause_56 : decode cX11_takesClause 56 = .ok (.iload_n 1, 1) := by decide +kernel
theorem dX11_takesClause_57 : decode cX11_takesClause 57 = .ok (.bipush 100, 2) := by decide +kernel
theorem dX11_takesClause_59 : decode cX11_takesClause 59 = .ok (.if_icmp .ne 18, 3) := by decide +kernel
theorem dX11_takesClause_62 : decode cX11_takesClause 62 = .ok (.aload_n 0, 1) := by decide +kernel
theorem dX11_takesClause_63 : decode cX11_takesClause 63 = .ok (.getfield 124, 3) := by decide +kernel
theorem dX11_takesClause_66 : decode cX11_takesClause 66 = .ok (.ifCond .le 7, 3) := by decide +kernel
theorem dX11_takesClause_69 : decode cX11_takesClause 69 = .ok (.iconst 1, 1) := by decide +kernel
theorem dX11_takesClause_70 : decode cX11_takesClause 70 = .ok (.goto 57, 3) := by decide +kernel
theorem dX11_takesClause_73 : decode cX11_takesClause 73 = .ok (.iconst 0, 1) := by decide +kernel
theorem dX11_takesClause_74 : decode cX11_takesClause 74 = .ok (.goto 53, 3) := by decide +kernel
theorem dX11_takesClause_77 : decode cX11_takesClause 77 = .ok (.iload_n 1, 1) := by decide +kernel
theorem dX11_takesClause_78 : decode cX11_takesClause 78 = .ok (.bipush 115, 2) := by decide +kernel
theorem dX11_takesClause_80 : decode cX11_takesClause 80 = .ok (.if_icmp .ne 20, 3) := by decide +kernel
theorem dX11_takesClause_83 : decode cX11_takesClause 83 = .ok (.aload_n 0, 1) := by decide +kernel
theorem dX11_takesClause_84 : decode cX11_takesClause 84 = .ok (.getfield 134, 3) := by decide +kernel
theorem dX11_takesClause_87 : decode cX11_takesClause 87 = .ok (.bipush 6, 2) := by decide +kernel
theorem dX11_takesClause_89 : decode cX11_takesClause 89 = .ok (.if_icmp .ne 7, 3) := by decide +kernel
theorem dX11_takesClause_92 : decode cX11_takesClause 92 = .ok (.iconst 1, 1) := by decide +kernel
theorem dX11_takesClause_93 : decode cX11_takesClause 93 = .ok (.goto 34, 3) := by decide +kernel
theorem dX11_takesClause_96 : decode cX11_takesClause 96 = .ok (.iconst 0, 1) := by decide +kernel
theorem dX11_takesClause_97 : decode cX11_takesClause 97 = .ok (.goto 30, 3) := by decide +kernel
theorem dX11_takesClause_100 : decode cX11_takesClause 100 = .ok (.iload_n 1, 1) := by decide +kernel
theorem dX11_takesClause_101 : decode cX11_takesClause 101 = .ok (.bipush 108, 2) := by decide +kernel
theorem dX11_takesClause_103 : decode cX11_takesClause 103 = .ok (.if_icmp .ne 20, 3) := by decide +kernel
theorem dX11_takesClause_106 : decode cX11_takesClause 106 = .ok (.aload_n 0, 1) := by decide +kernel
theorem dX11_takesClause_107 : decode cX11_takesClause 107 = .ok (.getfield 137, 3) := by decide +kernel
theorem dX11_takesClause_110 : decode cX11_takesClause 110 = .ok (.bipush 7, 2) := by decide +kernel
theorem dX11_takesClause_112 : decode cX11_takesClause 112 = .ok (.if_icmp .ne 7, 3) := by decide +kernel
theorem dX11_takesClause_115 : decode cX11_takesClause 115 = .ok (.iconst 1, 1) := by decide +kernel
theorem dX11_takesClause_116 : decode cX11_takesClause 116 = .ok (.goto 11, 3) := by decide +kernel
theorem dX11_takesClause_119 : decode cX11_takesClause 119 = .ok (.iconst 0, 1) := by decide +kernel
theorem dX11_takesClause_120 : decode cX11_takesClause 120 = .ok (.goto 7, 3) := by decide +kernel
theorem dX11_takesClause_123 : decode cX11_takesClause 123 = .ok (.aload_n 0, 1) := by decide +kernel
theorem dX11_takesClause_124 : decode cX11_takesClause 124 = .ok (.getfield 140, 3) := by decide +kernel
theorem dX11_takesClause_127 : decode cX11_takesClause 127 = .ok (.istore_n 3, 1) := by decide +kernel
theorem dX11_takesClause_128 : decode cX11_takesClause 128 = .ok (.iload_n 3, 1) := by decide +kernel
theorem dX11_takesClause_129 : decode cX11_takesClause 129 = .ok (.ifCond .eq 13, 3) := by decide +kernel
theorem dX11_takesClause_132 : decode cX11_takesClause 132 = .ok (.aload_n 0, 1) := by decide +kernel
theorem dX11_takesClause_133 : decode cX11_takesClause 133 = .ok (.iconst 3, 1) := by decide +kernel
theorem dX11_takesClause_134 : decode cX11_takesClause 134 = .ok (.aload_n 0, 1) := by decide +kernel
theorem dX11_takesClause_135 : decode cX11_takesClause 135 = .ok (.getfield 100, 3) := by decide +kernel
theorem dX11_takesClause_138 : decode cX11_takesClause 138 = .ok (.invokevirtual 110, 3) := by decide +kernel
theorem dX11_takesClause_141 : decode cX11_takesClause 141 = .ok (.ireturn, 1) := by decide +kernel
theorem dX11_takesClause_142 : decode cX11_takesClause 142 = .ok (.aload_n 0, 1) := by decide +kernel
theorem dX11_takesClause_143 : decode cX11_takesClause 143 = .ok (.dup, 1) := by decide +kernel
theorem dX11_takesClause_144 : decode cX11_takesClause 144 = .ok (.getfield 93, 3) := by decide +kernel
theorem dX11_takesClause_147 : decode cX11_takesClause 147 = .ok (.iconst 1, 1) := by decide +kernel
theorem dX11_takesClause_148 : decode cX11_takesClause 148 = .ok (.iadd, 1) := by decide +kernel
theorem dX11_takesClause_149 : decode cX11_takesClause 149 = .ok (.putfield 93, 3) := by decide +kernel
theorem dX11_takesClause_152 : decode cX11_takesClause 152 = .ok (.iload_n 1, 1) := by decide +kernel
theorem dX11_takesClause_153 : decode cX11_takesClause 153 = .ok (.bipush 100, 2) := by decide +kernel
theorem dX11_takesClause_155 : decode cX11_takesClause 155 = .ok (.if_icmp .ne 10, 3) := by decide +kernel
theorem dX11_takesClause_158 : decode cX11_takesClause 158 = .ok (.aload_n 0, 1) := by decide +kernel
theorem dX11_takesClause_159 : decode cX11_takesClause 159 = .ok (.invokevirtual 147, 3) := by decide +kernel
theorem dX11_takesClause_162 : decode cX11_takesClause 162 = .ok (.goto 33, 3) := by decide +kernel
theorem dX11_takesClause_165 : decode cX11_takesClause 165 = .ok (.iload_n 1, 1) := by decide +kernel
theorem dX11_takesClause_166 : decode cX11_takesClause 166 = .ok (.bipush 115, 2) := by decide +kernel
theorem dX11_takesClause_168 : decode cX11_takesClause 168 = .ok (.if_icmp .ne 10, 3) := by decide +kernel
theorem dX11_takesClause_171 : decode cX11_takesClause 171 = .ok (.aload_n 0, 1) := by decide +kernel
theorem dX11_takesClause_172 : decode cX11_takesClause 172 = .ok (.invokevirtual 151, 3) := by decide +kernel
theorem dX11_takesClause_175 : decode cX11_takesClause 175 = .ok (.goto 20, 3) := by decide +kernel
theorem dX11_takesClause_178 : decode cX11_takesClause 178 = .ok (.iload_n 1, 1) := by decide +kernel
theorem dX11_takesClause_179 : decode cX11_takesClause 179 = .ok (.bipush 108, 2) := by decide +kernel
theorem dX11_takesClause_181 : decode cX11_takesClause 181 = .ok (.if_icmp .ne 10, 3) := by decide +kernel
theorem dX11_takesClause_184 : decode cX11_takesClause 184 = .ok (.aload_n 0, 1) := by decide +kernel
theorem dX11_takesClause_185 : decode cX11_takesClause 185 = .ok (.invokevirtual 154, 3) := by decide +kernel
theorem dX11_takesClause_188 : decode cX11_takesClause 188 = .ok (.goto 7, 3) := by decide +kernel
theorem dX11_takesClause_191 : decode cX11_takesClause 191 = .ok (.aload_n 0, 1) := by decide +kernel
theorem dX11_takesClause_192 : decode cX11_takesClause 192 = .ok (.invokevirtual 157, 3) := by decide +kernel
theorem dX11_takesClause_195 : decode cX11_takesClause 195 = .ok (.istore 4, 2) := by decide +kernel
theorem dX11_takesClause_197 : decode cX11_takesClause 197 = .ok (.iload 4, 2) := by decide +kernel
theorem dX11_takesClause_199 : decode cX11_takesClause 199 = .ok (.ifCond .eq 16, 3) := by decide +kernel
theorem dX11_takesClause_202 : decode cX11_takesClause 202 = .ok (.aload_n 0, 1) := by decide +kernel
theorem dX11_takesClause_203 : decode cX11_takesClause 203 = .ok (.bipush 59, 2) := by decide +kernel
theorem dX11_takesClause_205 : decode cX11_takesClause 205 = .ok (.invokevirtual 130, 3) := by decide +kernel
theorem dX11_takesClause_208 : decode cX11_takesClause 208 = .ok (.ifCond .eq 7, 3) := by decide +kernel
theorem dX11_takesClause_211 : decode cX11_takesClause 211 = .ok (.iconst 1, 1) := by decide +kernel
theorem dX11_takesClause_212 : decode cX11_takesClause 212 = .ok (.goto 4, 3) := by decide +kernel
theorem dX11_takesClause_215 : decode cX11_takesClause 215 = .ok (.iconst 0, 1) := by decide +kernel
theorem dX11_takesClause_216 : decode cX11_takesClause 216 = .ok (.ireturn, 1) := by decide +kernel
theorem dX11_street_0 : decode cX11_street 0 = .ok (.aload_n 0, 1) := by decide +kernel
theorem dX11_street_1 : decode cX11_street 1 = .ok (.iconst 0, 1) := by decide +kernel
theorem dX11_street_2 : decode cX11_street 2 = .ok (.putfield 93, 3) := by decide +kernel
theorem dX11_street_5 : decode cX11_street 5 = .ok (.aload_n 0, 1) := by decide +kernel
theorem dX11_street_6 : decode cX11_street 6 = .ok (.iconst 0, 1) := by decide +kernel
theorem dX11_street_7 : decode cX11_street 7 = .ok (.putfield 103, 3) := by decide +kernel
theorem dX11_street_10 : decode cX11_street 10 = .ok (.aload_n 0, 1) := by decide +kernel
theorem dX11_street_11 : decode cX11_street 11 = .ok (.iconst (-1), 1) := by decide +kernel
theorem dX11_street_12 : decode cX11_street 12 = .ok (.putfield 29, 3) := by decide +kernel
theorem dX11_street_15 : decode cX11_street 15 = .ok (.aload_n 0, 1) := by decide +kernel
theorem dX11_street_16 : decode cX11_street 16 = .ok (.iconst 0, 1) := by decide +kernel
theorem dX11_street_17 : decode cX11_street 17 = .ok (.putfield 124, 3) := by decide +kernel
theorem dX11_street_20 : decode cX11_street 20 = .ok (.aload_n 0, 1) := by decide +kernel
theorem dX11_street_21 : decode cX11_street 21 = .ok (.iconst 0, 1) := by decide +kernel
theorem dX11_street_22 : decode cX11_street 22 = .ok (.putfield 127, 3) := by decide +kernel
theorem dX11_street_25 : decode cX11_street 25 = .ok (.aload_n 0, 1) := by decide +kernel
theorem dX11_street_26 : decode cX11_street 26 = .ok (.iconst 0, 1) := by decide +kernel
theorem dX11_street_27 : decode cX11_street 27 = .ok (.putfield 134, 3) := by decide +kernel
theorem dX11_street_30 : decode cX11_street 30 = .ok (.aload_n 0, 1) := by decide +kernel
theorem dX11_street_31 : decode cX11_street 31 = .ok (.iconst 0, 1) := by decide +kernel
theorem dX11_street_32 : decode cX11_street 32 = .ok (.putfield 137, 3) := by decide +kernel
theorem dX11_street_35 : decode cX11_street 35 = .ok (.aload_n 0, 1) := by decide +kernel
theorem dX11_street_36 : decode cX11_street 36 = .ok (.iconst 0, 1) := by decide +kernel
theorem dX11_street_37 : decode cX11_street 37 = .ok (.putfield 144, 3) := by decide +kernel
theorem dX11_street_40 : decode cX11_street 40 = .ok (.aload_n 0, 1) := by decide +kernel
theorem dX11_street_41 : decode cX11_street 41 = .ok (.iconst 0, 1) := by decide +kernel
theorem dX11_street_42 : decode cX11_street 42 = .ok (.putfield 140, 3) := by decide +kernel
theorem dX11_street_45 : decode cX11_street 45 = .ok (.iconst 1, 1) := by decide +kernel
theorem dX11_street_46 : decode cX11_street 46 = .ok (.istore_n 1, 1) := by decide +kernel
theorem dX11_street_47 : decode cX11_street 47 = .ok (.iload_n 1, 1) := by decide +kernel
theorem dX11_street_48 : decode cX11_street 48 = .ok (.ifCond .eq 19, 3) := by decide +kernel
theorem dX11_street_51 : decode cX11_street 51 = .ok (.aload_n 0, 1) := by decide +kernel
theorem dX11_street_52 : decode cX11_street 52 = .ok (.invokevirtual 106, 3) := by decide +kernel
theorem dX11_street_55 : decode cX11_street 55 = .ok (.iconst (-1), 1) := by decide +kernel
theorem dX11_street_56 : decode cX11_street 56 = .ok (.if_icmp .eq 11, 3) := by decide +kernel
theorem dX11_street_59 : decode cX11_street 59 = .ok (.aload_n 0, 1) := by decide +kernel
theorem dX11_street_60 : decode cX11_street 60 = .ok (.invokevirtual 160, 3) := by decide +kernel
theorem dX11_street_63 : decode cX11_street 63 = .ok (.istore_n 1, 1) := by decide +kernel
theorem dX11_street_64 : decode cX11_street 64 = .ok (.goto (-17), 3) := by decide +kernel
theorem dX11_street_67 : decode cX11_street 67 = .ok (.aload_n 0, 1) := by decide +kernel
theorem dX11_street_68 : decode cX11_street 68 = .ok (.iconst 0, 1) := by decide +kernel
theorem dX11_street_69 : decode cX11_street 69 = .ok (.putfield 89, 3) := by decide +kernel
theorem dX11_street_72 : decode cX11_street 72 = .ok (.iload_n 1, 1) := by decide +kernel
theorem dX11_street_73 : decode cX11_street 73 = .ok (.ifCond .ne 11, 3) := by decide +kernel
theorem dX11_street_76 : decode cX11_street 76 = .ok (.bipush (-10), 2) := by decide +kernel
theorem dX11_street_78 : decode cX11_street 78 = .ok (.aload_n 0, 1) := by decide +kernel
theorem dX11_street_79 : decode cX11_street 79 = .ok (.getfield 103, 3) := by decide +kernel
theorem dX11_street_82 : decode cX11_street 82 = .ok (.isub, 1) := by decide +kernel
theorem dX11_street_83 : decode cX11_street 83 = .ok (.ireturn, 1) := by decide +kernel
theorem dX11_street_84 : decode cX11_street 84 = .ok (.aload_n 0, 1) := by decide +kernel
theorem dX11_street_85 : decode cX11_street 85 = .ok (.aload_n 0, 1) := by decide +kernel
theorem dX11_street_86 : decode cX11_street 86 = .ok (.getfield 124, 3) := by decide +kernel
theorem dX11_street_89 : decode cX11_street 89 = .ok (.putfield 80, 3) := by decide +kernel
theorem dX11_street_92 : decode cX11_street 92 = .ok (.aload_n 0, 1) := by decide +kernel
theorem dX11_street_93 : decode cX11_street 93 = .ok (.aload_n 0, 1) := by decide +kernel
theorem dX11_street_94 : decode cX11_street 94 = .ok (.getfield 127, 3) := by decide +kernel
theorem dX11_street_97 : decode cX11_street 97 = .ok (.putfield 163, 3) := by decide +kernel
theorem dX11_street_100 : decode cX11_street 100 = .ok (.aload_n 0, 1) := by decide +kernel
theorem dX11_street_101 : decode cX11_street 101 = .ok (.aload_n 0, 1) := by decide +kernel
theorem dX11_street_102 : decode cX11_street 102 = .ok (.getfield 134, 3) := by decide +kernel
theorem dX11_street_105 : decode cX11_street 105 = .ok (.putfield 73, 3) := by decide +kernel
theorem dX11_street_108 : decode cX11_street 108 = .ok (.aload_n 0, 1) := by decide +kernel
theorem dX11_street_109 : decode cX11_street 109 = .ok (.aload_n 0, 1) := by decide +kernel
theorem dX11_street_110 : decode cX11_street 110 = .ok (.getfield 137, 3) := by decide +kernel
theorem dX11_street_113 : decode cX11_street 113 = .ok (.putfield 83, 3) := by decide +kernel
theorem dX11_street_116 : decode cX11_street 116 = .ok (.aload_n 0, 1) := by decide +kernel
theorem dX11_street_117 : decode cX11_street 117 = .ok (.aload_n 0, 1) := by decide +kernel
theorem dX11_street_118 : decode cX11_street 118 = .ok (.getfield 144, 3) := by decide +kernel
theorem dX11_street_121 : decode cX11_street 121 = .ok (.putfield 166, 3) := by decide +kernel
theorem dX11_street_124 : decode cX11_street 124 = .ok (.aload_n 0, 1) := by decide +kernel
theorem dX11_street_125 : decode cX11_street 125 = .ok (.invokevirtual 70, 3) := by decide +kernel
theorem dX11_street_128 : decode cX11_street 128 = .ok (.iconst 0, 1) := by decide +kernel
theorem dX11_street_129 : decode cX11_street 129 = .ok (.istore_n 2, 1) := by decide +kernel
theorem dX11_street_130 : decode cX11_street 130 = .ok (.iload_n 2, 1) := by decide +kernel
theorem dX11_street_131 : decode cX11_street 131 = .ok (.aload_n 0, 1) := by decide +kernel
theorem dX11_street_132 : decode cX11_street 132 = .ok (.getfield 73, 3) := by decide +kernel
theorem dX11_street_135 : decode cX11_street 135 = .ok (.if_icmp .ge 47, 3) := by decide +kernel
theorem dX11_street_138 : decode cX11_street 138 = .ok (.iconst 0, 1) := by decide +kernel
theorem dX11_street_139 : decode cX11_street 139 = .ok (.istore_n 3, 1) := by decide +kernel
theorem dX11_street_140 : decode cX11_street 140 = .ok (.iload_n 3, 1) := by decide +kernel
theorem dX11_street_141 : decode cX11_street 141 = .ok (.aload_n 0, 1) := by decide +kernel
theorem dX11_street_142 : decode cX11_street 142 = .ok (.getfield 80, 3) := by decide +kernel
theorem dX11_street_145 : decode cX11_street 145 = .ok (.if_icmp .ge 31, 3) := by decide +kernel
theorem dX11_street_148 : decode cX11_street 148 = .ok (.aload_n 0, 1) := by decide +kernel
theorem dX11_street_149 : decode cX11_street 149 = .ok (.getfield 7, 3) := by decide +kernel
theorem dX11_street_152 : decode cX11_street 152 = .ok (.iconst 0, 1) := by decide +kernel
theorem dX11_street_153 : decode cX11_street 153 = .ok (.iconst 5, 1) := by decide +kernel
theorem dX11_street_154 : decode cX11_street 154 = .ok (.iload_n 2, 1) := by decide +kernel
theorem dX11_street_155 : decode cX11_street 155 = .ok (.imul, 1) := by decide +kernel
theorem dX11_street_156 : decode cX11_street 156 = .ok (.iadd, 1) := by decide +kernel
theorem dX11_street_157 : decode cX11_street 157 = .ok (.iload_n 3, 1) := by decide +kernel
theorem dX11_street_158 : decode cX11_street 158 = .ok (.iadd, 1) := by decide +kernel
theorem dX11_street_159 : decode cX11_street 159 = .ok (.aload_n 0, 1) := by decide +kernel
theorem dX11_street_160 : decode cX11_street 160 = .ok (.getfield 33, 3) := by decide +kernel
theorem dX11_street_163 : decode cX11_street 163 = .ok (.iconst 5, 1) := by decide +kernel
theorem dX11_street_164 : decode cX11_street 164 = .ok (.iload_n 2, 1) := by decide +kernel
theorem dX11_street_165 : decode cX11_street 165 = .ok (.imul, 1) := by decide +kernel
theorem dX11_street_166 : decode cX11_street 166 = .ok (.iload_n 3, 1) := by decide +kernel
theorem dX11_street_167 : decode cX11_street 167 = .ok (.iadd, 1) := by decide +kernel
theorem dX11_street_168 : decode cX11_street 168 = .ok (.iaload, 1) := by decide +kernel
theorem dX11_street_169 : decode cX11_street 169 = .ok (.iastore, 1) := by decide +kernel
theorem dX11_street_170 : decode cX11_street 170 = .ok (.iinc 3 1, 3) := by decide +kernel
theorem dX11_street_173 : decode cX11_street 173 = .ok (.goto (-33), 3) := by decide +kernel
theorem dX11_street_176 : decode cX11_street 176 = .ok (.iinc 2 1, 3) := by decide +kernel
theorem dX11_street_179 : decode cX11_street 179 = .ok (.goto (-49), 3) := by decide +kernel
theorem dX11_street_182 : decode cX11_street 182 = .ok (.iconst 0, 1) := by decide +kernel
theorem dX11_street_183 : decode cX11_street 183 = .ok (.istore_n 2, 1) := by decide +kernel
theorem dX11_street_184 : decode cX11_street 184 = .ok (.iload_n 2, 1) := by decide +kernel
theorem dX11_street_185 : decode cX11_street 185 = .ok (.aload_n 0, 1) := by decide +kernel
theorem dX11_street_186 : decode cX11_street 186 = .ok (.getfield 83, 3) := by decide +kernel
theorem dX11_street_189 : decode cX11_street 189 = .ok (.if_icmp .ge 55, 3) := by decide +kernel
theorem dX11_street_192 : decode cX11_street 192 = .ok (.aload_n 0, 1) := by decide +kernel
theorem dX11_street_193 : decode cX11_street 193 = .ok (.getfield 17, 3) := by decide +kernel
theorem dX11_street_196 : decode cX11_street 196 = .ok (.iload_n 2, 1) := by decide +kernel
theorem dX11_street_197 : decode cX11_street 197 = .ok (.aload_n 0, 1) := by decide +kernel
theorem dX11_street_198 : decode cX11_street 198 = .ok (.getfield 36, 3) := by decide +kernel
theorem dX11_street_201 : decode cX11_street 201 = .ok (.iconst 3, 1) := by decide +kernel
theorem dX11_street_202 : decode cX11_street 202 = .ok (.iload_n 2, 1) := by decide +kernel
theorem dX11_street_203 : decode cX11_street 203 = .ok (.imul, 1) := by decide +kernel
theorem dX11_street_204 : decode cX11_street 204 = .ok (.iaload, 1) := by decide +kernel
theorem dX11_street_205 : decode cX11_street 205 = .ok (.iastore, 1) := by decide +kernel
theorem dX11_street_206 : decode cX11_street 206 = .ok (.aload_n 0, 1) := by decide +kernel
theorem dX11_street_207 : decode cX11_street 207 = .ok (.getfield 20, 3) := by decide +kernel
theorem dX11_street_210 : decode cX11_street 210 = .ok (.iload_n 2, 1) := by decide +kernel
theorem dX11_street_211 : decode cX11_street 211 = .ok (.aload_n 0, 1) := by decide +kernel
theorem dX11_street_212 : decode cX11_street 212 = .ok (.getfield 36, 3) := by decide +kernel
theorem dX11_street_215 : decode cX11_street 215 = .ok (.iconst 3, 1) := by decide +kernel
theorem dX11_street_216 : decode cX11_street 216 = .ok (.iload_n 2, 1) := by decide +kernel
theorem dX11_street_217 : decode cX11_street 217 = .ok (.imul, 1) := by decide +kernel
theorem dX11_street_218 : decode cX11_street 218 = .ok (.iconst 1, 1) := by decide +kernel
theorem dX11_street_219 : decode cX11_street 219 = .ok (.iadd, 1) := by decide +kernel
theorem dX11_street_220 : decode cX11_street 220 = .ok (.iaload, 1) := by decide +kernel
theorem dX11_street_221 : decode cX11_street 221 = .ok (.iastore, 1) := by decide +kernel
theorem dX11_street_222 : decode cX11_street 222 = .ok (.aload_n 0, 1) := by decide +kernel
theorem dX11_street_223 : decode cX11_street 223 = .ok (.getfield 23, 3) := by decide +kernel
theorem dX11_street_226 : decode cX11_street 226 = .ok (.iload_n 2, 1) := by decide +kernel
theorem dX11_street_227 : decode cX11_street 227 = .ok (.aload_n 0, 1) := by decide +kernel
theorem dX11_street_228 : decode cX11_street 228 = .ok (.getfield 36, 3) := by decide +kernel
theorem dX11_street_231 : decode cX11_street 231 = .ok (.iconst 3, 1) := by decide +kernel
theorem dX11_street_232 : decode cX11_street 232 = .ok (.iload_n 2, 1) := by decide +kernel
theorem dX11_street_233 : decode cX11_street 233 = .ok (.imul, 1) := by decide +kernel
theorem dX11_street_234 : decode cX11_street 234 = .ok (.iconst 2, 1) := by decide +kernel
theorem dX11_street_235 : decode cX11_street 235 = .ok (.iadd, 1) := by decide +kernel
theorem dX11_street_236 : decode cX11_street 236 = .ok (.iaload, 1) := by decide +kernel
theorem dX11_street_237 : decode cX11_street 237 = .ok (.iastore, 1) := by decide +kernel
theorem dX11_street_238 : decode cX11_street 238 = .ok (.iinc 2 1, 3) := by decide +kernel
theorem dX11_street_241 : decode cX11_street 241 = .ok (.goto (-57), 3) := by decide +kernel
theorem dX11_street_244 : decode cX11_street 244 = .ok (.aload_n 0, 1) := by decide +kernel
theorem dX11_street_245 : decode cX11_street 245 = .ok (.iconst 0, 1) := by decide +kernel
theorem dX11_street_246 : decode cX11_street 246 = .ok (.putfield 169, 3) := by decide +kernel
theorem dX11_street_249 : decode cX11_street 249 = .ok (.aload_n 0, 1) := by decide +kernel
theorem dX11_street_250 : decode cX11_street 250 = .ok (.iconst 0, 1) := by decide +kernel
theorem dX11_street_251 : decode cX11_street 251 = .ok (.putfield 172, 3) := by decide +kernel
theorem dX11_street_254 : decode cX11_street 254 = .ok (.aload_n 0, 1) := by decide +kernel
theorem dX11_street_255 : decode cX11_street 255 = .ok (.getfield 13, 3) := by decide +kernel
theorem dX11_street_258 : decode cX11_street 258 = .ok (.iconst 0, 1) := by decide +kernel
theorem dX11_street_259 : decode cX11_street 259 = .ok (.iconst 0, 1) := by decide +kernel
theorem dX11_street_260 : decode cX11_street 260 = .ok (.bastore, 1) := by decide +kernel
theorem dX11_street_261 : decode cX11_street 261 = .ok (.aload_n 0, 1) := by decide +kernel
theorem dX11_street_262 : decode cX11_street 262 = .ok (.getfield 13, 3) := by decide +kernel
theorem dX11_street_265 : decode cX11_street 265 = .ok (.iconst 1, 1) := by decide +kernel
theorem dX11_street_266 : decode cX11_street 266 = .ok (.iconst 0, 1) := by decide +kernel
theorem dX11_street_267 : decode cX11_street 267 = .ok (.bastore, 1) := by decide +kernel
theorem dX11_street_268 : decode cX11_street 268 = .ok (.aload_n 0, 1) := by decide +kernel
theorem dX11_street_269 : decode cX11_street 269 = .ok (.getfield 73, 3) := by decide +kernel
theorem dX11_street_272 : decode cX11_street 272 = .ok (.ireturn, 1) := by decide +kernel
theorem dX11_fault_0 : decode cX11_fault 0 = .ok (.aload_n 0, 1) := by decide +kernel
theorem dX11_fault_1 : decode cX11_fault 1 = .ok (.getfield 29, 3) := by decide +kernel
theorem dX11_fault_4 : decode cX11_fault 4 = .ok (.ireturn, 1) := by decide +kernel
theorem dX11_loavesBy_0 : decode cX11_loavesBy 0 = .ok (.iconst 0, 1) := by decide +kernel
theorem dX11_loavesBy_1 : decode cX11_loavesBy 1 = .ok (.istore_n 2, 1) := by decide +kernel
theorem dX11_loavesBy_2 : decode cX11_loavesBy 2 = .ok (.iconst 0, 1) := by decide +kernel
theorem dX11_loavesBy_3 : decode cX11_loavesBy 3 = .ok (.istore_n 3, 1) := by decide +kernel
theorem dX11_loavesBy_4 : decode cX11_loavesBy 4 = .ok (.iload_n 3, 1) := by decide +kernel
theorem dX11_loavesBy_5 : decode cX11_loavesBy 5 = .ok (.aload_n 0, 1) := by decide +kernel
theorem dX11_loavesBy_6 : decode cX11_loavesBy 6 = .ok (.getfield 83, 3) := by decide +kernel
theorem dX11_loavesBy_9 : decode cX11_loavesBy 9 = .ok (.if_icmp .ge 98, 3) := by decide +kernel
theorem dX11_loavesBy_12 : decode cX11_loavesBy 12 = .ok (.iload_n 1, 1) := by decide +kernel
theorem dX11_loavesBy_13 : decode cX11_loavesBy 13 = .ok (.bipush 9, 2) := by decide +kernel
theorem dX11_loavesBy_15 : decode cX11_loavesBy 15 = .ok (.if_icmp .ne 24, 3) := by decide +kernel
theorem dX11_loavesBy_18 : decode cX11_loavesBy 18 = .ok (.aload_n 0, 1) := by decide +kernel
theorem dX11_loavesBy_19 : decode cX11_loavesBy 19 = .ok (.getfield 7, 3) := by decide +kernel
theorem dX11_loavesBy_22 : decode cX11_loavesBy 22 = .ok (.bipush 30, 2) := by decide +kernel
theorem dX11_loavesBy_24 : decode cX11_loavesBy 24 = .ok (.iload_n 3, 1) := by decide +kernel
theorem dX11_loavesBy_25 : decode cX11_loavesBy 25 = .ok (.iadd, 1) := by decide +kernel
theorem dX11_loavesBy_26 : decode cX11_loavesBy 26 = .ok (.iaload, 1) := by decide +kernel
theorem dX11_loavesBy_27 : decode cX11_loavesBy 27 = .ok (.iconst (-1), 1) := by decide +kernel
theorem dX11_loavesBy_28 : decode cX11_loavesBy 28 = .ok (.if_icmp .eq 7, 3) := by decide +kernel
theorem dX11_loavesBy_31 : decode cX11_loavesBy 31 = .ok (.iconst 1, 1) := by decide +kernel
theorem dX11_loavesBy_32 : decode cX11_loavesBy 32 = .ok (.goto 52, 3) := by decide +kernel
theorem dX11_loavesBy_35 : decode cX11_loavesBy 35 = .ok (.iconst 0, 1) := by decide +kernel
theorem dX11_loavesBy_36 : decode cX11_loavesBy 36 = .ok (.goto 48, 3) := by decide +kernel
theorem dX11_loavesBy_39 : decode cX11_loavesBy 39 = .ok (.iload_n 1, 1) := by decide +kernel
theorem dX11_loavesBy_40 : decode cX11_loavesBy 40 = .ok (.bipush 10, 2) := by decide +kernel
theorem dX11_loavesBy_42 : decode cX11_loavesBy 42 = .ok (.if_icmp .ne 24, 3) := by decide +kernel
theorem dX11_loavesBy_45 : decode cX11_loavesBy 45 = .ok (.aload_n 0, 1) := by decide +kernel
theorem dX11_loavesBy_46 : decode cX11_loavesBy 46 = .ok (.getfield 7, 3) := by decide +kernel
theorem dX11_loavesBy_49 : decode cX11_loavesBy 49 = .ok (.bipush 37, 2) := by decide +kernel
theorem dX11_loavesBy_51 : decode cX11_loavesBy 51 = .ok (.iload_n 3, 1) := by decide +kernel
theorem dX11_loavesBy_52 : decode cX11_loavesBy 52 = .ok (.iadd, 1) := by decide +kernel
theorem dX11_loavesBy_53 : decode cX11_loavesBy 53 = .ok (.iaload, 1) := by decide +kernel
theorem dX11_loavesBy_54 : decode cX11_loavesBy 54 = .ok (.iconst (-1), 1) := by decide +kernel
theorem dX11_loavesBy_55 : decode cX11_loavesBy 55 = .ok (.if_icmp .eq 7, 3) := by decide +kernel
theorem dX11_loavesBy_58 : decode cX11_loavesBy 58 = .ok (.iconst 1, 1) := by decide +kernel
theorem dX11_loavesBy_59 : decode cX11_loavesBy 59 = .ok (.goto 25, 3) := by decide +kernel
theorem dX11_loavesBy_62 : decode cX11_loavesBy 62 = .ok (.iconst 0, 1) := by decide +kernel
theorem dX11_loavesBy_63 : decode cX11_loavesBy 63 = .ok (.goto 21, 3) := by decide +kernel
theorem dX11_loavesBy_66 : decode cX11_loavesBy 66 = .ok (.aload_n 0, 1) := by decide +kernel
theorem dX11_loavesBy_67 : decode cX11_loavesBy 67 = .ok (.getfield 7, 3) := by decide +kernel
theorem dX11_loavesBy_70 : decode cX11_loavesBy 70 = .ok (.bipush 44, 2) := by decide +kernel
theorem dX11_loavesBy_72 : decode cX11_loavesBy 72 = .ok (.iload_n 3, 1) := by decide +kernel
theorem dX11_loavesBy_73 : decode cX11_loavesBy 73 = .ok (.iadd, 1) := by decide +kernel
theorem dX11_loavesBy_74 : decode cX11_loavesBy 74 = .ok (.iaload, 1) := by decide +kernel
theorem dX11_loavesBy_75 : decode cX11_loavesBy 75 = .ok (.iconst 1, 1) := by decide +kernel
theorem dX11_loavesBy_76 : decode cX11_loavesBy 76 = .ok (.if_icmp .ne 7, 3) := by decide +kernel
theorem dX11_loavesBy_79 : decode cX11_loavesBy 79 = .ok (.iconst 1, 1) := by decide +kernel
theorem dX11_loavesBy_80 : decode cX11_loavesBy 80 = .ok (.goto 4, 3) := by decide +kernel
theorem dX11_loavesBy_83 : decode cX11_loavesBy 83 = .ok (.iconst 0, 1) := by decide +kernel
theorem dX11_loavesBy_84 : decode cX11_loavesBy 84 = .ok (.istore 4, 2) := by decide +kernel
theorem dX11_loavesBy_86 : decode cX11_loavesBy 86 = .ok (.iload_n 2, 1) := by decide +kernel
theorem dX11_loavesBy_87 : decode cX11_loavesBy 87 = .ok (.iload 4, 2) := by decide +kernel
theorem dX11_loavesBy_89 : decode cX11_loavesBy 89 = .ok (.ifCond .eq 9, 3) := by decide +kernel
theorem dX11_loavesBy_92 : decode cX11_loavesBy 92 = .ok (.iconst 1, 1) := by decide +kernel
theorem dX11_loavesBy_93 : decode cX11_loavesBy 93 = .ok (.iload_n 3, 1) := by decide +kernel
theorem dX11_loavesBy_94 : decode cX11_loavesBy 94 = .ok (.ishl, 1) := by decide +kernel
theorem dX11_loavesBy_95 : decode cX11_loavesBy 95 = .ok (.goto 4, 3) := by decide +kernel
theorem dX11_loavesBy_98 : decode cX11_loavesBy 98 = .ok (.iconst 0, 1) := by decide +kernel
theorem dX11_loavesBy_99 : decode cX11_loavesBy 99 = .ok (.ior, 1) := by decide +kernel
theorem dX11_loavesBy_100 : decode cX11_loavesBy 100 = .ok (.istore_n 2, 1) := by decide +kernel
theorem dX11_loavesBy_101 : decode cX11_loavesBy 101 = .ok (.iinc 3 1, 3) := by decide +kernel
theorem dX11_loavesBy_104 : decode cX11_loavesBy 104 = .ok (.goto (-100), 3) := by decide +kernel
theorem dX11_loavesBy_107 : decode cX11_loavesBy 107 = .ok (.iload_n 2, 1) := by decide +kernel
theorem dX11_loavesBy_108 : decode cX11_loavesBy 108 = .ok (.ireturn, 1) := by decide +kernel
theorem dX11_told_0 : decode cX11_told 0 = .ok (.iload_n 1, 1) := by decide +kernel
theorem dX11_told_1 : decode cX11_told 1 = .ok (.tableswitch 135 0 13 #[71, 76, 81, 86, 91, 96, 101, 109, 117, 135, 135, 135, 125, 130], 71) := by decide +kernel
theorem dX11_told_72 : decode cX11_told 72 = .ok (.aload_n 0, 1) := by decide +kernel
theorem dX11_told_73 : decode cX11_told 73 = .ok (.getfield 80, 3) := by decide +kernel
theorem dX11_told_76 : decode cX11_told 76 = .ok (.ireturn, 1) := by decide +kernel
theorem dX11_told_77 : decode cX11_told 77 = .ok (.aload_n 0, 1) := by decide +kernel
theorem dX11_told_78 : decode cX11_told 78 = .ok (.getfield 163, 3) := by decide +kernel
theorem dX11_told_81 : decode cX11_told 81 = .ok (.ireturn, 1) := by decide +kernel
theorem dX11_told_82 : decode cX11_told 82 = .ok (.aload_n 0, 1) := by decide +kernel
theorem dX11_told_83 : decode cX11_told 83 = .ok (.getfield 73, 3) := by decide +kernel
theorem dX11_told_86 : decode cX11_told 86 = .ok (.ireturn, 1) := by decide +kernel
theorem dX11_told_87 : decode cX11_told 87 = .ok (.aload_n 0, 1) := by decide +kernel
theorem dX11_told_88 : decode cX11_told 88 = .ok (.getfield 83, 3) := by decide +kernel
theorem dX11_told_91 : decode cX11_told 91 = .ok (.ireturn, 1) := by decide +kernel
theorem dX11_told_92 : decode cX11_told 92 = .ok (.aload_n 0, 1) := by decide +kernel
theorem dX11_told_93 : decode cX11_told 93 = .ok (.getfield 166, 3) := by decide +kernel
theorem dX11_told_96 : decode cX11_told 96 = .ok (.ireturn, 1) := by decide +kernel
theorem dX11_told_97 : decode cX11_told 97 = .ok (.aload_n 0, 1) := by decide +kernel
theorem dX11_told_98 : decode cX11_told 98 = .ok (.getfield 89, 3) := by decide +kernel
theorem dX11_told_101 : decode cX11_told 101 = .ok (.ireturn, 1) := by decide +kernel
theorem dX11_told_102 : decode cX11_told 102 = .ok (.aload_n 0, 1) := by decide +kernel
theorem dX11_told_103 : decode cX11_told 103 = .ok (.getfield 7, 3) := by decide +kernel
theorem dX11_told_106 : decode cX11_told 106 = .ok (.bipush 52, 2) := by decide +kernel
theorem dX11_told_108 : decode cX11_told 108 = .ok (.iaload, 1) := by decide +kernel
theorem dX11_told_109 : decode cX11_told 109 = .ok (.ireturn, 1) := by decide +kernel
theorem dX11_told_110 : decode cX11_told 110 = .ok (.aload_n 0, 1) := by decide +kernel
theorem dX11_told_111 : decode cX11_told 111 = .ok (.getfield 7, 3) := by decide +kernel
theorem dX11_told_114 : decode cX11_told 114 = .ok (.bipush 53, 2) := by decide +kernel
theorem dX11_told_116 : decode cX11_told 116 = .ok (.iaload, 1) := by decide +kernel
theorem dX11_told_117 : decode cX11_told 117 = .ok (.ireturn, 1) := by decide +kernel
theorem dX11_told_118 : decode cX11_told 118 = .ok (.aload_n 0, 1) := by decide +kernel
theorem dX11_told_119 : decode cX11_told 119 = .ok (.getfield 7, 3) := by decide +kernel
theorem dX11_told_122 : decode cX11_told 122 = .ok (.bipush 51, 2) := by decide +kernel
theorem dX11_told_124 : decode cX11_told 124 = .ok (.iaload, 1) := by decide +kernel
theorem dX11_told_125 : decode cX11_told 125 = .ok (.ireturn, 1) := by decide +kernel
theorem dX11_told_126 : decode cX11_told 126 = .ok (.aload_n 0, 1) := by decide +kernel
theorem dX11_told_127 : decode cX11_told 127 = .ok (.getfield 169, 3) := by decide +kernel
theorem dX11_told_130 : decode cX11_told 130 = .ok (.ireturn, 1) := by decide +kernel
theorem dX11_told_131 : decode cX11_told 131 = .ok (.aload_n 0, 1) := by decide +kernel
theorem dX11_told_132 : decode cX11_told 132 = .ok (.getfield 172, 3) := by decide +kernel
theorem dX11_told_135 : decode cX11_told 135 = .ok (.ireturn, 1) := by decide +kernel
theorem dX11_told_136 : decode cX11_told 136 = .ok (.iload_n 1, 1) := by decide +kernel
theorem dX11_told_137 : decode cX11_told 137 = .ok (.i2l, 1) := by decide +kernel
theorem dX11_told_138 : decode cX11_told 138 = .ok (.ldc2_w 175, 3) := by decide +kernel
theorem dX11_told_141 : decode cX11_told 141 = .ok (.ldc2_w 177, 3) := by decide +kernel
theorem dX11_told_144 : decode cX11_told 144 = .ok (.invokestatic 76, 3) := by decide +kernel
theorem dX11_told_147 : decode cX11_told 147 = .ok (.ifCond .eq 11, 3) := by decide +kernel
theorem dX11_told_150 : decode cX11_told 150 = .ok (.aload_n 0, 1) := by decide +kernel
theorem dX11_told_151 : decode cX11_told 151 = .ok (.iload_n 1, 1) := by decide +kernel
theorem dX11_told_152 : decode cX11_told 152 = .ok (.invokevirtual 179, 3) := by decide +kernel
theorem dX11_told_155 : decode cX11_told 155 = .ok (.goto 5, 3) := by decide +kernel
theorem dX11_told_158 : decode cX11_told 158 = .ok (.ldc 88, 2) := by decide +kernel
theorem dX11_told_160 : decode cX11_told 160 = .ok (.ireturn, 1) := by decide +kernel
theorem dX11_weightOf_0 : decode cX11_weightOf 0 = .ok (.aload_n 0, 1) := by decide +kernel
theorem dX11_weightOf_1 : decode cX11_weightOf 1 = .ok (.getfield 7, 3) := by decide +kernel
theorem dX11_weightOf_4 : decode cX11_weightOf 4 = .ok (.iload_n 1, 1) := by decide +kernel
theorem dX11_weightOf_5 : decode cX11_weightOf 5 = .ok (.iconst 0, 1) := by decide +kernel
theorem dX11_weightOf_6 : decode cX11_weightOf 6 = .ok (.iadd, 1) := by decide +kernel
theorem dX11_weightOf_7 : decode cX11_weightOf 7 = .ok (.iconst 5, 1) := by decide +kernel
theorem dX11_weightOf_8 : decode cX11_weightOf 8 = .ok (.iload_n 2, 1) := by decide +kernel
theorem dX11_weightOf_9 : decode cX11_weightOf 9 = .ok (.imul, 1) := by decide +kernel
theorem dX11_weightOf_10 : decode cX11_weightOf 10 = .ok (.iadd, 1) := by decide +kernel
theorem dX11_weightOf_11 : decode cX11_weightOf 11 = .ok (.iload_n 3, 1) := by decide +kernel
theorem dX11_weightOf_12 : decode cX11_weightOf 12 = .ok (.iadd, 1) := by decide +kernel
theorem dX11_weightOf_13 : decode cX11_weightOf 13 = .ok (.iaload, 1) := by decide +kernel
theorem dX11_weightOf_14 : decode cX11_weightOf 14 = .ok (.ireturn, 1) := by decide +kernel
theorem dX11_allOf_0 : decode cX11_allOf 0 = .ok (.iconst 0, 1) := by decide +kernel
theorem dX11_allOf_1 : decode cX11_allOf 1 = .ok (.istore_n 3, 1) := by decide +kernel
theorem dX11_allOf_2 : decode cX11_allOf 2 = .ok (.iconst 0, 1) := by decide +kernel
theorem dX11_allOf_3 : decode cX11_allOf 3 = .ok (.istore 4, 2) := by decide +kernel
theorem dX11_allOf_5 : decode cX11_allOf 5 = .ok (.iload 4, 2) := by decide +kernel
theorem dX11_allOf_7 : decode cX11_allOf 7 = .ok (.aload_n 0, 1) := by decide +kernel
theorem dX11_allOf_8 : decode cX11_allOf 8 = .ok (.getfield 80, 3) := by decide +kernel
theorem dX11_allOf_11 : decode cX11_allOf 11 = .ok (.if_icmp .ge 20, 3) := by decide +kernel
theorem dX11_allOf_14 : decode cX11_allOf 14 = .ok (.iload_n 3, 1) := by decide +kernel
theorem dX11_allOf_15 : decode cX11_allOf 15 = .ok (.aload_n 0, 1) := by decide +kernel
theorem dX11_allOf_16 : decode cX11_allOf 16 = .ok (.iload_n 1, 1) := by decide +kernel
theorem dX11_allOf_17 : decode cX11_allOf 17 = .ok (.iload_n 2, 1) := by decide +kernel
theorem dX11_allOf_18 : decode cX11_allOf 18 = .ok (.iload 4, 2) := by decide +kernel
theorem dX11_allOf_20 : decode cX11_allOf 20 = .ok (.invokevirtual 182, 3) := by decide +kernel
theorem dX11_allOf_23 : decode cX11_allOf 23 = .ok (.iadd, 1) := by decide +kernel
theorem dX11_allOf_24 : decode cX11_allOf 24 = .ok (.istore_n 3, 1) := by decide +kernel
theorem dX11_allOf_25 : decode cX11_allOf 25 = .ok (.iinc 4 1, 3) := by decide +kernel
theorem dX11_allOf_28 : decode cX11_allOf 28 = .ok (.goto (-23), 3) := by decide +kernel
theorem dX11_allOf_31 : decode cX11_allOf 31 = .ok (.iload_n 3, 1) := by decide +kernel
theorem dX11_allOf_32 : decode cX11_allOf 32 = .ok (.ireturn, 1) := by decide +kernel
theorem dX11_likeliestOf_0 : decode cX11_likeliestOf 0 = .ok (.iconst 0, 1) := by decide +kernel
theorem dX11_likeliestOf_1 : decode cX11_likeliestOf 1 = .ok (.istore_n 3, 1) := by decide +kernel
theorem dX11_likeliestOf_2 : decode cX11_likeliestOf 2 = .ok (.iconst 1, 1) := by decide +kernel
theorem dX11_likeliestOf_3 : decode cX11_likeliestOf 3 = .ok (.istore 4, 2) := by decide +kernel
theorem dX11_likeliestOf_5 : decode cX11_likeliestOf 5 = .ok (.iload 4, 2) := by decide +kernel
theorem dX11_likeliestOf_7 : decode cX11_likeliestOf 7 = .ok (.aload_n 0, 1) := by decide +kernel
theorem dX11_likeliestOf_8 : decode cX11_likeliestOf 8 = .ok (.getfield 80, 3) := by decide +kernel
theorem dX11_likeliestOf_11 : decode cX11_likeliestOf 11 = .ok (.if_icmp .ge 34, 3) := by decide +kernel
theorem dX11_likeliestOf_14 : decode cX11_likeliestOf 14 = .ok (.aload_n 0, 1) := by decide +kernel
theorem dX11_likeliestOf_15 : decode cX11_likeliestOf 15 = .ok (.iload_n 1, 1) := by decide +kernel
theorem dX11_likeliestOf_16 : decode cX11_likeliestOf 16 = .ok (.iload_n 2, 1) := by decide +kernel
theorem dX11_likeliestOf_17 : decode cX11_likeliestOf 17 = .ok (.iload 4, 2) := by decide +kernel
theorem dX11_likeliestOf_19 : decode cX11_likeliestOf 19 = .ok (.invokevirtual 182, 3) := by decide +kernel
theorem dX11_likeliestOf_22 : decode cX11_likeliestOf 22 = .ok (.aload_n 0, 1) := by decide +kernel
theorem dX11_likeliestOf_23 : decode cX11_likeliestOf 23 = .ok (.iload_n 1, 1) := by decide +kernel
theorem dX11_likeliestOf_24 : decode cX11_likeliestOf 24 = .ok (.iload_n 2, 1) := by decide +kernel
theorem dX11_likeliestOf_25 : decode cX11_likeliestOf 25 = .ok (.iload_n 3, 1) := by decide +kernel
theorem dX11_likeliestOf_26 : decode cX11_likeliestOf 26 = .ok (.invokevirtual 182, 3) := by decide +kernel
theorem dX11_likeliestOf_29 : decode cX11_likeliestOf 29 = .ok (.if_icmp .le 8, 3) := by decide +kernel
theorem dX11_likeliestOf_32 : decode cX11_likeliestOf 32 = .ok (.iload 4, 2) := by decide +kernel
theorem dX11_likeliestOf_34 : decode cX11_likeliestOf 34 = .ok (.goto 4, 3) := by decide +kernel
theorem dX11_likeliestOf_37 : decode cX11_likeliestOf 37 = .ok (.iload_n 3, 1) := by decide +kernel
theorem dX11_likeliestOf_38 : decode cX11_likeliestOf 38 = .ok (.istore_n 3, 1) := by decide +kernel
theorem dX11_likeliestOf_39 : decode cX11_likeliestOf 39 = .ok (.iinc 4 1, 3) := by decide +kernel
theorem dX11_likeliestOf_42 : decode cX11_likeliestOf 42 = .ok (.goto (-37), 3) := by decide +kernel
theorem dX11_likeliestOf_45 : decode cX11_likeliestOf 45 = .ok (.iload_n 3, 1) := by decide +kernel
theorem dX11_likeliestOf_46 : decode cX11_likeliestOf 46 = .ok (.ireturn, 1) := by decide +kernel
theorem dX11_weight_0 : decode cX11_weight 0 = .ok (.aload_n 0, 1) := by decide +kernel
theorem dX11_weight_1 : decode cX11_weight 1 = .ok (.iload_n 1, 1) := by decide +kernel
theorem dX11_weight_2 : decode cX11_weight 2 = .ok (.invokevirtual 186, 3) := by decide +kernel
theorem dX11_weight_5 : decode cX11_weight 5 = .ok (.ifCond .eq 21, 3) := by decide +kernel
theorem dX11_weight_8 : decode cX11_weight 8 = .ok (.aload_n 0, 1) := by decide +kernel
theorem dX11_weight_9 : decode cX11_weight 9 = .ok (.iload_n 2, 1) := by decide +kernel
theorem dX11_weight_10 : decode cX11_weight 10 = .ok (.invokevirtual 189, 3) := by decide +kernel
theorem dX11_weight_13 : decode cX11_weight 13 = .ok (.ifCond .eq 13, 3) := by decide +kernel
theorem dX11_weight_16 : decode cX11_weight 16 = .ok (.aload_n 0, 1) := by decide +kernel
theorem dX11_weight_17 : decode cX11_weight 17 = .ok (.iconst 0, 1) := by decide +kernel
theorem dX11_weight_18 : decode cX11_weight 18 = .ok (.iload_n 1, 1) := by decide +kernel
theorem dX11_weight_19 : decode cX11_weight 19 = .ok (.iload_n 2, 1) := by decide +kernel
theorem dX11_weight_20 : decode cX11_weight 20 = .ok (.invokevirtual 182, 3) := by decide +kernel
theorem dX11_weight_23 : decode cX11_weight 23 = .ok (.goto 5, 3) := by decide +kernel
theorem dX11_weight_26 : decode cX11_weight 26 = .ok (.ldc 192, 2) := by decide +kernel
theorem dX11_weight_28 : decode cX11_weight 28 = .ok (.ireturn, 1) := by decide +kernel
theorem dX11_odds_0 : decode cX11_odds 0 = .ok (.aload_n 0, 1) := by decide +kernel
theorem dX11_odds_1 : decode cX11_odds 1 = .ok (.iload_n 1, 1) := by decide +kernel
theorem dX11_odds_2 : decode cX11_odds 2 = .ok (.invokevirtual 186, 3) := by decide +kernel
theorem dX11_odds_5 : decode cX11_odds 5 = .ok (.ifCond .eq 11, 3) := by decide +kernel
theorem dX11_odds_8 : decode cX11_odds 8 = .ok (.aload_n 0, 1) := by decide +kernel
theorem dX11_odds_9 : decode cX11_odds 9 = .ok (.iload_n 2, 1) := by decide +kernel
theorem dX11_odds_10 : decode cX11_odds 10 = .ok (.invokevirtual 189, 3) := by decide +kernel
theorem dX11_odds_13 : decode cX11_odds 13 = .ok (.ifCond .ne 6, 3) := by decide +kernel
theorem dX11_odds_16 : decode cX11_odds 16 = .ok (.ldc 192, 2) := by decide +kernel
theorem dX11_odds_18 : decode cX11_odds 18 = .ok (.ireturn, 1) := by decide +kernel
theorem dX11_odds_19 : decode cX11_odds 19 = .ok (.iload_n 3, 1) := by decide +kernel
theorem dX11_odds_20 : decode cX11_odds 20 = .ok (.i2l, 1) := by decide +kernel
theorem dX11_odds_21 : decode cX11_odds 21 = .ok (.lconst 0, 1) := by decide +kernel
theorem dX11_odds_22 : decode cX11_odds 22 = .ok (.lconst 1, 1) := by decide +kernel
theorem dX11_odds_23 : decode cX11_odds 23 = .ok (.invokestatic 76, 3) := by decide +kernel
theorem dX11_odds_26 : decode cX11_odds 26 = .ok (.ifCond .ne 6, 3) := by decide +kernel
theorem dX11_odds_29 : decode cX11_odds 29 = .ok (.ldc 88, 2) := by decide +kernel
theorem dX11_odds_31 : decode cX11_odds 31 = .ok (.ireturn, 1) := by decide +kernel
theorem dX11_odds_32 : decode cX11_odds 32 = .ok (.aload_n 0, 1) := by decide +kernel
theorem dX11_odds_33 : decode cX11_odds 33 = .ok (.iconst 0, 1) := by decide +kernel
theorem dX11_odds_34 : decode cX11_odds 34 = .ok (.iload_n 1, 1) := by decide +kernel
theorem dX11_odds_35 : decode cX11_odds 35 = .ok (.iload_n 2, 1) := by decide +kernel
theorem dX11_odds_36 : decode cX11_odds 36 = .ok (.invokevirtual 182, 3) := by decide +kernel
theorem dX11_odds_39 : decode cX11_odds 39 = .ok (.istore 4, 2) := by decide +kernel
theorem dX11_odds_41 : decode cX11_odds 41 = .ok (.aload_n 0, 1) := by decide +kernel
theorem dX11_odds_42 : decode cX11_odds 42 = .ok (.iconst 0, 1) := by decide +kernel
theorem dX11_odds_43 : decode cX11_odds 43 = .ok (.iload_n 1, 1) := by decide +kernel
theorem dX11_odds_44 : decode cX11_odds 44 = .ok (.invokevirtual 193, 3) := by decide +kernel
theorem dX11_odds_47 : decode cX11_odds 47 = .ok (.istore 5, 2) := by decide +kernel
theorem dX11_odds_49 : decode cX11_odds 49 = .ok (.iload 4, 2) := by decide +kernel
theorem dX11_odds_51 : decode cX11_odds 51 = .ok (.istore 6, 2) := by decide +kernel
theorem dX11_odds_53 : decode cX11_odds 53 = .ok (.iload 5, 2) := by decide +kernel
theorem dX11_odds_55 : decode cX11_odds 55 = .ok (.istore 7, 2) := by decide +kernel
theorem dX11_odds_57 : decode cX11_odds 57 = .ok (.iload 7, 2) := by decide +kernel
theorem dX11_odds_59 : decode cX11_odds 59 = .ok (.ifCond .eq 21, 3) := by decide +kernel
theorem dX11_odds_62 : decode cX11_odds 62 = .ok (.iload 6, 2) := by decide +kernel
theorem dX11_odds_64 : decode cX11_odds 64 = .ok (.iload 7, 2) := by decide +kernel
theorem dX11_odds_66 : decode cX11_odds 66 = .ok (.irem, 1) := by decide +kernel
theorem dX11_odds_67 : decode cX11_odds 67 = .ok (.istore 8, 2) := by decide +kernel
theorem dX11_odds_69 : decode cX11_odds 69 = .ok (.iload 7, 2) := by decide +kernel
theorem dX11_odds_71 : decode cX11_odds 71 = .ok (.istore 6, 2) := by decide +kernel
theorem dX11_odds_73 : decode cX11_odds 73 = .ok (.iload 8, 2) := by decide +kernel
theorem dX11_odds_75 : decode cX11_odds 75 = .ok (.istore 7, 2) := by decide +kernel
theorem dX11_odds_77 : decode cX11_odds 77 = .ok (.goto (-20), 3) := by decide +kernel
theorem dX11_odds_80 : decode cX11_odds 80 = .ok (.iload_n 3, 1) := by decide +kernel
theorem dX11_odds_81 : decode cX11_odds 81 = .ok (.ifCond .ne 11, 3) := by decide +kernel
theorem dX11_odds_84 : decode cX11_odds 84 = .ok (.iload 4, 2) := by decide +kernel
theorem dX11_odds_86 : decode cX11_odds 86 = .ok (.iload 6, 2) := by decide +kernel
theorem dX11_odds_88 : decode cX11_odds 88 = .ok (.idiv, 1) := by decide +kernel
theorem dX11_odds_89 : decode cX11_odds 89 = .ok (.goto 8, 3) := by decide +kernel
theorem dX11_odds_92 : decode cX11_odds 92 = .ok (.iload 5, 2) := by decide +kernel
theorem dX11_odds_94 : decode cX11_odds 94 = .ok (.iload 6, 2) := by decide +kernel
theorem dX11_odds_96 : decode cX11_odds 96 = .ok (.idiv, 1) := by decide +kernel
theorem dX11_odds_97 : decode cX11_odds 97 = .ok (.ireturn, 1) := by decide +kernel
theorem dX11_likeliest_0 : decode cX11_likeliest 0 = .ok (.aload_n 0, 1) := by decide +kernel
theorem dX11_likeliest_1 : decode cX11_likeliest 1 = .ok (.iload_n 1, 1) := by decide +kernel
theorem dX11_likeliest_2 : decode cX11_likeliest 2 = .ok (.invokevirtual 186, 3) := by decide +kernel
theorem dX11_likeliest_5 : decode cX11_likeliest 5 = .ok (.ifCond .eq 12, 3) := by decide +kernel
theorem dX11_likeliest_8 : decode cX11_likeliest 8 = .ok (.aload_n 0, 1) := by decide +kernel
theorem dX11_likeliest_9 : decode cX11_likeliest 9 = .ok (.iconst 0, 1) := by decide +kernel
theorem dX11_likeliest_10 : decode cX11_likeliest 10 = .ok (.iload_n 1, 1) := by decide +kernel
theorem dX11_likeliest_11 : decode cX11_likeliest 11 = .ok (.invokevirtual 197, 3) := by decide +kernel
theorem dX11_likeliest_14 : decode cX11_likeliest 14 = .ok (.goto 5, 3) := by decide +kernel
theorem dX11_likeliest_17 : decode cX11_likeliest 17 = .ok (.ldc 192, 2) := by decide +kernel
theorem dX11_likeliest_19 : decode cX11_likeliest 19 = .ok (.ireturn, 1) := by decide +kernel
theorem dX11_loaf_0 : decode cX11_loaf 0 = .ok (.aload_n 0, 1) := by decide +kernel
theorem dX11_loaf_1 : decode cX11_loaf 1 = .ok (.iload_n 1, 1) := by decide +kernel
theorem dX11_loaf_2 : decode cX11_loaf 2 = .ok (.invokevirtual 200, 3) := by decide +kernel
theorem dX11_loaf_5 : decode cX11_loaf 5 = .ok (.ifCond .ne 6, 3) := by decide +kernel
theorem dX11_loaf_8 : decode cX11_loaf 8 = .ok (.ldc 192, 2) := by decide +kernel
theorem dX11_loaf_10 : decode cX11_loaf 10 = .ok (.ireturn, 1) := by decide +kernel
theorem dX11_loaf_11 : decode cX11_loaf 11 = .ok (.iload_n 2, 1) := by decide +kernel
theorem dX11_loaf_12 : decode cX11_loaf 12 = .ok (.tableswitch 91 0 5 #[40, 47, 54, 61, 71, 81], 40) := by decide +kernel
theorem dX11_loaf_52 : decode cX11_loaf 52 = .ok (.aload_n 0, 1) := by decide +kernel
theorem dX11_loaf_53 : decode cX11_loaf 53 = .ok (.getfield 17, 3) := by decide +kernel
theorem dX11_loaf_56 : decode cX11_loaf 56 = .ok (.iload_n 1, 1) := by decide +kernel
theorem dX11_loaf_57 : decode cX11_loaf 57 = .ok (.iaload, 1) := by decide +kernel
theorem dX11_loaf_58 : decode cX11_loaf 58 = .ok (.ireturn, 1) := by decide +kernel
theorem dX11_loaf_59 : decode cX11_loaf 59 = .ok (.aload_n 0, 1) := by decide +kernel
theorem dX11_loaf_60 : decode cX11_loaf 60 = .ok (.getfield 20, 3) := by decide +kernel
theorem dX11_loaf_63 : decode cX11_loaf 63 = .ok (.iload_n 1, 1) := by decide +kernel
theorem dX11_loaf_64 : decode cX11_loaf 64 = .ok (.iaload, 1) := by decide +kernel
theorem dX11_loaf_65 : decode cX11_loaf 65 = .ok (.ireturn, 1) := by decide +kernel
theorem dX11_loaf_66 : decode cX11_loaf 66 = .ok (.aload_n 0, 1) := by decide +kernel
theorem dX11_loaf_67 : decode cX11_loaf 67 = .ok (.getfield 23, 3) := by decide +kernel
theorem dX11_loaf_70 : decode cX11_loaf 70 = .ok (.iload_n 1, 1) := by decide +kernel
theorem dX11_loaf_71 : decode cX11_loaf 71 = .ok (.iaload, 1) := by decide +kernel
theorem dX11_loaf_72 : decode cX11_loaf 72 = .ok (.ireturn, 1) := by decide +kernel
theorem dX11_loaf_73 : decode cX11_loaf 73 = .ok (.aload_n 0, 1) := by decide +kernel
theorem dX11_loaf_74 : decode cX11_loaf 74 = .ok (.getfield 7, 3) := by decide +kernel
theorem dX11_loaf_77 : decode cX11_loaf 77 = .ok (.bipush 30, 2) := by decide +kernel
theorem dX11_loaf_79 : decode cX11_loaf 79 = .ok (.iload_n 1, 1) := by decide +kernel
theorem dX11_loaf_80 : decode cX11_loaf 80 = .ok (.iadd, 1) := by decide +kernel
theorem dX11_loaf_81 : decode cX11_loaf 81 = .ok (.iaload, 1) := by decide +kernel
theorem dX11_loaf_82 : decode cX11_loaf 82 = .ok (.ireturn, 1) := by decide +kernel
theorem dX11_loaf_83 : decode cX11_loaf 83 = .ok (.aload_n 0, 1) := by decide +kernel
theorem dX11_loaf_84 : decode cX11_loaf 84 = .ok (.getfield 7, 3) := by decide +kernel
theorem dX11_loaf_87 : decode cX11_loaf 87 = .ok (.bipush 37, 2) := by decide +kernel
theorem dX11_loaf_89 : decode cX11_loaf 89 = .ok (.iload_n 1, 1) := by decide +kernel
theorem dX11_loaf_90 : decode cX11_loaf 90 = .ok (.iadd, 1) := by decide +kernel
theorem dX11_loaf_91 : decode cX11_loaf 91 = .ok (.iaload, 1) := by decide +kernel
theorem dX11_loaf_92 : decode cX11_loaf 92 = .ok (.ireturn, 1) := by decide +kernel
theorem dX11_loaf_93 : decode cX11_loaf 93 = .ok (.aload_n 0, 1) := by decide +kernel
theorem dX11_loaf_94 : decode cX11_loaf 94 = .ok (.getfield 7, 3) := by decide +kernel
theorem dX11_loaf_97 : decode cX11_loaf 97 = .ok (.bipush 44, 2) := by decide +kernel
theorem dX11_loaf_99 : decode cX11_loaf 99 = .ok (.iload_n 1, 1) := by decide +kernel
theorem dX11_loaf_100 : decode cX11_loaf 100 = .ok (.iadd, 1) := by decide +kernel
theorem dX11_loaf_101 : decode cX11_loaf 101 = .ok (.iaload, 1) := by decide +kernel
theorem dX11_loaf_102 : decode cX11_loaf 102 = .ok (.ireturn, 1) := by decide +kernel
theorem dX11_loaf_103 : decode cX11_loaf 103 = .ok (.ldc 88, 2) := by decide +kernel
theorem dX11_loaf_105 : decode cX11_loaf 105 = .ok (.ireturn, 1) := by decide +kernel
theorem dX11_worthOf_0 : decode cX11_worthOf 0 = .ok (.ldc2_w 203, 3) := by decide +kernel
theorem dX11_worthOf_3 : decode cX11_worthOf 3 = .ok (.aload_n 0, 1) := by decide +kernel
theorem dX11_worthOf_4 : decode cX11_worthOf 4 = .ok (.getfield 23, 3) := by decide +kernel
theorem dX11_worthOf_7 : decode cX11_worthOf 7 = .ok (.iload_n 1, 1) := by decide +kernel
theorem dX11_worthOf_8 : decode cX11_worthOf 8 = .ok (.iaload, 1) := by decide +kernel
theorem dX11_worthOf_9 : decode cX11_worthOf 9 = .ok (.i2l, 1) := by decide +kernel
theorem dX11_worthOf_10 : decode cX11_worthOf 10 = .ok (.lmul, 1) := by decide +kernel
theorem dX11_worthOf_11 : decode cX11_worthOf 11 = .ok (.aload_n 0, 1) := by decide +kernel
theorem dX11_worthOf_12 : decode cX11_worthOf 12 = .ok (.iconst 0, 1) := by decide +kernel
theorem dX11_worthOf_13 : decode cX11_worthOf 13 = .ok (.iload_n 2, 1) := by decide +kernel
theorem dX11_worthOf_14 : decode cX11_worthOf 14 = .ok (.aload_n 0, 1) := by decide +kernel
theorem dX11_worthOf_15 : decode cX11_worthOf 15 = .ok (.getfield 20, 3) := by decide +kernel
theorem dX11_worthOf_18 : decode cX11_worthOf 18 = .ok (.iload_n 1, 1) := by decide +kernel
theorem dX11_worthOf_19 : decode cX11_worthOf 19 = .ok (.iaload, 1) := by decide +kernel
theorem dX11_worthOf_20 : decode cX11_worthOf 20 = .ok (.invokevirtual 182, 3) := by decide +kernel
theorem dX11_worthOf_23 : decode cX11_worthOf 23 = .ok (.i2l, 1) := by decide +kernel
theorem dX11_worthOf_24 : decode cX11_worthOf 24 = .ok (.lmul, 1) := by decide +kernel
theorem dX11_worthOf_25 : decode cX11_worthOf 25 = .ok (.aload_n 0, 1) := by decide +kernel
theorem dX11_worthOf_26 : decode cX11_worthOf 26 = .ok (.iconst 0, 1) := by decide +kernel
theorem dX11_worthOf_27 : decode cX11_worthOf 27 = .ok (.iload_n 2, 1) := by decide +kernel
theorem dX11_worthOf_28 : decode cX11_worthOf 28 = .ok (.invokevirtual 193, 3) := by decide +kernel
theorem dX11_worthOf_31 : decode cX11_worthOf 31 = .ok (.i2l, 1) := by decide +kernel
theorem dX11_worthOf_32 : decode cX11_worthOf 32 = .ok (.ldiv, 1) := by decide +kernel
theorem dX11_worthOf_33 : decode cX11_worthOf 33 = .ok (.l2i, 1) := by decide +kernel
theorem dX11_worthOf_34 : decode cX11_worthOf 34 = .ok (.ireturn, 1) := by decide +kernel
theorem dX11_worth_0 : decode cX11_worth 0 = .ok (.aload_n 0, 1) := by decide +kernel
theorem dX11_worth_1 : decode cX11_worth 1 = .ok (.iload_n 1, 1) := by decide +kernel
theorem dX11_worth_2 : decode cX11_worth 2 = .ok (.invokevirtual 200, 3) := by decide +kernel
theorem dX11_worth_5 : decode cX11_worth 5 = .ok (.ifCond .eq 11, 3) := by decide +kernel
theorem dX11_worth_8 : decode cX11_worth 8 = .ok (.aload_n 0, 1) := by decide +kernel
theorem dX11_worth_9 : decode cX11_worth 9 = .ok (.iload_n 2, 1) := by decide +kernel
theorem dX11_worth_10 : decode cX11_worth 10 = .ok (.invokevirtual 186, 3) := by decide +kernel
theorem dX11_worth_13 : decode cX11_worth 13 = .ok (.ifCond .ne 6, 3) := by decide +kernel
theorem dX11_worth_16 : decode cX11_worth 16 = .ok (.ldc 192, 2) := by decide +kernel
theorem dX11_worth_18 : decode cX11_worth 18 = .ok (.ireturn, 1) := by decide +kernel
theorem dX11_worth_19 : decode cX11_worth 19 = .ok (.aload_n 0, 1) := by decide +kernel
theorem dX11_worth_20 : decode cX11_worth 20 = .ok (.getfield 17, 3) := by decide +kernel
theorem dX11_worth_23 : decode cX11_worth 23 = .ok (.iload_n 1, 1) := by decide +kernel
theorem dX11_worth_24 : decode cX11_worth 24 = .ok (.iaload, 1) := by decide +kernel
theorem dX11_worth_25 : decode cX11_worth 25 = .ok (.iload_n 2, 1) := by decide +kernel
theorem dX11_worth_26 : decode cX11_worth 26 = .ok (.if_icmp .ne 8, 3) := by decide +kernel
theorem dX11_worth_29 : decode cX11_worth 29 = .ok (.ldc 205, 2) := by decide +kernel
theorem dX11_worth_31 : decode cX11_worth 31 = .ok (.goto 9, 3) := by decide +kernel
theorem dX11_worth_34 : decode cX11_worth 34 = .ok (.aload_n 0, 1) := by decide +kernel
theorem dX11_worth_35 : decode cX11_worth 35 = .ok (.iload_n 1, 1) := by decide +kernel
theorem dX11_worth_36 : decode cX11_worth 36 = .ok (.iload_n 2, 1) := by decide +kernel
theorem dX11_worth_37 : decode cX11_worth 37 = .ok (.invokevirtual 206, 3) := by decide +kernel
theorem dX11_worth_40 : decode cX11_worth 40 = .ok (.ireturn, 1) := by decide +kernel
theorem dX11_isFresh_0 : decode cX11_isFresh 0 = .ok (.aload_n 0, 1) := by decide +kernel
theorem dX11_isFresh_1 : decode cX11_isFresh 1 = .ok (.getfield 7, 3) := by decide +kernel
theorem dX11_isFresh_4 : decode cX11_isFresh 4 = .ok (.bipush 37, 2) := by decide +kernel
theorem dX11_isFresh_6 : decode cX11_isFresh 6 = .ok (.iload_n 1, 1) := by decide +kernel
theorem dX11_isFresh_7 : decode cX11_isFresh 7 = .ok (.iadd, 1) := by decide +kernel
theorem dX11_isFresh_8 : decode cX11_isFresh 8 = .ok (.iaload, 1) := by decide +kernel
theorem dX11_isFresh_9 : decode cX11_isFresh 9 = .ok (.iconst (-1), 1) := by decide +kernel
theorem dX11_isFresh_10 : decode cX11_isFresh 10 = .ok (.if_icmp .ne 7, 3) := by decide +kernel
theorem dX11_isFresh_13 : decode cX11_isFresh 13 = .ok (.iconst 1, 1) := by decide +kernel
theorem dX11_isFresh_14 : decode cX11_isFresh 14 = .ok (.goto 4, 3) := by decide +kernel
theorem dX11_isFresh_17 : decode cX11_isFresh 17 = .ok (.iconst 0, 1) := by decide +kernel
theorem dX11_isFresh_18 : decode cX11_isFresh 18 = .ok (.ireturn, 1) := by decide +kernel
theorem dX11_onPillow_0 : decode cX11_onPillow 0 = .ok (.iconst (-1), 1) := by decide +kernel
theorem dX11_onPillow_1 : decode cX11_onPillow 1 = .ok (.istore_n 2, 1) := by decide +kernel
theorem dX11_onPillow_2 : decode cX11_onPillow 2 = .ok (.iconst 0, 1) := by decide +kernel
theorem dX11_onPillow_3 : decode cX11_onPillow 3 = .ok (.istore_n 3, 1) := by decide +kernel
theorem dX11_onPillow_4 : decode cX11_onPillow 4 = .ok (.iload_n 3, 1) := by decide +kernel
theorem dX11_onPillow_5 : decode cX11_onPillow 5 = .ok (.aload_n 0, 1) := by decide +kernel
theorem dX11_onPillow_6 : decode cX11_onPillow 6 = .ok (.getfield 83, 3) := by decide +kernel
theorem dX11_onPillow_9 : decode cX11_onPillow 9 = .ok (.if_icmp .ge 28, 3) := by decide +kernel
theorem dX11_onPillow_12 : decode cX11_onPillow 12 = .ok (.aload_n 0, 1) := by decide +kernel
theorem dX11_onPillow_13 : decode cX11_onPillow 13 = .ok (.getfield 7, 3) := by decide +kernel
theorem dX11_onPillow_16 : decode cX11_onPillow 16 = .ok (.bipush 30, 2) := by decide +kernel
theorem dX11_onPillow_18 : decode cX11_onPillow 18 = .ok (.iload_n 3, 1) := by decide +kernel
theorem dX11_onPillow_19 : decode cX11_onPillow 19 = .ok (.iadd, 1) := by decide +kernel
theorem dX11_onPillow_20 : decode cX11_onPillow 20 = .ok (.iaload, 1) := by decide +kernel
theorem dX11_onPillow_21 : decode cX11_onPillow 21 = .ok (.iload_n 1, 1) := by decide +kernel
theorem dX11_onPillow_22 : decode cX11_onPillow 22 = .ok (.if_icmp .ne 7, 3) := by decide +kernel
theorem dX11_onPillow_25 : decode cX11_onPillow 25 = .ok (.iload_n 3, 1) := by decide +kernel
theorem dX11_onPillow_26 : decode cX11_onPillow 26 = .ok (.goto 4, 3) := by decide +kernel
theorem dX11_onPillow_29 : decode cX11_onPillow 29 = .ok (.iload_n 2, 1) := by decide +kernel
theorem dX11_onPillow_30 : decode cX11_onPillow 30 = .ok (.istore_n 2, 1) := by decide +kernel
theorem dX11_onPillow_31 : decode cX11_onPillow 31 = .ok (.iinc 3 1, 3) := by decide +kernel
theorem dX11_onPillow_34 : decode cX11_onPillow 34 = .ok (.goto (-30), 3) := by decide +kernel
theorem dX11_onPillow_37 : decode cX11_onPillow 37 = .ok (.iload_n 2, 1) := by decide +kernel
theorem dX11_onPillow_38 : decode cX11_onPillow 38 = .ok (.ireturn, 1) := by decide +kernel
theorem dX11_lay_0 : decode cX11_lay 0 = .ok (.aload_n 0, 1) := by decide +kernel
theorem dX11_lay_1 : decode cX11_lay 1 = .ok (.iload_n 1, 1) := by decide +kernel
theorem dX11_lay_2 : decode cX11_lay 2 = .ok (.invokevirtual 200, 3) := by decide +kernel
theorem dX11_lay_5 : decode cX11_lay 5 = .ok (.ifCond .eq 11, 3) := by decide +kernel
theorem dX11_lay_8 : decode cX11_lay 8 = .ok (.aload_n 0, 1) := by decide +kernel
theorem dX11_lay_9 : decode cX11_lay 9 = .ok (.iload_n 2, 1) := by decide +kernel
theorem dX11_lay_10 : decode cX11_lay 10 = .ok (.invokevirtual 186, 3) := by decide +kernel
theorem dX11_lay_13 : decode cX11_lay 13 = .ok (.ifCond .ne 6, 3) := by decide +kernel
theorem dX11_lay_16 : decode cX11_lay 16 = .ok (.ldc 192, 2) := by decide +kernel
theorem dX11_lay_18 : decode cX11_lay 18 = .ok (.ireturn, 1) := by decide +kernel
theorem dX11_lay_19 : decode cX11_lay 19 = .ok (.aload_n 0, 1) := by decide +kernel
theorem dX11_lay_20 : decode cX11_lay 20 = .ok (.iload_n 1, 1) := by decide +kernel
theorem dX11_lay_21 : decode cX11_lay 21 = .ok (.invokevirtual 209, 3) := by decide +kernel
theorem dX11_lay_24 : decode cX11_lay 24 = .ok (.ifCond .eq 35, 3) := by decide +kernel
theorem dX11_lay_27 : decode cX11_lay 27 = .ok (.aload_n 0, 1) := by decide +kernel
theorem dX11_lay_28 : decode cX11_lay 28 = .ok (.getfield 7, 3) := by decide +kernel
theorem dX11_lay_31 : decode cX11_lay 31 = .ok (.bipush 30, 2) := by decide +kernel
theorem dX11_lay_33 : decode cX11_lay 33 = .ok (.iload_n 1, 1) := by decide +kernel
theorem dX11_lay_34 : decode cX11_lay 34 = .ok (.iadd, 1) := by decide +kernel
theorem dX11_lay_35 : decode cX11_lay 35 = .ok (.iaload, 1) := by decide +kernel
theorem dX11_lay_36 : decode cX11_lay 36 = .ok (.iconst (-1), 1) := by decide +kernel
theorem dX11_lay_37 : decode cX11_lay 37 = .ok (.if_icmp .ne 22, 3) := by decide +kernel
theorem dX11_lay_40 : decode cX11_lay 40 = .ok (.aload_n 0, 1) := by decide +kernel
theorem dX11_lay_41 : decode cX11_lay 41 = .ok (.getfield 17, 3) := by decide +kernel
theorem dX11_lay_44 : decode cX11_lay 44 = .ok (.iload_n 1, 1) := by decide +kernel
theorem dX11_lay_45 : decode cX11_lay 45 = .ok (.iaload, 1) := by decide +kernel
theorem dX11_lay_46 : decode cX11_lay 46 = .ok (.iload_n 2, 1) := by decide +kernel
theorem dX11_lay_47 : decode cX11_lay 47 = .ok (.if_icmp .eq 12, 3) := by decide +kernel
theorem dX11_lay_50 : decode cX11_lay 50 = .ok (.aload_n 0, 1) := by decide +kernel
theorem dX11_lay_51 : decode cX11_lay 51 = .ok (.iload_n 2, 1) := by decide +kernel
theorem dX11_lay_52 : decode cX11_lay 52 = .ok (.invokevirtual 212, 3) := by decide +kernel
theorem dX11_lay_55 : decode cX11_lay 55 = .ok (.iconst (-1), 1) := by decide +kernel
theorem dX11_lay_56 : decode cX11_lay 56 = .ok (.if_icmp .eq 6, 3) := by decide +kernel
theorem dX11_lay_59 : decode cX11_lay 59 = .ok (.ldc 205, 2) := by decide +kernel
theorem dX11_lay_61 : decode cX11_lay 61 = .ok (.ireturn, 1) := by decide +kernel
theorem dX11_lay_62 : decode cX11_lay 62 = .ok (.aload_n 0, 1) := by decide +kernel
theorem dX11_lay_63 : decode cX11_lay 63 = .ok (.getfield 7, 3) := by decide +kernel
theorem dX11_lay_66 : decode cX11_lay 66 = .ok (.bipush 30, 2) := by decide +kernel
theorem dX11_lay_68 : decode cX11_lay 68 = .ok (.iload_n 1, 1) := by decide +kernel
theorem dX11_lay_69 : decode cX11_lay 69 = .ok (.iadd, 1) := by decide +kernel
theorem dX11_lay_70 : decode cX11_lay 70 = .ok (.iload_n 2, 1) := by decide +kernel
theorem dX11_lay_71 : decode cX11_lay 71 = .ok (.iastore, 1) := by decide +kernel
theorem dX11_lay_72 : decode cX11_lay 72 = .ok (.aload_n 0, 1) := by decide +kernel
theorem dX11_lay_73 : decode cX11_lay 73 = .ok (.bipush 9, 2) := by decide +kernel
theorem dX11_lay_75 : decode cX11_lay 75 = .ok (.invokevirtual 179, 3) := by decide +kernel
theorem dX11_lay_78 : decode cX11_lay 78 = .ok (.ireturn, 1) := by decide +kernel
theorem dX11_takeOff_0 : decode cX11_takeOff 0 = .ok (.aload_n 0, 1) := by decide +kernel
theorem dX11_takeOff_1 : decode cX11_takeOff 1 = .ok (.iload_n 1, 1) := by decide +kernel
theorem dX11_takeOff_2 : decode cX11_takeOff 2 = .ok (.invokevirtual 200, 3) := by decide +kernel
theorem dX11_takeOff_5 : decode cX11_takeOff 5 = .ok (.ifCond .ne 6, 3) := by decide +kernel
theorem dX11_takeOff_8 : decode cX11_takeOff 8 = .ok (.ldc 192, 2) := by decide +kernel
theorem dX11_takeOff_10 : decode cX11_takeOff 10 = .ok (.ireturn, 1) := by decide +kernel
theorem dX11_takeOff_11 : decode cX11_takeOff 11 = .ok (.aload_n 0, 1) := by decide +kernel
theorem dX11_takeOff_12 : decode cX11_takeOff 12 = .ok (.getfield 7, 3) := by decide +kernel
theorem dX11_takeOff_15 : decode cX11_takeOff 15 = .ok (.bipush 30, 2) := by decide +kernel
theorem dX11_takeOff_17 : decode cX11_takeOff 17 = .ok (.iload_n 1, 1) := by decide +kernel
theorem dX11_takeOff_18 : decode cX11_takeOff 18 = .ok (.iadd, 1) := by decide +kernel
theorem dX11_takeOff_19 : decode cX11_takeOff 19 = .ok (.iaload, 1) := by decide +kernel
theorem dX11_takeOff_20 : decode cX11_takeOff 20 = .ok (.istore_n 2, 1) := by decide +kernel
theorem dX11_takeOff_21 : decode cX11_takeOff 21 = .ok (.aload_n 0, 1) := by decide +kernel
theorem dX11_takeOff_22 : decode cX11_takeOff 22 = .ok (.getfield 7, 3) := by decide +kernel
theorem dX11_takeOff_25 : decode cX11_takeOff 25 = .ok (.bipush 30, 2) := by decide +kernel
theorem dX11_takeOff_27 : decode cX11_takeOff 27 = .ok (.iload_n 1, 1) := by decide +kernel
theorem dX11_takeOff_28 : decode cX11_takeOff 28 = .ok (.iadd, 1) := by decide +kernel
theorem dX11_takeOff_29 : decode cX11_takeOff 29 = .ok (.iconst (-1), 1) := by decide +kernel
theorem dX11_takeOff_30 : decode cX11_takeOff 30 = .ok (.iastore, 1) := by decide +kernel
theorem dX11_takeOff_31 : decode cX11_takeOff 31 = .ok (.iload_n 2, 1) := by decide +kernel
theorem dX11_takeOff_32 : decode cX11_takeOff 32 = .ok (.iconst (-1), 1) := by decide +kernel
theorem dX11_takeOff_33 : decode cX11_takeOff 33 = .ok (.if_icmp .ne 8, 3) := by decide +kernel
theorem dX11_takeOff_36 : decode cX11_takeOff 36 = .ok (.ldc 205, 2) := by decide +kernel
theorem dX11_takeOff_38 : decode cX11_takeOff 38 = .ok (.goto 4, 3) := by decide +kernel
theorem dX11_takeOff_41 : decode cX11_takeOff 41 = .ok (.iload_n 2, 1) := by decide +kernel
theorem dX11_takeOff_42 : decode cX11_takeOff 42 = .ok (.ireturn, 1) := by decide +kernel
theorem dX11_isAwake_0 : decode cX11_isAwake 0 = .ok (.aload_n 0, 1) := by decide +kernel
theorem dX11_isAwake_1 : decode cX11_isAwake 1 = .ok (.getfield 7, 3) := by decide +kernel
theorem dX11_isAwake_4 : decode cX11_isAwake 4 = .ok (.bipush 51, 2) := by decide +kernel
theorem dX11_isAwake_6 : decode cX11_isAwake 6 = .ok (.iaload, 1) := by decide +kernel
theorem dX11_isAwake_7 : decode cX11_isAwake 7 = .ok (.iload_n 1, 1) := by decide +kernel
theorem dX11_isAwake_8 : decode cX11_isAwake 8 = .ok (.invokestatic 215, 3) := by decide +kernel
theorem dX11_isAwake_11 : decode cX11_isAwake 11 = .ok (.ireturn, 1) := by decide +kernel
theorem dX11_wake_0 : decode cX11_wake 0 = .ok (.aload_n 0, 1) := by decide +kernel
theorem dX11_wake_1 : decode cX11_wake 1 = .ok (.iload_n 1, 1) := by decide +kernel
theorem dX11_wake_2 : decode cX11_wake 2 = .ok (.invokevirtual 186, 3) := by decide +kernel
theorem dX11_wake_5 : decode cX11_wake 5 = .ok (.ifCond .ne 6, 3) := by decide +kernel
theorem dX11_wake_8 : decode cX11_wake 8 = .ok (.ldc 192, 2) := by decide +kernel
theorem dX11_wake_10 : decode cX11_wake 10 = .ok (.ireturn, 1) := by decide +kernel
theorem dX11_wake_11 : decode cX11_wake 11 = .ok (.aload_n 0, 1) := by decide +kernel
theorem dX11_wake_12 : decode cX11_wake 12 = .ok (.iload_n 1, 1) := by decide +kernel
theorem dX11_wake_13 : decode cX11_wake 13 = .ok (.invokevirtual 218, 3) := by decide +kernel
theorem dX11_wake_16 : decode cX11_wake 16 = .ok (.ifCond .eq 7, 3) := by decide +kernel
theorem dX11_wake_19 : decode cX11_wake 19 = .ok (.iconst 1, 1) := by decide +kernel
theorem dX11_wake_20 : decode cX11_wake 20 = .ok (.goto 4, 3) := by decide +kernel
theorem dX11_wake_23 : decode cX11_wake 23 = .ok (.iconst 0, 1) := by decide +kernel
theorem dX11_wake_24 : decode cX11_wake 24 = .ok (.istore_n 3, 1) := by decide +kernel
theorem dX11_wake_25 : decode cX11_wake 25 = .ok (.aload_n 0, 1) := by decide +kernel
theorem dX11_wake_26 : decode cX11_wake 26 = .ok (.getfield 7, 3) := by decide +kernel
theorem dX11_wake_29 : decode cX11_wake 29 = .ok (.bipush 51, 2) := by decide +kernel
theorem dX11_wake_31 : decode cX11_wake 31 = .ok (.iload_n 2, 1) := by decide +kernel
theorem dX11_wake_32 : decode cX11_wake 32 = .ok (.ifCond .eq 17, 3) := by decide +kernel
theorem dX11_wake_35 : decode cX11_wake 35 = .ok (.aload_n 0, 1) := by decide +kernel
theorem dX11_wake_36 : decode cX11_wake 36 = .ok (.getfield 7, 3) := by decide +kernel
theorem dX11_wake_39 : decode cX11_wake 39 = .ok (.bipush 51, 2) := by decide +kernel
theorem dX11_wake_41 : decode cX11_wake 41 = .ok (.iaload, 1) := by decide +kernel
theorem dX11_wake_42 : decode cX11_wake 42 = .ok (.iconst 1, 1) := by decide +kernel
theorem dX11_wake_43 : decode cX11_wake 43 = .ok (.iload_n 1, 1) := by decide +kernel
theorem dX11_wake_44 : decode cX11_wake 44 = .ok (.ishl, 1) := by decide +kernel
theorem dX11_wake_45 : decode cX11_wake 45 = .ok (.ior, 1) := by decide +kernel
theorem dX11_wake_46 : decode cX11_wake 46 = .ok (.goto 16, 3) := by decide +kernel
theorem dX11_wake_49 : decode cX11_wake 49 = .ok (.aload_n 0, 1) := by decide +kernel
theorem dX11_wake_50 : decode cX11_wake 50 = .ok (.getfield 7, 3) := by decide +kernel
theorem dX11_wake_53 : decode cX11_wake 53 = .ok (.bipush 51, 2) := by decide +kernel
theorem dX11_wake_55 : decode cX11_wake 55 = .ok (.iaload, 1) := by decide +kernel
theorem dX11_wake_56 : decode cX11_wake 56 = .ok (.iconst 1, 1) := by decide +kernel
theorem dX11_wake_57 : decode cX11_wake 57 = .ok (.iload_n 1, 1) := by decide +kernel
theorem dX11_wake_58 : decode cX11_wake 58 = .ok (.ishl, 1) := by decide +kernel
theorem dX11_wake_59 : decode cX11_wake 59 = .ok (.iconst (-1), 1) := by decide +kernel
theorem dX11_wake_60 : decode cX11_wake 60 = .ok (.ixor, 1) := by decide +kernel
theorem dX11_wake_61 : decode cX11_wake 61 = .ok (.iand, 1) := by decide +kernel
theorem dX11_wake_62 : decode cX11_wake 62 = .ok (.iastore, 1) := by decide +kernel
theorem dX11_wake_63 : decode cX11_wake 63 = .ok (.iload_n 3, 1) := by decide +kernel
theorem dX11_wake_64 : decode cX11_wake 64 = .ok (.ireturn, 1) := by decide +kernel
theorem dX11_draw_0 : decode cX11_draw 0 = .ok (.aload_n 0, 1) := by decide +kernel
theorem dX11_draw_1 : decode cX11_draw 1 = .ok (.getfield 7, 3) := by decide +kernel
theorem dX11_draw_4 : decode cX11_draw 4 = .ok (.bipush 54, 2) := by decide +kernel
theorem dX11_draw_6 : decode cX11_draw 6 = .ok (.aload_n 0, 1) := by decide +kernel
theorem dX11_draw_7 : decode cX11_draw 7 = .ok (.getfield 7, 3) := by decide +kernel
theorem dX11_draw_10 : decode cX11_draw 10 = .ok (.bipush 54, 2) := by decide +kernel
theorem dX11_draw_12 : decode cX11_draw 12 = .ok (.iaload, 1) := by decide +kernel
theorem dX11_draw_13 : decode cX11_draw 13 = .ok (.i2l, 1) := by decide +kernel
theorem dX11_draw_14 : decode cX11_draw 14 = .ok (.ldc2_w 221, 3) := by decide +kernel
theorem dX11_draw_17 : decode cX11_draw 17 = .ok (.lmul, 1) := by decide +kernel
theorem dX11_draw_18 : decode cX11_draw 18 = .ok (.ldc2_w 223, 3) := by decide +kernel
theorem dX11_draw_21 : decode cX11_draw 21 = .ok (.ladd, 1) := by decide +kernel
theorem dX11_draw_22 : decode cX11_draw 22 = .ok (.ldc2_w 225, 3) := by decide +kernel
theorem dX11_draw_25 : decode cX11_draw 25 = .ok (.lrem, 1) := by decide +kernel
theorem dX11_draw_26 : decode cX11_draw 26 = .ok (.l2i, 1) := by decide +kernel
theorem dX11_draw_27 : decode cX11_draw 27 = .ok (.iastore, 1) := by decide +kernel
theorem dX11_draw_28 : decode cX11_draw 28 = .ok (.aload_n 0, 1) := by decide +kernel
theorem dX11_draw_29 : decode cX11_draw 29 = .ok (.getfield 7, 3) := by decide +kernel
theorem dX11_draw_32 : decode cX11_draw 32 = .ok (.bipush 54, 2) := by decide +kernel
theorem dX11_draw_34 : decode cX11_draw 34 = .ok (.iaload, 1) := by decide +kernel
theorem dX11_draw_35 : decode cX11_draw 35 = .ok (.ldc 227, 2) := by decide +kernel
theorem dX11_draw_37 : decode cX11_draw 37 = .ok (.idiv, 1) := by decide +kernel
theorem dX11_draw_38 : decode cX11_draw 38 = .ok (.iload_n 1, 1) := by decide +kernel
theorem dX11_draw_39 : decode cX11_draw 39 = .ok (.irem, 1) := by decide +kernel
theorem dX11_draw_40 : decode cX11_draw 40 = .ok (.ireturn, 1) := by decide +kernel
theorem dX11_dreamsNow_0 : decode cX11_dreamsNow 0 = .ok (.aload_n 0, 1) := by decide +kernel
theorem dX11_dreamsNow_1 : decode cX11_dreamsNow 1 = .ok (.aload_n 0, 1) := by decide +kernel
theorem dX11_dreamsNow_2 : decode cX11_dreamsNow 2 = .ok (.iconst 0, 1) := by decide +kernel
theorem dX11_dreamsNow_3 : decode cX11_dreamsNow 3 = .ok (.iload_n 1, 1) := by decide +kernel
theorem dX11_dreamsNow_4 : decode cX11_dreamsNow 4 = .ok (.invokevirtual 193, 3) := by decide +kernel
theorem dX11_dreamsNow_7 : decode cX11_dreamsNow 7 = .ok (.invokevirtual 228, 3) := by decide +kernel
theorem dX11_dreamsNow_10 : decode cX11_dreamsNow 10 = .ok (.istore_n 2, 1) := by decide +kernel
theorem dX11_dreamsNow_11 : decode cX11_dreamsNow 11 = .ok (.iconst 0, 1) := by decide +kernel
theorem dX11_dreamsNow_12 : decode cX11_dreamsNow 12 = .ok (.istore_n 3, 1) := by decide +kernel
theorem dX11_dreamsNow_13 : decode cX11_dreamsNow 13 = .ok (.iload_n 2, 1) := by decide +kernel
theorem dX11_dreamsNow_14 : decode cX11_dreamsNow 14 = .ok (.aload_n 0, 1) := by decide +kernel
theorem dX11_dreamsNow_15 : decode cX11_dreamsNow 15 = .ok (.iconst 0, 1) := by decide +kernel
theorem dX11_dreamsNow_16 : decode cX11_dreamsNow 16 = .ok (.iload_n 1, 1) := by decide +kernel
theorem dX11_dreamsNow_17 : decode cX11_dreamsNow 17 = .ok (.iload_n 3, 1) := by decide +kernel
theorem dX11_dreamsNow_18 : decode cX11_dreamsNow 18 = .ok (.invokevirtual 182, 3) := by decide +kernel
theorem dX11_dreamsNow_21 : decode cX11_dreamsNow 21 = .ok (.if_icmp .lt 19, 3) := by decide +kernel
theorem dX11_dreamsNow_24 : decode cX11_dreamsNow 24 = .ok (.iload_n 2, 1) := by decide +kernel
theorem dX11_dreamsNow_25 : decode cX11_dreamsNow 25 = .ok (.aload_n 0, 1) := by decide +kernel
theorem dX11_dreamsNow_26 : decode cX11_dreamsNow 26 = .ok (.iconst 0, 1) := by decide +kernel
theorem dX11_dreamsNow_27 : decode cX11_dreamsNow 27 = .ok (.iload_n 1, 1) := by decide +kernel
theorem dX11_dreamsNow_28 : decode cX11_dreamsNow 28 = .ok (.iload_n 3, 1) := by decide +kernel
theorem dX11_dreamsNow_29 : decode cX11_dreamsNow 29 = .ok (.invokevirtual 182, 3) := by decide +kernel
theorem dX11_dreamsNow_32 : decode cX11_dreamsNow 32 = .ok (.isub, 1) := by decide +kernel
theorem dX11_dreamsNow_33 : decode cX11_dreamsNow 33 = .ok (.istore_n 2, 1) := by decide +kernel
theorem dX11_dreamsNow_34 : decode cX11_dreamsNow 34 = .ok (.iinc 3 1, 3) := by decide +kernel
theorem dX11_dreamsNow_37 : decode cX11_dreamsNow 37 = .ok (.goto (-24), 3) := by decide +kernel
theorem dX11_dreamsNow_40 : decode cX11_dreamsNow 40 = .ok (.aload_n 0, 1) := by decide +kernel
theorem dX11_dreamsNow_41 : decode cX11_dreamsNow 41 = .ok (.iload_n 1, 1) := by decide +kernel
theorem dX11_dreamsNow_42 : decode cX11_dreamsNow 42 = .ok (.invokevirtual 212, 3) := by decide +kernel
theorem dX11_dreamsNow_45 : decode cX11_dreamsNow 45 = .ok (.istore 4, 2) := by decide +kernel
theorem dX11_dreamsNow_47 : decode cX11_dreamsNow 47 = .ok (.iload 4, 2) := by decide +kernel
theorem dX11_dreamsNow_49 : decode cX11_dreamsNow 49 = .ok (.iconst (-1), 1) := by decide +kernel
theorem dX11_dreamsNow_50 : decode cX11_dreamsNow 50 = .ok (.if_icmp .eq 25, 3) := by decide +kernel
theorem dX11_dreamsNow_53 : decode cX11_dreamsNow 53 = .ok (.aload_n 0, 1) := by decide +kernel
theorem dX11_dreamsNow_54 : decode cX11_dreamsNow 54 = .ok (.getfield 7, 3) := by decide +kernel
theorem dX11_dreamsNow_57 : decode cX11_dreamsNow 57 = .ok (.bipush 37, 2) := by decide +kernel
theorem dX11_dreamsNow_59 : decode cX11_dreamsNow 59 = .ok (.iload 4, 2) := by decide +kernel
theorem dX11_dreamsNow_61 : decode cX11_dreamsNow 61 = .ok (.iadd, 1) := by decide +kernel
theorem dX11_dreamsNow_62 : decode cX11_dreamsNow 62 = .ok (.iload_n 3, 1) := by decide +kernel
theorem dX11_dreamsNow_63 : decode cX11_dreamsNow 63 = .ok (.iastore, 1) := by decide +kernel
theorem dX11_dreamsNow_64 : decode cX11_dreamsNow 64 = .ok (.aload_n 0, 1) := by decide +kernel
theorem dX11_dreamsNow_65 : decode cX11_dreamsNow 65 = .ok (.getfield 7, 3) := by decide +kernel
theorem dX11_dreamsNow_68 : decode cX11_dreamsNow 68 = .ok (.bipush 30, 2) := by decide +kernel
theorem dX11_dreamsNow_70 : decode cX11_dreamsNow 70 = .ok (.iload 4, 2) := by decide +kernel
theorem dX11_dreamsNow_72 : decode cX11_dreamsNow 72 = .ok (.iadd, 1) := by decide +kernel
theorem dX11_dreamsNow_73 : decode cX11_dreamsNow 73 = .ok (.iconst (-1), 1) := by decide +kernel
theorem dX11_dreamsNow_74 : decode cX11_dreamsNow 74 = .ok (.iastore, 1) := by decide +kernel
theorem dX11_dreamsNow_75 : decode cX11_dreamsNow 75 = .ok (.return_, 1) := by decide +kernel
theorem dX11_night_0 : decode cX11_night 0 = .ok (.iload_n 1, 1) := by decide +kernel
theorem dX11_night_1 : decode cX11_night 1 = .ok (.i2l, 1) := by decide +kernel
theorem dX11_night_2 : decode cX11_night 2 = .ok (.lconst 1, 1) := by decide +kernel
theorem dX11_night_3 : decode cX11_night 3 = .ok (.ldc2_w 231, 3) := by decide +kernel
theorem dX11_night_6 : decode cX11_night 6 = .ok (.invokestatic 76, 3) := by decide +kernel
theorem dX11_night_9 : decode cX11_night 9 = .ok (.ifCond .ne 6, 3) := by decide +kernel
theorem dX11_night_12 : decode cX11_night 12 = .ok (.ldc 88, 2) := by decide +kernel
theorem dX11_night_14 : decode cX11_night 14 = .ok (.ireturn, 1) := by decide +kernel
theorem dX11_night_15 : decode cX11_night 15 = .ok (.aload_n 0, 1) := by decide +kernel
theorem dX11_night_16 : decode cX11_night 16 = .ok (.getfield 80, 3) := by decide +kernel
theorem dX11_night_19 : decode cX11_night 19 = .ok (.ifCond .ne 6, 3) := by decide +kernel
theorem dX11_night_22 : decode cX11_night 22 = .ok (.ldc 205, 2) := by decide +kernel
theorem dX11_night_24 : decode cX11_night 24 = .ok (.ireturn, 1) := by decide +kernel
theorem dX11_night_25 : decode cX11_night 25 = .ok (.aload_n 0, 1) := by decide +kernel
theorem dX11_night_26 : decode cX11_night 26 = .ok (.getfield 7, 3) := by decide +kernel
theorem dX11_night_29 : decode cX11_night 29 = .ok (.bipush 52, 2) := by decide +kernel
theorem dX11_night_31 : decode cX11_night 31 = .ok (.iaload, 1) := by decide +kernel
theorem dX11_night_32 : decode cX11_night 32 = .ok (.ldc 233, 2) := by decide +kernel
theorem dX11_night_34 : decode cX11_night 34 = .ok (.if_icmp .le 6, 3) := by decide +kernel
theorem dX11_night_37 : decode cX11_night 37 = .ok (.ldc 92, 2) := by decide +kernel
theorem dX11_night_39 : decode cX11_night 39 = .ok (.ireturn, 1) := by decide +kernel
theorem dX11_night_40 : decode cX11_night 40 = .ok (.iconst 0, 1) := by decide +kernel
theorem dX11_night_41 : decode cX11_night 41 = .ok (.istore_n 2, 1) := by decide +kernel
theorem dX11_night_42 : decode cX11_night 42 = .ok (.iload_n 2, 1) := by decide +kernel
theorem dX11_night_43 : decode cX11_night 43 = .ok (.iload_n 1, 1) := by decide +kernel
theorem dX11_night_44 : decode cX11_night 44 = .ok (.if_icmp .ge 49, 3) := by decide +kernel
theorem dX11_night_47 : decode cX11_night 47 = .ok (.iconst 0, 1) := by decide +kernel
theorem dX11_night_48 : decode cX11_night 48 = .ok (.istore_n 3, 1) := by decide +kernel
theorem dX11_night_49 : decode cX11_night 49 = .ok (.iload_n 3, 1) := by decide +kernel
theorem dX11_night_50 : decode cX11_night 50 = .ok (.aload_n 0, 1) := by decide +kernel
theorem dX11_night_51 : decode cX11_night 51 = .ok (.getfield 73, 3) := by decide +kernel
theorem dX11_night_54 : decode cX11_night 54 = .ok (.if_icmp .ge 22, 3) := by decide +kernel
theorem dX11_night_57 : decode cX11_night 57 = .ok (.aload_n 0, 1) := by decide +kernel
theorem dX11_night_58 : decode cX11_night 58 = .ok (.iload_n 3, 1) := by decide +kernel
theorem dX11_night_59 : decode cX11_night 59 = .ok (.invokevirtual 218, 3) := by decide +kernel
theorem dX11_night_62 : decode cX11_night 62 = .ok (.ifCond .ne 8, 3) := by decide +kernel
theorem dX11_night_65 : decode cX11_night 65 = .ok (.aload_n 0, 1) := by decide +kernel
theorem dX11_night_66 : decode cX11_night 66 = .ok (.iload_n 3, 1) := by decide +kernel
theorem dX11_night_67 : decode cX11_night 67 = .ok (.invokevirtual 234, 3) := by decide +kernel
theorem dX11_night_70 : decode cX11_night 70 = .ok (.iinc 3 1, 3) := by decide +kernel
theorem dX11_night_73 : decode cX11_night 73 = .ok (.goto (-24), 3) := by decide +kernel
theorem dX11_night_76 : decode cX11_night 76 = .ok (.aload_n 0, 1) := by decide +kernel
theorem dX11_night_77 : decode cX11_night 77 = .ok (.getfield 7, 3) := by decide +kernel
theorem dX11_night_80 : decode cX11_night 80 = .ok (.bipush 52, 2) := by decide +kernel
theorem dX11_night_82 : decode cX11_night 82 = .ok (.dup2, 1) := by decide +kernel
theorem dX11_night_83 : decode cX11_night 83 = .ok (.iaload, 1) := by decide +kernel
theorem dX11_night_84 : decode cX11_night 84 = .ok (.iconst 1, 1) := by decide +kernel
theorem dX11_night_85 : decode cX11_night 85 = .ok (.iadd, 1) := by decide +kernel
theorem dX11_night_86 : decode cX11_night 86 = .ok (.iastore, 1) := by decide +kernel
theorem dX11_night_87 : decode cX11_night 87 = .ok (.iinc 2 1, 3) := by decide +kernel
theorem dX11_night_90 : decode cX11_night 90 = .ok (.goto (-48), 3) := by decide +kernel
theorem dX11_night_93 : decode cX11_night 93 = .ok (.aload_n 0, 1) := by decide +kernel
theorem dX11_night_94 : decode cX11_night 94 = .ok (.bipush 10, 2) := by decide +kernel
theorem dX11_night_96 : decode cX11_night 96 = .ok (.invokevirtual 179, 3) := by decide +kernel
theorem dX11_night_99 : decode cX11_night 99 = .ok (.ireturn, 1) := by decide +kernel
theorem dX11_grows_0 : decode cX11_grows 0 = .ok (.aload_n 0, 1) := by decide +kernel
theorem dX11_grows_1 : decode cX11_grows 1 = .ok (.iload_n 1, 1) := by decide +kernel
theorem dX11_grows_2 : decode cX11_grows 2 = .ok (.iload_n 2, 1) := by decide +kernel
theorem dX11_grows_3 : decode cX11_grows 3 = .ok (.iload_n 3, 1) := by decide +kernel
theorem dX11_grows_4 : decode cX11_grows 4 = .ok (.invokevirtual 182, 3) := by decide +kernel
theorem dX11_grows_7 : decode cX11_grows 7 = .ok (.aload_n 0, 1) := by decide +kernel
theorem dX11_grows_8 : decode cX11_grows 8 = .ok (.getfield 163, 3) := by decide +kernel
theorem dX11_grows_11 : decode cX11_grows 11 = .ok (.iadd, 1) := by decide +kernel
theorem dX11_grows_12 : decode cX11_grows 12 = .ok (.istore 4, 2) := by decide +kernel
theorem dX11_grows_14 : decode cX11_grows 14 = .ok (.aload_n 0, 1) := by decide +kernel
theorem dX11_grows_15 : decode cX11_grows 15 = .ok (.getfield 7, 3) := by decide +kernel
theorem dX11_grows_18 : decode cX11_grows 18 = .ok (.iload_n 1, 1) := by decide +kernel
theorem dX11_grows_19 : decode cX11_grows 19 = .ok (.iconst 0, 1) := by decide +kernel
theorem dX11_grows_20 : decode cX11_grows 20 = .ok (.iadd, 1) := by decide +kernel
theorem dX11_grows_21 : decode cX11_grows 21 = .ok (.iconst 5, 1) := by decide +kernel
theorem dX11_grows_22 : decode cX11_grows 22 = .ok (.iload_n 2, 1) := by decide +kernel
theorem dX11_grows_23 : decode cX11_grows 23 = .ok (.imul, 1) := by decide +kernel
theorem dX11_grows_24 : decode cX11_grows 24 = .ok (.iadd, 1) := by decide +kernel
theorem dX11_grows_25 : decode cX11_grows 25 = .ok (.iload_n 3, 1) := by decide +kernel
theorem dX11_grows_26 : decode cX11_grows 26 = .ok (.iadd, 1) := by decide +kernel
theorem dX11_grows_27 : decode cX11_grows 27 = .ok (.iload 4, 2) := by decide +kernel
theorem dX11_grows_29 : decode cX11_grows 29 = .ok (.bipush 9, 2) := by decide +kernel
theorem dX11_grows_31 : decode cX11_grows 31 = .ok (.if_icmp .le 8, 3) := by decide +kernel
theorem dX11_grows_34 : decode cX11_grows 34 = .ok (.bipush 9, 2) := by decide +kernel
theorem dX11_grows_36 : decode cX11_grows 36 = .ok (.goto 5, 3) := by decide +kernel
theorem dX11_grows_39 : decode cX11_grows 39 = .ok (.iload 4, 2) := by decide +kernel
theorem dX11_grows_41 : decode cX11_grows 41 = .ok (.iastore, 1) := by decide +kernel
theorem dX11_grows_42 : decode cX11_grows 42 = .ok (.return_, 1) := by decide +kernel
theorem dX11_eat_0 : decode cX11_eat 0 = .ok (.aload_n 0, 1) := by decide +kernel
theorem dX11_eat_1 : decode cX11_eat 1 = .ok (.iload_n 1, 1) := by decide +kernel
theorem dX11_eat_2 : decode cX11_eat 2 = .ok (.invokevirtual 200, 3) := by decide +kernel
theorem dX11_eat_5 : decode cX11_eat 5 = .ok (.ifCond .ne 6, 3) := by decide +kernel
theorem dX11_eat_8 : decode cX11_eat 8 = .ok (.ldc 192, 2) := by decide +kernel
theorem dX11_eat_10 : decode cX11_eat 10 = .ok (.ireturn, 1) := by decide +kernel
theorem dX11_eat_11 : decode cX11_eat 11 = .ok (.aload_n 0, 1) := by decide +kernel
theorem dX11_eat_12 : decode cX11_eat 12 = .ok (.iload_n 1, 1) := by decide +kernel
theorem dX11_eat_13 : decode cX11_eat 13 = .ok (.invokevirtual 209, 3) := by decide +kernel
theorem dX11_eat_16 : decode cX11_eat 16 = .ok (.ifCond .eq 6, 3) := by decide +kernel
theorem dX11_eat_19 : decode cX11_eat 19 = .ok (.ldc 205, 2) := by decide +kernel
theorem dX11_eat_21 : decode cX11_eat 21 = .ok (.ireturn, 1) := by decide +kernel
theorem dX11_eat_22 : decode cX11_eat 22 = .ok (.aload_n 0, 1) := by decide +kernel
theorem dX11_eat_23 : decode cX11_eat 23 = .ok (.getfield 7, 3) := by decide +kernel
theorem dX11_eat_26 : decode cX11_eat 26 = .ok (.bipush 37, 2) := by decide +kernel
theorem dX11_eat_28 : decode cX11_eat 28 = .ok (.iload_n 1, 1) := by decide +kernel
theorem dX11_eat_29 : decode cX11_eat 29 = .ok (.iadd, 1) := by decide +kernel
theorem dX11_eat_30 : decode cX11_eat 30 = .ok (.iaload, 1) := by decide +kernel
theorem dX11_eat_31 : decode cX11_eat 31 = .ok (.istore_n 2, 1) := by decide +kernel
theorem dX11_eat_32 : decode cX11_eat 32 = .ok (.aload_n 0, 1) := by decide +kernel
theorem dX11_eat_33 : decode cX11_eat 33 = .ok (.getfield 7, 3) := by decide +kernel
theorem dX11_eat_36 : decode cX11_eat 36 = .ok (.bipush 44, 2) := by decide +kernel
theorem dX11_eat_38 : decode cX11_eat 38 = .ok (.iload_n 1, 1) := by decide +kernel
theorem dX11_eat_39 : decode cX11_eat 39 = .ok (.iadd, 1) := by decide +kernel
theorem dX11_eat_40 : decode cX11_eat 40 = .ok (.iaload, 1) := by decide +kernel
theorem dX11_eat_41 : decode cX11_eat 41 = .ok (.ifCond .ne 15, 3) := by decide +kernel
theorem dX11_eat_44 : decode cX11_eat 44 = .ok (.aload_n 0, 1) := by decide +kernel
theorem dX11_eat_45 : decode cX11_eat 45 = .ok (.iconst 0, 1) := by decide +kernel
theorem dX11_eat_46 : decode cX11_eat 46 = .ok (.aload_n 0, 1) := by decide +kernel
theorem dX11_eat_47 : decode cX11_eat 47 = .ok (.getfield 17, 3) := by decide +kernel
theorem dX11_eat_50 : decode cX11_eat 50 = .ok (.iload_n 1, 1) := by decide +kernel
theorem dX11_eat_51 : decode cX11_eat 51 = .ok (.iaload, 1) := by decide +kernel
theorem dX11_eat_52 : decode cX11_eat 52 = .ok (.iload_n 2, 1) := by decide +kernel
theorem dX11_eat_53 : decode cX11_eat 53 = .ok (.invokevirtual 238, 3) := by decide +kernel
theorem dX11_eat_56 : decode cX11_eat 56 = .ok (.aload_n 0, 1) := by decide +kernel
theorem dX11_eat_57 : decode cX11_eat 57 = .ok (.getfield 7, 3) := by decide +kernel
theorem dX11_eat_60 : decode cX11_eat 60 = .ok (.bipush 53, 2) := by decide +kernel
theorem dX11_eat_62 : decode cX11_eat 62 = .ok (.iaload, 1) := by decide +kernel
theorem dX11_eat_63 : decode cX11_eat 63 = .ok (.iload_n 2, 1) := by decide +kernel
theorem dX11_eat_64 : decode cX11_eat 64 = .ok (.aload_n 0, 1) := by decide +kernel
theorem dX11_eat_65 : decode cX11_eat 65 = .ok (.getfield 20, 3) := by decide +kernel
theorem dX11_eat_68 : decode cX11_eat 68 = .ok (.iload_n 1, 1) := by decide +kernel
theorem dX11_eat_69 : decode cX11_eat 69 = .ok (.iaload, 1) := by decide +kernel
theorem dX11_eat_70 : decode cX11_eat 70 = .ok (.if_icmp .ne 12, 3) := by decide +kernel
theorem dX11_eat_73 : decode cX11_eat 73 = .ok (.aload_n 0, 1) := by decide +kernel
theorem dX11_eat_74 : decode cX11_eat 74 = .ok (.getfield 23, 3) := by decide +kernel
theorem dX11_eat_77 : decode cX11_eat 77 = .ok (.iload_n 1, 1) := by decide +kernel
theorem dX11_eat_78 : decode cX11_eat 78 = .ok (.iaload, 1) := by decide +kernel
theorem dX11_eat_79 : decode cX11_eat 79 = .ok (.goto 4, 3) := by decide +kernel
theorem dX11_eat_82 : decode cX11_eat 82 = .ok (.iconst 0, 1) := by decide +kernel
theorem dX11_eat_83 : decode cX11_eat 83 = .ok (.iadd, 1) := by decide +kernel
theorem dX11_eat_84 : decode cX11_eat 84 = .ok (.istore_n 3, 1) := by decide +kernel
theorem dX11_eat_85 : decode cX11_eat 85 = .ok (.aload_n 0, 1) := by decide +kernel
theorem dX11_eat_86 : decode cX11_eat 86 = .ok (.getfield 7, 3) := by decide +kernel
theorem dX11_eat_89 : decode cX11_eat 89 = .ok (.bipush 53, 2) := by decide +kernel
theorem dX11_eat_91 : decode cX11_eat 91 = .ok (.iload_n 3, 1) := by decide +kernel
theorem dX11_eat_92 : decode cX11_eat 92 = .ok (.ldc 242, 2) := by decide +kernel
theorem dX11_eat_94 : decode cX11_eat 94 = .ok (.if_icmp .le 8, 3) := by decide +kernel
theorem dX11_eat_97 : decode cX11_eat 97 = .ok (.ldc 242, 2) := by decide +kernel
theorem dX11_eat_99 : decode cX11_eat 99 = .ok (.goto 4, 3) := by decide +kernel
theorem dX11_eat_102 : decode cX11_eat 102 = .ok (.iload_n 3, 1) := by decide +kernel
theorem dX11_eat_103 : decode cX11_eat 103 = .ok (.iastore, 1) := by decide +kernel
theorem dX11_eat_104 : decode cX11_eat 104 = .ok (.aload_n 0, 1) := by decide +kernel
theorem dX11_eat_105 : decode cX11_eat 105 = .ok (.getfield 7, 3) := by decide +kernel
theorem dX11_eat_108 : decode cX11_eat 108 = .ok (.bipush 37, 2) := by decide +kernel
theorem dX11_eat_110 : decode cX11_eat 110 = .ok (.iload_n 1, 1) := by decide +kernel
theorem dX11_eat_111 : decode cX11_eat 111 = .ok (.iadd, 1) := by decide +kernel
theorem dX11_eat_112 : decode cX11_eat 112 = .ok (.iconst (-1), 1) := by decide +kernel
theorem dX11_eat_113 : decode cX11_eat 113 = .ok (.iastore, 1) := by decide +kernel
theorem dX11_eat_114 : decode cX11_eat 114 = .ok (.aload_n 0, 1) := by decide +kernel
theorem dX11_eat_115 : decode cX11_eat 115 = .ok (.getfield 7, 3) := by decide +kernel
theorem dX11_eat_118 : decode cX11_eat 118 = .ok (.bipush 44, 2) := by decide +kernel
theorem dX11_eat_120 : decode cX11_eat 120 = .ok (.iload_n 1, 1) := by decide +kernel
theorem dX11_eat_121 : decode cX11_eat 121 = .ok (.iadd, 1) := by decide +kernel
theorem dX11_eat_122 : decode cX11_eat 122 = .ok (.iconst 0, 1) := by decide +kernel
theorem dX11_eat_123 : decode cX11_eat 123 = .ok (.iastore, 1) := by decide +kernel
theorem dX11_eat_124 : decode cX11_eat 124 = .ok (.aload_n 0, 1) := by decide +kernel
theorem dX11_eat_125 : decode cX11_eat 125 = .ok (.getfield 7, 3) := by decide +kernel
theorem dX11_eat_128 : decode cX11_eat 128 = .ok (.bipush 53, 2) := by decide +kernel
theorem dX11_eat_130 : decode cX11_eat 130 = .ok (.iaload, 1) := by decide +kernel
theorem dX11_eat_131 : decode cX11_eat 131 = .ok (.ireturn, 1) := by decide +kernel
theorem dX11_salt_0 : decode cX11_salt 0 = .ok (.aload_n 0, 1) := by decide +kernel
theorem dX11_salt_1 : decode cX11_salt 1 = .ok (.iload_n 1, 1) := by decide +kernel
theorem dX11_salt_2 : decode cX11_salt 2 = .ok (.invokevirtual 200, 3) := by decide +kernel
theorem dX11_salt_5 : decode cX11_salt 5 = .ok (.ifCond .ne 6, 3) := by decide +kernel
theorem dX11_salt_8 : decode cX11_salt 8 = .ok (.ldc 192, 2) := by decide +kernel
theorem dX11_salt_10 : decode cX11_salt 10 = .ok (.ireturn, 1) := by decide +kernel
theorem dX11_salt_11 : decode cX11_salt 11 = .ok (.aload_n 0, 1) := by decide +kernel
theorem dX11_salt_12 : decode cX11_salt 12 = .ok (.getfield 7, 3) := by decide +kernel
theorem dX11_salt_15 : decode cX11_salt 15 = .ok (.bipush 44, 2) := by decide +kernel
theorem dX11_salt_17 : decode cX11_salt 17 = .ok (.iload_n 1, 1) := by decide +kernel
theorem dX11_salt_18 : decode cX11_salt 18 = .ok (.iadd, 1) := by decide +kernel
theorem dX11_salt_19 : decode cX11_salt 19 = .ok (.iaload, 1) := by decide +kernel
theorem dX11_salt_20 : decode cX11_salt 20 = .ok (.istore_n 2, 1) := by decide +kernel
theorem dX11_salt_21 : decode cX11_salt 21 = .ok (.aload_n 0, 1) := by decide +kernel
theorem dX11_salt_22 : decode cX11_salt 22 = .ok (.getfield 7, 3) := by decide +kernel
theorem dX11_salt_25 : decode cX11_salt 25 = .ok (.bipush 44, 2) := by decide +kernel
theorem dX11_salt_27 : decode cX11_salt 27 = .ok (.iload_n 1, 1) := by decide +kernel
theorem dX11_salt_28 : decode cX11_salt 28 = .ok (.iadd, 1) := by decide +kernel
theorem dX11_salt_29 : decode cX11_salt 29 = .ok (.iconst 1, 1) := by decide +kernel
theorem dX11_salt_30 : decode cX11_salt 30 = .ok (.iastore, 1) := by decide +kernel
theorem dX11_salt_31 : decode cX11_salt 31 = .ok (.iload_n 2, 1) := by decide +kernel
theorem dX11_salt_32 : decode cX11_salt 32 = .ok (.ireturn, 1) := by decide +kernel
theorem dX11_mayLie_0 : decode cX11_mayLie 0 = .ok (.aload_n 0, 1) := by decide +kernel
theorem dX11_mayLie_1 : decode cX11_mayLie 1 = .ok (.iload_n 1, 1) := by decide +kernel
theorem dX11_mayLie_2 : decode cX11_mayLie 2 = .ok (.invokevirtual 209, 3) := by decide +kernel
theorem dX11_mayLie_5 : decode cX11_mayLie 5 = .ok (.ifCond .eq 25, 3) := by decide +kernel
theorem dX11_mayLie_8 : decode cX11_mayLie 8 = .ok (.aload_n 0, 1) := by decide +kernel
theorem dX11_mayLie_9 : decode cX11_mayLie 9 = .ok (.getfield 17, 3) := by decide +kernel
theorem dX11_mayLie_12 : decode cX11_mayLie 12 = .ok (.iload_n 1, 1) := by decide +kernel
theorem dX11_mayLie_13 : decode cX11_mayLie 13 = .ok (.iaload, 1) := by decide +kernel
theorem dX11_mayLie_14 : decode cX11_mayLie 14 = .ok (.iload_n 2, 1) := by decide +kernel
theorem dX11_mayLie_15 : decode cX11_mayLie 15 = .ok (.if_icmp .eq 15, 3) := by decide +kernel
theorem dX11_mayLie_18 : decode cX11_mayLie 18 = .ok (.aload_n 0, 1) := by decide +kernel
theorem dX11_mayLie_19 : decode cX11_mayLie 19 = .ok (.iload_n 2, 1) := by decide +kernel
theorem dX11_mayLie_20 : decode cX11_mayLie 20 = .ok (.invokevirtual 218, 3) := by decide +kernel
theorem dX11_mayLie_23 : decode cX11_mayLie 23 = .ok (.ifCond .ne 7, 3) := by decide +kernel
theorem dX11_mayLie_26 : decode cX11_mayLie 26 = .ok (.iconst 1, 1) := by decide +kernel
theorem dX11_mayLie_27 : decode cX11_mayLie 27 = .ok (.goto 4, 3) := by decide +kernel
theorem dX11_mayLie_30 : decode cX11_mayLie 30 = .ok (.iconst 0, 1) := by decide +kernel
theorem dX11_mayLie_31 : decode cX11_mayLie 31 = .ok (.ireturn, 1) := by decide +kernel
theorem dX11_findBeds_0 : decode cX11_findBeds 0 = .ok (.aload_n 0, 1) := by decide +kernel
theorem dX11_findBeds_1 : decode cX11_findBeds 1 = .ok (.getfield 83, 3) := by decide +kernel
theorem dX11_findBeds_4 : decode cX11_findBeds 4 = .ok (.istore_n 1, 1) := by decide +kernel
theorem dX11_findBeds_5 : decode cX11_findBeds 5 = .ok (.iload_n 1, 1) := by decide +kernel
theorem dX11_findBeds_6 : decode cX11_findBeds 6 = .ok (.ifCond .lt 163, 3) := by decide +kernel
theorem dX11_findBeds_9 : decode cX11_findBeds 9 = .ok (.iconst 0, 1) := by decide +kernel
theorem dX11_findBeds_10 : decode cX11_findBeds 10 = .ok (.istore_n 2, 1) := by decide +kernel
theorem dX11_findBeds_11 : decode cX11_findBeds 11 = .ok (.iload_n 2, 1) := by decide +kernel
theorem dX11_findBeds_12 : decode cX11_findBeds 12 = .ok (.bipush 64, 2) := by decide +kernel
theorem dX11_findBeds_14 : decode cX11_findBeds 14 = .ok (.if_icmp .ge 149, 3) := by decide +kernel
theorem dX11_findBeds_17 : decode cX11_findBeds 17 = .ok (.iload_n 1, 1) := by decide +kernel
theorem dX11_findBeds_18 : decode cX11_findBeds 18 = .ok (.aload_n 0, 1) := by decide +kernel
theorem dX11_findBeds_19 : decode cX11_findBeds 19 = .ok (.getfield 83, 3) := by decide +kernel
theorem dX11_findBeds_22 : decode cX11_findBeds 22 = .ok (.if_icmp .ne 7, 3) := by decide +kernel
theorem dX11_findBeds_25 : decode cX11_findBeds 25 = .ok (.iconst 0, 1) := by decide +kernel
theorem dX11_findBeds_26 : decode cX11_findBeds 26 = .ok (.goto 16, 3) := by decide +kernel
theorem dX11_findBeds_29 : decode cX11_findBeds 29 = .ok (.aload_n 0, 1) := by decide +kernel
theorem dX11_findBeds_30 : decode cX11_findBeds 30 = .ok (.getfield 39, 3) := by decide +kernel
theorem dX11_findBeds_33 : decode cX11_findBeds 33 = .ok (.bipush 64, 2) := by decide +kernel
theorem dX11_findBeds_35 : decode cX11_findBeds 35 = .ok (.iload_n 1, 1) := by decide +kernel
theorem dX11_findBeds_36 : decode cX11_findBeds 36 = .ok (.iconst 1, 1) := by decide +kernel
theorem dX11_findBeds_37 : decode cX11_findBeds 37 = .ok (.iadd, 1) := by decide +kernel
theorem dX11_findBeds_38 : decode cX11_findBeds 38 = .ok (.imul, 1) := by decide +kernel
theorem dX11_findBeds_39 : decode cX11_findBeds 39 = .ok (.iload_n 2, 1) := by decide +kernel
theorem dX11_findBeds_40 : decode cX11_findBeds 40 = .ok (.iadd, 1) := by decide +kernel
theorem dX11_findBeds_41 : decode cX11_findBeds 41 = .ok (.iaload, 1) := by decide +kernel
theorem dX11_findBeds_42 : decode cX11_findBeds 42 = .ok (.istore_n 3, 1) := by decide +kernel
theorem dX11_findBeds_43 : decode cX11_findBeds 43 = .ok (.iconst 0, 1) := by decide +kernel
theorem dX11_findBeds_44 : decode cX11_findBeds 44 = .ok (.istore 4, 2) := by decide +kernel
theorem dX11_findBeds_46 : decode cX11_findBeds 46 = .ok (.iload 4, 2) := by decide +kernel
theorem dX11_findBeds_48 : decode cX11_findBeds 48 = .ok (.aload_n 0, 1) := by decide +kernel
theorem dX11_findBeds_49 : decode cX11_findBeds 49 = .ok (.getfield 73, 3) := by decide +kernel
theorem dX11_findBeds_52 : decode cX11_findBeds 52 = .ok (.if_icmp .ge 93, 3) := by decide +kernel
theorem dX11_findBeds_55 : decode cX11_findBeds 55 = .ok (.iload_n 1, 1) := by decide +kernel
theorem dX11_findBeds_56 : decode cX11_findBeds 56 = .ok (.aload_n 0, 1) := by decide +kernel
theorem dX11_findBeds_57 : decode cX11_findBeds 57 = .ok (.getfield 83, 3) := by decide +kernel
theorem dX11_findBeds_60 : decode cX11_findBeds 60 = .ok (.if_icmp .ge 85, 3) := by decide +kernel
theorem dX11_findBeds_63 : decode cX11_findBeds 63 = .ok (.iload_n 2, 1) := by decide +kernel
theorem dX11_findBeds_64 : decode cX11_findBeds 64 = .ok (.iload 4, 2) := by decide +kernel
theorem dX11_findBeds_66 : decode cX11_findBeds 66 = .ok (.invokestatic 215, 3) := by decide +kernel
theorem dX11_findBeds_69 : decode cX11_findBeds 69 = .ok (.ifCond .ne 17, 3) := by decide +kernel
theorem dX11_findBeds_72 : decode cX11_findBeds 72 = .ok (.aload_n 0, 1) := by decide +kernel
theorem dX11_findBeds_73 : decode cX11_findBeds 73 = .ok (.iload_n 1, 1) := by decide +kernel
theorem dX11_findBeds_74 : decode cX11_findBeds 74 = .ok (.iload 4, 2) := by decide +kernel
theorem dX11_findBeds_76 : decode cX11_findBeds 76 = .ok (.invokevirtual 243, 3) := by decide +kernel
theorem dX11_findBeds_79 : decode cX11_findBeds 79 = .ok (.ifCond .eq 7, 3) := by decide +kernel
theorem dX11_findBeds_82 : decode cX11_findBeds 82 = .ok (.iconst 1, 1) := by decide +kernel
theorem dX11_findBeds_83 : decode cX11_findBeds 83 = .ok (.goto 4, 3) := by decide +kernel
theorem dX11_findBeds_86 : decode cX11_findBeds 86 = .ok (.iconst 0, 1) := by decide +kernel
theorem dX11_findBeds_87 : decode cX11_findBeds 87 = .ok (.istore 5, 2) := by decide +kernel
theorem dX11_findBeds_89 : decode cX11_findBeds 89 = .ok (.iload 5, 2) := by decide +kernel
theorem dX11_findBeds_91 : decode cX11_findBeds 91 = .ok (.ifCond .eq 32, 3) := by decide +kernel
theorem dX11_findBeds_94 : decode cX11_findBeds 94 = .ok (.aload_n 0, 1) := by decide +kernel
theorem dX11_findBeds_95 : decode cX11_findBeds 95 = .ok (.iload_n 1, 1) := by decide +kernel
theorem dX11_findBeds_96 : decode cX11_findBeds 96 = .ok (.iload 4, 2) := by decide +kernel
theorem dX11_findBeds_98 : decode cX11_findBeds 98 = .ok (.invokevirtual 206, 3) := by decide +kernel
theorem dX11_findBeds_101 : decode cX11_findBeds 101 = .ok (.aload_n 0, 1) := by decide +kernel
theorem dX11_findBeds_102 : decode cX11_findBeds 102 = .ok (.getfield 39, 3) := by decide +kernel
theorem dX11_findBeds_105 : decode cX11_findBeds 105 = .ok (.bipush 64, 2) := by decide +kernel
theorem dX11_findBeds_107 : decode cX11_findBeds 107 = .ok (.iload_n 1, 1) := by decide +kernel
theorem dX11_findBeds_108 : decode cX11_findBeds 108 = .ok (.iconst 1, 1) := by decide +kernel
theorem dX11_findBeds_109 : decode cX11_findBeds 109 = .ok (.iadd, 1) := by decide +kernel
theorem dX11_findBeds_110 : decode cX11_findBeds 110 = .ok (.imul, 1) := by decide +kernel
theorem dX11_findBeds_111 : decode cX11_findBeds 111 = .ok (.iload_n 2, 1) := by decide +kernel
theorem dX11_findBeds_112 : decode cX11_findBeds 112 = .ok (.iconst 1, 1) := by decide +kernel
theorem dX11_findBeds_113 : decode cX11_findBeds 113 = .ok (.iload 4, 2) := by decide +kernel
theorem dX11_findBeds_115 : decode cX11_findBeds 115 = .ok (.ishl, 1) := by decide +kernel
theorem dX11_findBeds_116 : decode cX11_findBeds 116 = .ok (.ior, 1) := by decide +kernel
theorem dX11_findBeds_117 : decode cX11_findBeds 117 = .ok (.iadd, 1) := by decide +kernel
theorem dX11_findBeds_118 : decode cX11_findBeds 118 = .ok (.iaload, 1) := by decide +kernel
theorem dX11_findBeds_119 : decode cX11_findBeds 119 = .ok (.iadd, 1) := by decide +kernel
theorem dX11_findBeds_120 : decode cX11_findBeds 120 = .ok (.goto 4, 3) := by decide +kernel
theorem dX11_findBeds_123 : decode cX11_findBeds 123 = .ok (.iconst 0, 1) := by decide +kernel
theorem dX11_findBeds_124 : decode cX11_findBeds 124 = .ok (.istore 6, 2) := by decide +kernel
theorem dX11_findBeds_126 : decode cX11_findBeds 126 = .ok (.iload 6, 2) := by decide +kernel
theorem dX11_findBeds_128 : decode cX11_findBeds 128 = .ok (.iload_n 3, 1) := by decide +kernel
theorem dX11_findBeds_129 : decode cX11_findBeds 129 = .ok (.if_icmp .le 8, 3) := by decide +kernel
theorem dX11_findBeds_132 : decode cX11_findBeds 132 = .ok (.iload 6, 2) := by decide +kernel
theorem dX11_findBeds_134 : decode cX11_findBeds 134 = .ok (.goto 4, 3) := by decide +kernel
theorem dX11_findBeds_137 : decode cX11_findBeds 137 = .ok (.iload_n 3, 1) := by decide +kernel
theorem dX11_findBeds_138 : decode cX11_findBeds 138 = .ok (.istore_n 3, 1) := by decide +kernel
theorem dX11_findBeds_139 : decode cX11_findBeds 139 = .ok (.iinc 4 1, 3) := by decide +kernel
theorem dX11_findBeds_142 : decode cX11_findBeds 142 = .ok (.goto (-96), 3) := by decide +kernel
theorem dX11_findBeds_145 : decode cX11_findBeds 145 = .ok (.aload_n 0, 1) := by decide +kernel
theorem dX11_findBeds_146 : decode cX11_findBeds 146 = .ok (.getfield 39, 3) := by decide +kernel
theorem dX11_findBeds_149 : decode cX11_findBeds 149 = .ok (.bipush 64, 2) := by decide +kernel
theorem dX11_findBeds_151 : decode cX11_findBeds 151 = .ok (.iload_n 1, 1) := by decide +kernel
theorem dX11_findBeds_152 : decode cX11_findBeds 152 = .ok (.imul, 1) := by decide +kernel
theorem dX11_findBeds_153 : decode cX11_findBeds 153 = .ok (.iload_n 2, 1) := by decide +kernel
theorem dX11_findBeds_154 : decode cX11_findBeds 154 = .ok (.iadd, 1) := by decide +kernel
theorem dX11_findBeds_155 : decode cX11_findBeds 155 = .ok (.iload_n 3, 1) := by decide +kernel
theorem dX11_findBeds_156 : decode cX11_findBeds 156 = .ok (.iastore, 1) := by decide +kernel
theorem dX11_findBeds_157 : decode cX11_findBeds 157 = .ok (.iinc 2 1, 3) := by decide +kernel
theorem dX11_findBeds_160 : decode cX11_findBeds 160 = .ok (.goto (-149), 3) := by decide +kernel
theorem dX11_findBeds_163 : decode cX11_findBeds 163 = .ok (.iinc 1 (-1), 3) := by decide +kernel
theorem dX11_findBeds_166 : decode cX11_findBeds 166 = .ok (.goto (-161), 3) := by decide +kernel
theorem dX11_findBeds_169 : decode cX11_findBeds 169 = .ok (.iconst 0, 1) := by decide +kernel
theorem dX11_findBeds_170 : decode cX11_findBeds 170 = .ok (.istore_n 1, 1) := by decide +kernel
theorem dX11_findBeds_171 : decode cX11_findBeds 171 = .ok (.iconst 0, 1) := by decide +kernel
theorem dX11_findBeds_172 : decode cX11_findBeds 172 = .ok (.istore_n 2, 1) := by decide +kernel
theorem dX11_findBeds_173 : decode cX11_findBeds 173 = .ok (.iload_n 2, 1) := by decide +kernel
theorem dX11_findBeds_174 : decode cX11_findBeds 174 = .ok (.aload_n 0, 1) := by decide +kernel
theorem dX11_findBeds_175 : decode cX11_findBeds 175 = .ok (.getfield 83, 3) := by decide +kernel
theorem dX11_findBeds_178 : decode cX11_findBeds 178 = .ok (.if_icmp .ge 184, 3) := by decide +kernel
theorem dX11_findBeds_181 : decode cX11_findBeds 181 = .ok (.aload_n 0, 1) := by decide +kernel
theorem dX11_findBeds_182 : decode cX11_findBeds 182 = .ok (.getfield 42, 3) := by decide +kernel
theorem dX11_findBeds_185 : decode cX11_findBeds 185 = .ok (.iload_n 2, 1) := by decide +kernel
theorem dX11_findBeds_186 : decode cX11_findBeds 186 = .ok (.iconst (-1), 1) := by decide +kernel
theorem dX11_findBeds_187 : decode cX11_findBeds 187 = .ok (.iastore, 1) := by decide +kernel
theorem dX11_findBeds_188 : decode cX11_findBeds 188 = .ok (.aload_n 0, 1) := by decide +kernel
theorem dX11_findBeds_189 : decode cX11_findBeds 189 = .ok (.getfield 73, 3) := by decide +kernel
theorem dX11_findBeds_192 : decode cX11_findBeds 192 = .ok (.iconst 1, 1) := by decide +kernel
theorem dX11_findBeds_193 : decode cX11_findBeds 193 = .ok (.isub, 1) := by decide +kernel
theorem dX11_findBeds_194 : decode cX11_findBeds 194 = .ok (.istore_n 3, 1) := by decide +kernel
theorem dX11_findBeds_195 : decode cX11_findBeds 195 = .ok (.iload_n 3, 1) := by decide +kernel
theorem dX11_findBeds_196 : decode cX11_findBeds 196 = .ok (.ifCond .lt 92, 3) := by decide +kernel
theorem dX11_findBeds_199 : decode cX11_findBeds 199 = .ok (.iload_n 1, 1) := by decide +kernel
theorem dX11_findBeds_200 : decode cX11_findBeds 200 = .ok (.iload_n 3, 1) := by decide +kernel
theorem dX11_findBeds_201 : decode cX11_findBeds 201 = .ok (.invokestatic 215, 3) := by decide +kernel
theorem dX11_findBeds_204 : decode cX11_findBeds 204 = .ok (.ifCond .ne 54, 3) := by decide +kernel
theorem dX11_findBeds_207 : decode cX11_findBeds 207 = .ok (.aload_n 0, 1) := by decide +kernel
theorem dX11_findBeds_208 : decode cX11_findBeds 208 = .ok (.iload_n 2, 1) := by decide +kernel
theorem dX11_findBeds_209 : decode cX11_findBeds 209 = .ok (.iload_n 3, 1) := by decide +kernel
theorem dX11_findBeds_210 : decode cX11_findBeds 210 = .ok (.invokevirtual 243, 3) := by decide +kernel
theorem dX11_findBeds_213 : decode cX11_findBeds 213 = .ok (.ifCond .eq 45, 3) := by decide +kernel
theorem dX11_findBeds_216 : decode cX11_findBeds 216 = .ok (.aload_n 0, 1) := by decide +kernel
theorem dX11_findBeds_217 : decode cX11_findBeds 217 = .ok (.iload_n 2, 1) := by decide +kernel
theorem dX11_findBeds_218 : decode cX11_findBeds 218 = .ok (.iload_n 3, 1) := by decide +kernel
theorem dX11_findBeds_219 : decode cX11_findBeds 219 = .ok (.invokevirtual 206, 3) := by decide +kernel
theorem dX11_findBeds_222 : decode cX11_findBeds 222 = .ok (.aload_n 0, 1) := by decide +kernel
theorem dX11_findBeds_223 : decode cX11_findBeds 223 = .ok (.getfield 39, 3) := by decide +kernel
theorem dX11_findBeds_226 : decode cX11_findBeds 226 = .ok (.bipush 64, 2) := by decide +kernel
theorem dX11_findBeds_228 : decode cX11_findBeds 228 = .ok (.iload_n 2, 1) := by decide +kernel
theorem dX11_findBeds_229 : decode cX11_findBeds 229 = .ok (.iconst 1, 1) := by decide +kernel
theorem dX11_findBeds_230 : decode cX11_findBeds 230 = .ok (.iadd, 1) := by decide +kernel
theorem dX11_findBeds_231 : decode cX11_findBeds 231 = .ok (.imul, 1) := by decide +kernel
theorem dX11_findBeds_232 : decode cX11_findBeds 232 = .ok (.iload_n 1, 1) := by decide +kernel
theorem dX11_findBeds_233 : decode cX11_findBeds 233 = .ok (.iconst 1, 1) := by decide +kernel
theorem dX11_findBeds_234 : decode cX11_findBeds 234 = .ok (.iload_n 3, 1) := by decide +kernel
theorem dX11_findBeds_235 : decode cX11_findBeds 235 = .ok (.ishl, 1) := by decide +kernel
theorem dX11_findBeds_236 : decode cX11_findBeds 236 = .ok (.ior, 1) := by decide +kernel
theorem dX11_findBeds_237 : decode cX11_findBeds 237 = .ok (.iadd, 1) := by decide +kernel
theorem dX11_findBeds_238 : decode cX11_findBeds 238 = .ok (.iaload, 1) := by decide +kernel
theorem dX11_findBeds_239 : decode cX11_findBeds 239 = .ok (.iadd, 1) := by decide +kernel
theorem dX11_findBeds_240 : decode cX11_findBeds 240 = .ok (.aload_n 0, 1) := by decide +kernel
theorem dX11_findBeds_241 : decode cX11_findBeds 241 = .ok (.getfield 39, 3) := by decide +kernel
theorem dX11_findBeds_244 : decode cX11_findBeds 244 = .ok (.bipush 64, 2) := by decide +kernel
theorem dX11_findBeds_246 : decode cX11_findBeds 246 = .ok (.iload_n 2, 1) := by decide +kernel
theorem dX11_findBeds_247 : decode cX11_findBeds 247 = .ok (.imul, 1) := by decide +kernel
theorem dX11_findBeds_248 : decode cX11_findBeds 248 = .ok (.iload_n 1, 1) := by decide +kernel
theorem dX11_findBeds_249 : decode cX11_findBeds 249 = .ok (.iadd, 1) := by decide +kernel
theorem dX11_findBeds_250 : decode cX11_findBeds 250 = .ok (.iaload, 1) := by decide +kernel
theorem dX11_findBeds_251 : decode cX11_findBeds 251 = .ok (.if_icmp .ne 7, 3) := by decide +kernel
theorem dX11_findBeds_254 : decode cX11_findBeds 254 = .ok (.iconst 1, 1) := by decide +kernel
theorem dX11_findBeds_255 : decode cX11_findBeds 255 = .ok (.goto 4, 3) := by decide +kernel
theorem dX11_findBeds_258 : decode cX11_findBeds 258 = .ok (.iconst 0, 1) := by decide +kernel
theorem dX11_findBeds_259 : decode cX11_findBeds 259 = .ok (.istore 4, 2) := by decide +kernel
theorem dX11_findBeds_261 : decode cX11_findBeds 261 = .ok (.aload_n 0, 1) := by decide +kernel
theorem dX11_findBeds_262 : decode cX11_findBeds 262 = .ok (.getfield 42, 3) := by decide +kernel
theorem dX11_findBeds_265 : decode cX11_findBeds 265 = .ok (.iload_n 2, 1) := by decide +kernel
theorem dX11_findBeds_266 : decode cX11_findBeds 266 = .ok (.iload 4, 2) := by decide +kernel
theorem dX11_findBeds_268 : decode cX11_findBeds 268 = .ok (.ifCond .eq 7, 3) := by decide +kernel
theorem dX11_findBeds_271 : decode cX11_findBeds 271 = .ok (.iload_n 3, 1) := by decide +kernel
theorem dX11_findBeds_272 : decode cX11_findBeds 272 = .ok (.goto 9, 3) := by decide +kernel
theorem dX11_findBeds_275 : decode cX11_findBeds 275 = .ok (.aload_n 0, 1) := by decide +kernel
theorem dX11_findBeds_276 : decode cX11_findBeds 276 = .ok (.getfield 42, 3) := by decide +kernel
theorem dX11_findBeds_279 : decode cX11_findBeds 279 = .ok (.iload_n 2, 1) := by decide +kernel
theorem dX11_findBeds_280 : decode cX11_findBeds 280 = .ok (.iaload, 1) := by decide +kernel
theorem dX11_findBeds_281 : decode cX11_findBeds 281 = .ok (.iastore, 1) := by decide +kernel
theorem dX11_findBeds_282 : decode cX11_findBeds 282 = .ok (.iinc 3 (-1), 3) := by decide +kernel
theorem dX11_findBeds_285 : decode cX11_findBeds 285 = .ok (.goto (-90), 3) := by decide +kernel
theorem dX11_findBeds_288 : decode cX11_findBeds 288 = .ok (.aload_n 0, 1) := by decide +kernel
theorem dX11_findBeds_289 : decode cX11_findBeds 289 = .ok (.getfield 42, 3) := by decide +kernel
theorem dX11_findBeds_292 : decode cX11_findBeds 292 = .ok (.iload_n 2, 1) := by decide +kernel
theorem dX11_findBeds_293 : decode cX11_findBeds 293 = .ok (.aload_n 0, 1) := by decide +kernel
theorem dX11_findBeds_294 : decode cX11_findBeds 294 = .ok (.getfield 39, 3) := by decide +kernel
theorem dX11_findBeds_297 : decode cX11_findBeds 297 = .ok (.bipush 64, 2) := by decide +kernel
theorem dX11_findBeds_299 : decode cX11_findBeds 299 = .ok (.iload_n 2, 1) := by decide +kernel
theorem dX11_findBeds_300 : decode cX11_findBeds 300 = .ok (.iconst 1, 1) := by decide +kernel
theorem dX11_findBeds_301 : decode cX11_findBeds 301 = .ok (.iadd, 1) := by decide +kernel
theorem dX11_findBeds_302 : decode cX11_findBeds 302 = .ok (.imul, 1) := by decide +kernel
theorem dX11_findBeds_303 : decode cX11_findBeds 303 = .ok (.iload_n 1, 1) := by decide +kernel
theorem dX11_findBeds_304 : decode cX11_findBeds 304 = .ok (.iadd, 1) := by decide +kernel
theorem dX11_findBeds_305 : decode cX11_findBeds 305 = .ok (.iaload, 1) := by decide +kernel
theorem dX11_findBeds_306 : decode cX11_findBeds 306 = .ok (.aload_n 0, 1) := by decide +kernel
theorem dX11_findBeds_307 : decode cX11_findBeds 307 = .ok (.getfield 39, 3) := by decide +kernel
theorem dX11_findBeds_310 : decode cX11_findBeds 310 = .ok (.bipush 64, 2) := by decide +kernel
theorem dX11_findBeds_312 : decode cX11_findBeds 312 = .ok (.iload_n 2, 1) := by decide +kernel
theorem dX11_findBeds_313 : decode cX11_findBeds 313 = .ok (.imul, 1) := by decide +kernel
theorem dX11_findBeds_314 : decode cX11_findBeds 314 = .ok (.iload_n 1, 1) := by decide +kernel
theorem dX11_findBeds_315 : decode cX11_findBeds 315 = .ok (.iadd, 1) := by decide +kernel
theorem dX11_findBeds_316 : decode cX11_findBeds 316 = .ok (.iaload, 1) := by decide +kernel
theorem dX11_findBeds_317 : decode cX11_findBeds 317 = .ok (.if_icmp .ne 7, 3) := by decide +kernel
theorem dX11_findBeds_320 : decode cX11_findBeds 320 = .ok (.iconst (-1), 1) := by decide +kernel
theorem dX11_findBeds_321 : decode cX11_findBeds 321 = .ok (.goto 9, 3) := by decide +kernel
theorem dX11_findBeds_324 : decode cX11_findBeds 324 = .ok (.aload_n 0, 1) := by decide +kernel
theorem dX11_findBeds_325 : decode cX11_findBeds 325 = .ok (.getfield 42, 3) := by decide +kernel
theorem dX11_findBeds_328 : decode cX11_findBeds 328 = .ok (.iload_n 2, 1) := by decide +kernel
theorem dX11_findBeds_329 : decode cX11_findBeds 329 = .ok (.iaload, 1) := by decide +kernel
theorem dX11_findBeds_330 : decode cX11_findBeds 330 = .ok (.iastore, 1) := by decide +kernel
theorem dX11_findBeds_331 : decode cX11_findBeds 331 = .ok (.iload_n 1, 1) := by decide +kernel
theorem dX11_findBeds_332 : decode cX11_findBeds 332 = .ok (.aload_n 0, 1) := by decide +kernel
theorem dX11_findBeds_333 : decode cX11_findBeds 333 = .ok (.getfield 42, 3) := by decide +kernel
theorem dX11_findBeds_336 : decode cX11_findBeds 336 = .ok (.iload_n 2, 1) := by decide +kernel
theorem dX11_findBeds_337 : decode cX11_findBeds 337 = .ok (.iaload, 1) := by decide +kernel
theorem dX11_findBeds_338 : decode cX11_findBeds 338 = .ok (.iconst (-1), 1) := by decide +kernel
theorem dX11_findBeds_339 : decode cX11_findBeds 339 = .ok (.if_icmp .ne 7, 3) := by decide +kernel
theorem dX11_findBeds_342 : decode cX11_findBeds 342 = .ok (.iconst 0, 1) := by decide +kernel
theorem dX11_findBeds_343 : decode cX11_findBeds 343 = .ok (.goto 11, 3) := by decide +kernel
theorem dX11_findBeds_346 : decode cX11_findBeds 346 = .ok (.iconst 1, 1) := by decide +kernel
theorem dX11_findBeds_347 : decode cX11_findBeds 347 = .ok (.aload_n 0, 1) := by decide +kernel
theorem dX11_findBeds_348 : decode cX11_findBeds 348 = .ok (.getfield 42, 3) := by decide +kernel
theorem dX11_findBeds_351 : decode cX11_findBeds 351 = .ok (.iload_n 2, 1) := by decide +kernel
theorem dX11_findBeds_352 : decode cX11_findBeds 352 = .ok (.iaload, 1) := by decide +kernel
theorem dX11_findBeds_353 : decode cX11_findBeds 353 = .ok (.ishl, 1) := by decide +kernel
theorem dX11_findBeds_354 : decode cX11_findBeds 354 = .ok (.ior, 1) := by decide +kernel
theorem dX11_findBeds_355 : decode cX11_findBeds 355 = .ok (.istore_n 1, 1) := by decide +kernel
theorem dX11_findBeds_356 : decode cX11_findBeds 356 = .ok (.iinc 2 1, 3) := by decide +kernel
theorem dX11_findBeds_359 : decode cX11_findBeds 359 = .ok (.goto (-186), 3) := by decide +kernel
theorem dX11_findBeds_362 : decode cX11_findBeds 362 = .ok (.return_, 1) := by decide +kernel
theorem dX11_beds_0 : decode cX11_beds 0 = .ok (.iload_n 1, 1) := by decide +kernel
theorem dX11_beds_1 : decode cX11_beds 1 = .ok (.iconst (-1), 1) := by decide +kernel
theorem dX11_beds_2 : decode cX11_beds 2 = .ok (.if_icmp .eq 14, 3) := by decide +kernel
theorem dX11_beds_5 : decode cX11_beds 5 = .ok (.aload_n 0, 1) := by decide +kernel
theorem dX11_beds_6 : decode cX11_beds 6 = .ok (.iload_n 1, 1) := by decide +kernel
theorem dX11_beds_7 : decode cX11_beds 7 = .ok (.invokevirtual 200, 3) := by decide +kernel
theorem dX11_beds_10 : decode cX11_beds 10 = .ok (.ifCond .ne 6, 3) := by decide +kernel
theorem dX11_beds_13 : decode cX11_beds 13 = .ok (.ldc 192, 2) := by decide +kernel
theorem dX11_beds_15 : decode cX11_beds 15 = .ok (.ireturn, 1) := by decide +kernel
theorem dX11_beds_16 : decode cX11_beds 16 = .ok (.aload_n 0, 1) := by decide +kernel
theorem dX11_beds_17 : decode cX11_beds 17 = .ok (.invokevirtual 246, 3) := by decide +kernel
theorem dX11_beds_20 : decode cX11_beds 20 = .ok (.iload_n 1, 1) := by decide +kernel
theorem dX11_beds_21 : decode cX11_beds 21 = .ok (.iconst (-1), 1) := by decide +kernel
theorem dX11_beds_22 : decode cX11_beds 22 = .ok (.if_icmp .ne 12, 3) := by decide +kernel
theorem dX11_beds_25 : decode cX11_beds 25 = .ok (.aload_n 0, 1) := by decide +kernel
theorem dX11_beds_26 : decode cX11_beds 26 = .ok (.getfield 39, 3) := by decide +kernel
theorem dX11_beds_29 : decode cX11_beds 29 = .ok (.iconst 0, 1) := by decide +kernel
theorem dX11_beds_30 : decode cX11_beds 30 = .ok (.iaload, 1) := by decide +kernel
theorem dX11_beds_31 : decode cX11_beds 31 = .ok (.goto 9, 3) := by decide +kernel
theorem dX11_beds_34 : decode cX11_beds 34 = .ok (.aload_n 0, 1) := by decide +kernel
theorem dX11_beds_35 : decode cX11_beds 35 = .ok (.getfield 42, 3) := by decide +kernel
theorem dX11_beds_38 : decode cX11_beds 38 = .ok (.iload_n 1, 1) := by decide +kernel
theorem dX11_beds_39 : decode cX11_beds 39 = .ok (.iaload, 1) := by decide +kernel
theorem dX11_beds_40 : decode cX11_beds 40 = .ok (.ireturn, 1) := by decide +kernel
theorem dX11_feedings_0 : decode cX11_feedings 0 = .ok (.aload_n 0, 1) := by decide +kernel
theorem dX11_feedings_1 : decode cX11_feedings 1 = .ok (.iload_n 1, 1) := by decide +kernel
theorem dX11_feedings_2 : decode cX11_feedings 2 = .ok (.invokevirtual 186, 3) := by decide +kernel
theorem dX11_feedings_5 : decode cX11_feedings 5 = .ok (.ifCond .eq 11, 3) := by decide +kernel
theorem dX11_feedings_8 : decode cX11_feedings 8 = .ok (.aload_n 0, 1) := by decide +kernel
theorem dX11_feedings_9 : decode cX11_feedings 9 = .ok (.iload_n 2, 1) := by decide +kernel
theorem dX11_feedings_10 : decode cX11_feedings 10 = .ok (.invokevirtual 189, 3) := by decide +kernel
theorem dX11_feedings_13 : decode cX11_feedings 13 = .ok (.ifCond .ne 6, 3) := by decide +kernel
theorem dX11_feedings_16 : decode cX11_feedings 16 = .ok (.ldc 192, 2) := by decide +kernel
theorem dX11_feedings_18 : decode cX11_feedings 18 = .ok (.ireturn, 1) := by decide +kernel
theorem dX11_feedings_19 : decode cX11_feedings 19 = .ok (.aload_n 0, 1) := by decide +kernel
theorem dX11_feedings_20 : decode cX11_feedings 20 = .ok (.iconst 0, 1) := by decide +kernel
theorem dX11_feedings_21 : decode cX11_feedings 21 = .ok (.bipush 55, 2) := by decide +kernel
theorem dX11_feedings_23 : decode cX11_feedings 23 = .ok (.invokevirtual 249, 3) := by decide +kernel
theorem dX11_feedings_26 : decode cX11_feedings 26 = .ok (.iconst 0, 1) := by decide +kernel
theorem dX11_feedings_27 : decode cX11_feedings 27 = .ok (.istore_n 3, 1) := by decide +kernel
theorem dX11_feedings_28 : decode cX11_feedings 28 = .ok (.iload_n 3, 1) := by decide +kernel
theorem dX11_feedings_29 : decode cX11_feedings 29 = .ok (.bipush 9, 2) := by decide +kernel
theorem dX11_feedings_31 : decode cX11_feedings 31 = .ok (.if_icmp .gt 30, 3) := by decide +kernel
theorem dX11_feedings_34 : decode cX11_feedings 34 = .ok (.aload_n 0, 1) := by decide +kernel
theorem dX11_feedings_35 : decode cX11_feedings 35 = .ok (.bipush 55, 2) := by decide +kernel
theorem dX11_feedings_37 : decode cX11_feedings 37 = .ok (.iload_n 1, 1) := by decide +kernel
theorem dX11_feedings_38 : decode cX11_feedings 38 = .ok (.invokevirtual 197, 3) := by decide +kernel
theorem dX11_feedings_41 : decode cX11_feedings 41 = .ok (.iload_n 2, 1) := by decide +kernel
theorem dX11_feedings_42 : decode cX11_feedings 42 = .ok (.if_icmp .ne 5, 3) := by decide +kernel
theorem dX11_feedings_45 : decode cX11_feedings 45 = .ok (.iload_n 3, 1) := by decide +kernel
theorem dX11_feedings_46 : decode cX11_feedings 46 = .ok (.ireturn, 1) := by decide +kernel
theorem dX11_feedings_47 : decode cX11_feedings 47 = .ok (.aload_n 0, 1) := by decide +kernel
theorem dX11_feedings_48 : decode cX11_feedings 48 = .ok (.bipush 55, 2) := by decide +kernel
theorem dX11_feedings_50 : decode cX11_feedings 50 = .ok (.iload_n 1, 1) := by decide +kernel
theorem dX11_feedings_51 : decode cX11_feedings 51 = .ok (.iload_n 2, 1) := by decide +kernel
theorem dX11_feedings_52 : decode cX11_feedings 52 = .ok (.invokevirtual 238, 3) := by decide +kernel
theorem dX11_feedings_55 : decode cX11_feedings 55 = .ok (.iinc 3 1, 3) := by decide +kernel
theorem dX11_feedings_58 : decode cX11_feedings 58 = .ok (.goto (-30), 3) := by decide +kernel
theorem dX11_feedings_61 : decode cX11_feedings 61 = .ok (.iconst (-1), 1) := by decide +kernel
theorem dX11_feedings_62 : decode cX11_feedings 62 = .ok (.ireturn, 1) := by decide +kernel
theorem dX11_foretells_0 : decode cX11_foretells 0 = .ok (.iconst 0, 1) := by decide +kernel
theorem dX11_foretells_1 : decode cX11_foretells 1 = .ok (.istore_n 2, 1) := by decide +kernel
theorem dX11_foretells_2 : decode cX11_foretells 2 = .ok (.iconst 0, 1) := by decide +kernel
theorem dX11_foretells_3 : decode cX11_foretells 3 = .ok (.istore_n 3, 1) := by decide +kernel
theorem dX11_foretells_4 : decode cX11_foretells 4 = .ok (.iload_n 3, 1) := by decide +kernel
theorem dX11_foretells_5 : decode cX11_foretells 5 = .ok (.aload_n 0, 1) := by decide +kernel
theorem dX11_foretells_6 : decode cX11_foretells 6 = .ok (.getfield 83, 3) := by decide +kernel
theorem dX11_foretells_9 : decode cX11_foretells 9 = .ok (.if_icmp .ge 66, 3) := by decide +kernel
theorem dX11_foretells_12 : decode cX11_foretells 12 = .ok (.aload_n 0, 1) := by decide +kernel
theorem dX11_foretells_13 : decode cX11_foretells 13 = .ok (.getfield 42, 3) := by decide +kernel
theorem dX11_foretells_16 : decode cX11_foretells 16 = .ok (.iload_n 3, 1) := by decide +kernel
theorem dX11_foretells_17 : decode cX11_foretells 17 = .ok (.iaload, 1) := by decide +kernel
theorem dX11_foretells_18 : decode cX11_foretells 18 = .ok (.iconst (-1), 1) := by decide +kernel
theorem dX11_foretells_19 : decode cX11_foretells 19 = .ok (.if_icmp .eq 20, 3) := by decide +kernel
theorem dX11_foretells_22 : decode cX11_foretells 22 = .ok (.iload_n 1, 1) := by decide +kernel
theorem dX11_foretells_23 : decode cX11_foretells 23 = .ok (.aload_n 0, 1) := by decide +kernel
theorem dX11_foretells_24 : decode cX11_foretells 24 = .ok (.getfield 42, 3) := by decide +kernel
theorem dX11_foretells_27 : decode cX11_foretells 27 = .ok (.iload_n 3, 1) := by decide +kernel
theorem dX11_foretells_28 : decode cX11_foretells 28 = .ok (.iaload, 1) := by decide +kernel
theorem dX11_foretells_29 : decode cX11_foretells 29 = .ok (.invokestatic 215, 3) := by decide +kernel
theorem dX11_foretells_32 : decode cX11_foretells 32 = .ok (.ifCond .ne 7, 3) := by decide +kernel
theorem dX11_foretells_35 : decode cX11_foretells 35 = .ok (.iconst 1, 1) := by decide +kernel
theorem dX11_foretells_36 : decode cX11_foretells 36 = .ok (.goto 4, 3) := by decide +kernel
theorem dX11_foretells_39 : decode cX11_foretells 39 = .ok (.iconst 0, 1) := by decide +kernel
theorem dX11_foretells_40 : decode cX11_foretells 40 = .ok (.istore 4, 2) := by decide +kernel
theorem dX11_foretells_42 : decode cX11_foretells 42 = .ok (.aload_n 0, 1) := by decide +kernel
theorem dX11_foretells_43 : decode cX11_foretells 43 = .ok (.getfield 45, 3) := by decide +kernel
theorem dX11_foretells_46 : decode cX11_foretells 46 = .ok (.iload_n 3, 1) := by decide +kernel
theorem dX11_foretells_47 : decode cX11_foretells 47 = .ok (.iload 4, 2) := by decide +kernel
theorem dX11_foretells_49 : decode cX11_foretells 49 = .ok (.ifCond .eq 18, 3) := by decide +kernel
theorem dX11_foretells_52 : decode cX11_foretells 52 = .ok (.aload_n 0, 1) := by decide +kernel
theorem dX11_foretells_53 : decode cX11_foretells 53 = .ok (.bipush 55, 2) := by decide +kernel
theorem dX11_foretells_55 : decode cX11_foretells 55 = .ok (.aload_n 0, 1) := by decide +kernel
theorem dX11_foretells_56 : decode cX11_foretells 56 = .ok (.getfield 42, 3) := by decide +kernel
theorem dX11_foretells_59 : decode cX11_foretells 59 = .ok (.iload_n 3, 1) := by decide +kernel
theorem dX11_foretells_60 : decode cX11_foretells 60 = .ok (.iaload, 1) := by decide +kernel
theorem dX11_foretells_61 : decode cX11_foretells 61 = .ok (.invokevirtual 197, 3) := by decide +kernel
theorem dX11_foretells_64 : decode cX11_foretells 64 = .ok (.goto 4, 3) := by decide +kernel
theorem dX11_foretells_67 : decode cX11_foretells 67 = .ok (.iconst (-1), 1) := by decide +kernel
theorem dX11_foretells_68 : decode cX11_foretells 68 = .ok (.iastore, 1) := by decide +kernel
theorem dX11_foretells_69 : decode cX11_foretells 69 = .ok (.iinc 3 1, 3) := by decide +kernel
theorem dX11_foretells_72 : decode cX11_foretells 72 = .ok (.goto (-68), 3) := by decide +kernel
theorem dX11_foretells_75 : decode cX11_foretells 75 = .ok (.iconst 0, 1) := by decide +kernel
theorem dX11_foretells_76 : decode cX11_foretells 76 = .ok (.istore_n 3, 1) := by decide +kernel
theorem dX11_foretells_77 : decode cX11_foretells 77 = .ok (.iload_n 3, 1) := by decide +kernel
theorem dX11_foretells_78 : decode cX11_foretells 78 = .ok (.aload_n 0, 1) := by decide +kernel
theorem dX11_foretells_79 : decode cX11_foretells 79 = .ok (.getfield 83, 3) := by decide +kernel
theorem dX11_foretells_82 : decode cX11_foretells 82 = .ok (.if_icmp .ge 90, 3) := by decide +kernel
theorem dX11_foretells_85 : decode cX11_foretells 85 = .ok (.aload_n 0, 1) := by decide +kernel
theorem dX11_foretells_86 : decode cX11_foretells 86 = .ok (.getfield 45, 3) := by decide +kernel
theorem dX11_foretells_89 : decode cX11_foretells 89 = .ok (.iload_n 3, 1) := by decide +kernel
theorem dX11_foretells_90 : decode cX11_foretells 90 = .ok (.iaload, 1) := by decide +kernel
theorem dX11_foretells_91 : decode cX11_foretells 91 = .ok (.iconst (-1), 1) := by decide +kernel
theorem dX11_foretells_92 : decode cX11_foretells 92 = .ok (.if_icmp .eq 74, 3) := by decide +kernel
theorem dX11_foretells_95 : decode cX11_foretells 95 = .ok (.aload_n 0, 1) := by decide +kernel
theorem dX11_foretells_96 : decode cX11_foretells 96 = .ok (.bipush 55, 2) := by decide +kernel
theorem dX11_foretells_98 : decode cX11_foretells 98 = .ok (.aload_n 0, 1) := by decide +kernel
theorem dX11_foretells_99 : decode cX11_foretells 99 = .ok (.getfield 17, 3) := by decide +kernel
theorem dX11_foretells_102 : decode cX11_foretells 102 = .ok (.iload_n 3, 1) := by decide +kernel
theorem dX11_foretells_103 : decode cX11_foretells 103 = .ok (.iaload, 1) := by decide +kernel
theorem dX11_foretells_104 : decode cX11_foretells 104 = .ok (.aload_n 0, 1) := by decide +kernel
theorem dX11_foretells_105 : decode cX11_foretells 105 = .ok (.getfield 45, 3) := by decide +kernel
theorem dX11_foretells_108 : decode cX11_foretells 108 = .ok (.iload_n 3, 1) := by decide +kernel
theorem dX11_foretells_109 : decode cX11_foretells 109 = .ok (.iaload, 1) := by decide +kernel
theorem dX11_foretells_110 : decode cX11_foretells 110 = .ok (.invokevirtual 182, 3) := by decide +kernel
theorem dX11_foretells_113 : decode cX11_foretells 113 = .ok (.istore 4, 2) := by decide +kernel
theorem dX11_foretells_115 : decode cX11_foretells 115 = .ok (.aload_n 0, 1) := by decide +kernel
theorem dX11_foretells_116 : decode cX11_foretells 116 = .ok (.bipush 55, 2) := by decide +kernel
theorem dX11_foretells_118 : decode cX11_foretells 118 = .ok (.aload_n 0, 1) := by decide +kernel
theorem dX11_foretells_119 : decode cX11_foretells 119 = .ok (.getfield 17, 3) := by decide +kernel
theorem dX11_foretells_122 : decode cX11_foretells 122 = .ok (.iload_n 3, 1) := by decide +kernel
theorem dX11_foretells_123 : decode cX11_foretells 123 = .ok (.iaload, 1) := by decide +kernel
theorem dX11_foretells_124 : decode cX11_foretells 124 = .ok (.aload_n 0, 1) := by decide +kernel
theorem dX11_foretells_125 : decode cX11_foretells 125 = .ok (.getfield 45, 3) := by decide +kernel
theorem dX11_foretells_128 : decode cX11_foretells 128 = .ok (.iload_n 3, 1) := by decide +kernel
theorem dX11_foretells_129 : decode cX11_foretells 129 = .ok (.iaload, 1) := by decide +kernel
theorem dX11_foretells_130 : decode cX11_foretells 130 = .ok (.invokevirtual 238, 3) := by decide +kernel
theorem dX11_foretells_133 : decode cX11_foretells 133 = .ok (.iload_n 2, 1) := by decide +kernel
theorem dX11_foretells_134 : decode cX11_foretells 134 = .ok (.ifCond .ne 26, 3) := by decide +kernel
theorem dX11_foretells_137 : decode cX11_foretells 137 = .ok (.iload 4, 2) := by decide +kernel
theorem dX11_foretells_139 : decode cX11_foretells 139 = .ok (.aload_n 0, 1) := by decide +kernel
theorem dX11_foretells_140 : decode cX11_foretells 140 = .ok (.bipush 55, 2) := by decide +kernel
theorem dX11_foretells_142 : decode cX11_foretells 142 = .ok (.aload_n 0, 1) := by decide +kernel
theorem dX11_foretells_143 : decode cX11_foretells 143 = .ok (.getfield 17, 3) := by decide +kernel
theorem dX11_foretells_146 : decode cX11_foretells 146 = .ok (.iload_n 3, 1) := by decide +kernel
theorem dX11_foretells_147 : decode cX11_foretells 147 = .ok (.iaload, 1) := by decide +kernel
theorem dX11_foretells_148 : decode cX11_foretells 148 = .ok (.aload_n 0, 1) := by decide +kernel
theorem dX11_foretells_149 : decode cX11_foretells 149 = .ok (.getfield 45, 3) := by decide +kernel
theorem dX11_foretells_152 : decode cX11_foretells 152 = .ok (.iload_n 3, 1) := by decide +kernel
theorem dX11_foretells_153 : decode cX11_foretells 153 = .ok (.iaload, 1) := by decide +kernel
theorem dX11_foretells_154 : decode cX11_foretells 154 = .ok (.invokevirtual 182, 3) := by decide +kernel
theorem dX11_foretells_157 : decode cX11_foretells 157 = .ok (.if_icmp .eq 7, 3) := by decide +kernel
theorem dX11_foretells_160 : decode cX11_foretells 160 = .ok (.iconst 1, 1) := by decide +kernel
theorem dX11_foretells_161 : decode cX11_foretells 161 = .ok (.goto 4, 3) := by decide +kernel
theorem dX11_foretells_164 : decode cX11_foretells 164 = .ok (.iconst 0, 1) := by decide +kernel
theorem dX11_foretells_165 : decode cX11_foretells 165 = .ok (.istore_n 2, 1) := by decide +kernel
theorem dX11_foretells_166 : decode cX11_foretells 166 = .ok (.iinc 3 1, 3) := by decide +kernel
theorem dX11_foretells_169 : decode cX11_foretells 169 = .ok (.goto (-92), 3) := by decide +kernel
theorem dX11_foretells_172 : decode cX11_foretells 172 = .ok (.iload_n 2, 1) := by decide +kernel
theorem dX11_foretells_173 : decode cX11_foretells 173 = .ok (.ireturn, 1) := by decide +kernel
theorem dX11_foretellsMany_0 : decode cX11_foretellsMany 0 = .ok (.aload_n 0, 1) := by decide +kernel
theorem dX11_foretellsMany_1 : decode cX11_foretellsMany 1 = .ok (.iconst 0, 1) := by decide +kernel
theorem dX11_foretellsMany_2 : decode cX11_foretellsMany 2 = .ok (.bipush 55, 2) := by decide +kernel
theorem dX11_foretellsMany_4 : decode cX11_foretellsMany 4 = .ok (.invokevirtual 249, 3) := by decide +kernel
theorem dX11_foretellsMany_7 : decode cX11_foretellsMany 7 = .ok (.iconst 1, 1) := by decide +kernel
theorem dX11_foretellsMany_8 : decode cX11_foretellsMany 8 = .ok (.istore_n 3, 1) := by decide +kernel
theorem dX11_foretellsMany_9 : decode cX11_foretellsMany 9 = .ok (.iconst 0, 1) := by decide +kernel
theorem dX11_foretellsMany_10 : decode cX11_foretellsMany 10 = .ok (.istore 4, 2) := by decide +kernel
theorem dX11_foretellsMany_12 : decode cX11_foretellsMany 12 = .ok (.iload 4, 2) := by decide +kernel
theorem dX11_foretellsMany_14 : decode cX11_foretellsMany 14 = .ok (.iload_n 1, 1) := by decide +kernel
theorem dX11_foretellsMany_15 : decode cX11_foretellsMany 15 = .ok (.if_icmp .ge 19, 3) := by decide +kernel
theorem dX11_foretellsMany_18 : decode cX11_foretellsMany 18 = .ok (.iload_n 3, 1) := by decide +kernel
theorem dX11_foretellsMany_19 : decode cX11_foretellsMany 19 = .ok (.ifCond .eq 15, 3) := by decide +kernel
theorem dX11_foretellsMany_22 : decode cX11_foretellsMany 22 = .ok (.aload_n 0, 1) := by decide +kernel
theorem dX11_foretellsMany_23 : decode cX11_foretellsMany 23 = .ok (.iload_n 2, 1) := by decide +kernel
theorem dX11_foretellsMany_24 : decode cX11_foretellsMany 24 = .ok (.invokevirtual 253, 3) := by decide +kernel
theorem dX11_foretellsMany_27 : decode cX11_foretellsMany 27 = .ok (.istore_n 3, 1) := by decide +kernel
theorem dX11_foretellsMany_28 : decode cX11_foretellsMany 28 = .ok (.iinc 4 1, 3) := by decide +kernel
theorem dX11_foretellsMany_31 : decode cX11_foretellsMany 31 = .ok (.goto (-19), 3) := by decide +kernel
theorem dX11_foretellsMany_34 : decode cX11_foretellsMany 34 = .ok (.return_, 1) := by decide +kernel
theorem dX11_foretold_0 : decode cX11_foretold 0 = .ok (.aload_n 0, 1) := by decide +kernel
theorem dX11_foretold_1 : decode cX11_foretold 1 = .ok (.iload_n 1, 1) := by decide +kernel
theorem dX11_foretold_2 : decode cX11_foretold 2 = .ok (.invokevirtual 186, 3) := by decide +kernel
theorem dX11_foretold_5 : decode cX11_foretold 5 = .ok (.ifCond .eq 16, 3) := by decide +kernel
theorem dX11_foretold_8 : decode cX11_foretold 8 = .ok (.iload_n 2, 1) := by decide +kernel
theorem dX11_foretold_9 : decode cX11_foretold 9 = .ok (.iconst (-1), 1) := by decide +kernel
theorem dX11_foretold_10 : decode cX11_foretold 10 = .ok (.if_icmp .eq 14, 3) := by decide +kernel
theorem dX11_foretold_13 : decode cX11_foretold 13 = .ok (.aload_n 0, 1) := by decide +kernel
theorem dX11_foretold_14 : decode cX11_foretold 14 = .ok (.iload_n 2, 1) := by decide +kernel
theorem dX11_foretold_15 : decode cX11_foretold 15 = .ok (.invokevirtual 189, 3) := by decide +kernel
theorem dX11_foretold_18 : decode cX11_foretold 18 = .ok (.ifCond .ne 6, 3) := by decide +kernel
theorem dX11_foretold_21 : decode cX11_foretold 21 = .ok (.ldc 192, 2) := by decide +kernel
theorem dX11_foretold_23 : decode cX11_foretold 23 = .ok (.ireturn, 1) := by decide +kernel
theorem dX11_foretold_24 : decode cX11_foretold 24 = .ok (.iload_n 3, 1) := by decide +kernel
theorem dX11_foretold_25 : decode cX11_foretold 25 = .ok (.i2l, 1) := by decide +kernel
theorem dX11_foretold_26 : decode cX11_foretold 26 = .ok (.lconst 0, 1) := by decide +kernel
theorem dX11_foretold_27 : decode cX11_foretold 27 = .ok (.ldc2_w 256, 3) := by decide +kernel
theorem dX11_foretold_30 : decode cX11_foretold 30 = .ok (.invokestatic 76, 3) := by decide +kernel
theorem dX11_foretold_33 : decode cX11_foretold 33 = .ok (.ifCond .ne 6, 3) := by decide +kernel
theorem dX11_foretold_36 : decode cX11_foretold 36 = .ok (.ldc 88, 2) := by decide +kernel
theorem dX11_foretold_38 : decode cX11_foretold 38 = .ok (.ireturn, 1) := by decide +kernel
theorem dX11_foretold_39 : decode cX11_foretold 39 = .ok (.aload_n 0, 1) := by decide +kernel
theorem dX11_foretold_40 : decode cX11_foretold 40 = .ok (.invokevirtual 246, 3) := by decide +kernel
theorem dX11_foretold_43 : decode cX11_foretold 43 = .ok (.aload_n 0, 1) := by decide +kernel
theorem dX11_foretold_44 : decode cX11_foretold 44 = .ok (.iload_n 3, 1) := by decide +kernel
theorem dX11_foretold_45 : decode cX11_foretold 45 = .ok (.iconst 0, 1) := by decide +kernel
theorem dX11_foretold_46 : decode cX11_foretold 46 = .ok (.invokevirtual 258, 3) := by decide +kernel
theorem dX11_foretold_49 : decode cX11_foretold 49 = .ok (.iload_n 2, 1) := by decide +kernel
theorem dX11_foretold_50 : decode cX11_foretold 50 = .ok (.iconst (-1), 1) := by decide +kernel
theorem dX11_foretold_51 : decode cX11_foretold 51 = .ok (.if_icmp .ne 13, 3) := by decide +kernel
theorem dX11_foretold_54 : decode cX11_foretold 54 = .ok (.aload_n 0, 1) := by decide +kernel
theorem dX11_foretold_55 : decode cX11_foretold 55 = .ok (.bipush 55, 2) := by decide +kernel
theorem dX11_foretold_57 : decode cX11_foretold 57 = .ok (.iload_n 1, 1) := by decide +kernel
theorem dX11_foretold_58 : decode cX11_foretold 58 = .ok (.invokevirtual 197, 3) := by decide +kernel
theorem dX11_foretold_61 : decode cX11_foretold 61 = .ok (.goto 11, 3) := by decide +kernel
theorem dX11_foretold_64 : decode cX11_foretold 64 = .ok (.aload_n 0, 1) := by decide +kernel
theorem dX11_foretold_65 : decode cX11_foretold 65 = .ok (.bipush 55, 2) := by decide +kernel
theorem dX11_foretold_67 : decode cX11_foretold 67 = .ok (.iload_n 1, 1) := by decide +kernel
theorem dX11_foretold_68 : decode cX11_foretold 68 = .ok (.iload_n 2, 1) := by decide +kernel
theorem dX11_foretold_69 : decode cX11_foretold 69 = .ok (.invokevirtual 182, 3) := by decide +kernel
theorem dX11_foretold_72 : decode cX11_foretold 72 = .ok (.ireturn, 1) := by decide +kernel
theorem dX11_settled_0 : decode cX11_settled 0 = .ok (.aload_n 0, 1) := by decide +kernel
theorem dX11_settled_1 : decode cX11_settled 1 = .ok (.invokevirtual 246, 3) := by decide +kernel
theorem dX11_settled_4 : decode cX11_settled 4 = .ok (.aload_n 0, 1) := by decide +kernel
theorem dX11_settled_5 : decode cX11_settled 5 = .ok (.iconst 0, 1) := by decide +kernel
theorem dX11_settled_6 : decode cX11_settled 6 = .ok (.bipush 55, 2) := by decide +kernel
theorem dX11_settled_8 : decode cX11_settled 8 = .ok (.invokevirtual 249, 3) := by decide +kernel
theorem dX11_settled_11 : decode cX11_settled 11 = .ok (.iconst 0, 1) := by decide +kernel
theorem dX11_settled_12 : decode cX11_settled 12 = .ok (.istore_n 1, 1) := by decide +kernel
theorem dX11_settled_13 : decode cX11_settled 13 = .ok (.iload_n 1, 1) := by decide +kernel
theorem dX11_settled_14 : decode cX11_settled 14 = .ok (.sipush 200, 3) := by decide +kernel
theorem dX11_settled_17 : decode cX11_settled 17 = .ok (.if_icmp .gt 19, 3) := by decide +kernel
theorem dX11_settled_20 : decode cX11_settled 20 = .ok (.aload_n 0, 1) := by decide +kernel
theorem dX11_settled_21 : decode cX11_settled 21 = .ok (.iconst 0, 1) := by decide +kernel
theorem dX11_settled_22 : decode cX11_settled 22 = .ok (.invokevirtual 253, 3) := by decide +kernel
theorem dX11_settled_25 : decode cX11_settled 25 = .ok (.ifCond .ne 5, 3) := by decide +kernel
theorem dX11_settled_28 : decode cX11_settled 28 = .ok (.iload_n 1, 1) := by decide +kernel
theorem dX11_settled_29 : decode cX11_settled 29 = .ok (.ireturn, 1) := by decide +kernel
theorem dX11_settled_30 : decode cX11_settled 30 = .ok (.iinc 1 1, 3) := by decide +kernel
theorem dX11_settled_33 : decode cX11_settled 33 = .ok (.goto (-20), 3) := by decide +kernel
theorem dX11_settled_36 : decode cX11_settled 36 = .ok (.iconst (-1), 1) := by decide +kernel
theorem dX11_settled_37 : decode cX11_settled 37 = .ok (.ireturn, 1) := by decide +kernel
theorem dX11_isCalm_0 : decode cX11_isCalm 0 = .ok (.iconst 1, 1) := by decide +kernel
theorem dX11_isCalm_1 : decode cX11_isCalm 1 = .ok (.istore_n 1, 1) := by decide +kernel
theorem dX11_isCalm_2 : decode cX11_isCalm 2 = .ok (.iconst 0, 1) := by decide +kernel
theorem dX11_isCalm_3 : decode cX11_isCalm 3 = .ok (.istore_n 2, 1) := by decide +kernel
theorem dX11_isCalm_4 : decode cX11_isCalm 4 = .ok (.iload_n 2, 1) := by decide +kernel
theorem dX11_isCalm_5 : decode cX11_isCalm 5 = .ok (.aload_n 0, 1) := by decide +kernel
theorem dX11_isCalm_6 : decode cX11_isCalm 6 = .ok (.getfield 73, 3) := by decide +kernel
theorem dX11_isCalm_9 : decode cX11_isCalm 9 = .ok (.if_icmp .ge 33, 3) := by decide +kernel
theorem dX11_isCalm_12 : decode cX11_isCalm 12 = .ok (.iload_n 1, 1) := by decide +kernel
theorem dX11_isCalm_13 : decode cX11_isCalm 13 = .ok (.ifCond .eq 21, 3) := by decide +kernel
theorem dX11_isCalm_16 : decode cX11_isCalm 16 = .ok (.aload_n 0, 1) := by decide +kernel
theorem dX11_isCalm_17 : decode cX11_isCalm 17 = .ok (.bipush 55, 2) := by decide +kernel
theorem dX11_isCalm_19 : decode cX11_isCalm 19 = .ok (.iload_n 2, 1) := by decide +kernel
theorem dX11_isCalm_20 : decode cX11_isCalm 20 = .ok (.invokevirtual 197, 3) := by decide +kernel
theorem dX11_isCalm_23 : decode cX11_isCalm 23 = .ok (.aload_n 0, 1) := by decide +kernel
theorem dX11_isCalm_24 : decode cX11_isCalm 24 = .ok (.getfield 166, 3) := by decide +kernel
theorem dX11_isCalm_27 : decode cX11_isCalm 27 = .ok (.if_icmp .eq 7, 3) := by decide +kernel
theorem dX11_isCalm_30 : decode cX11_isCalm 30 = .ok (.iconst 1, 1) := by decide +kernel
theorem dX11_isCalm_31 : decode cX11_isCalm 31 = .ok (.goto 4, 3) := by decide +kernel
theorem dX11_isCalm_34 : decode cX11_isCalm 34 = .ok (.iconst 0, 1) := by decide +kernel
theorem dX11_isCalm_35 : decode cX11_isCalm 35 = .ok (.istore_n 1, 1) := by decide +kernel
theorem dX11_isCalm_36 : decode cX11_isCalm 36 = .ok (.iinc 2 1, 3) := by decide +kernel
theorem dX11_isCalm_39 : decode cX11_isCalm 39 = .ok (.goto (-35), 3) := by decide +kernel
theorem dX11_isCalm_42 : decode cX11_isCalm 42 = .ok (.iload_n 1, 1) := by decide +kernel
theorem dX11_isCalm_43 : decode cX11_isCalm 43 = .ok (.ireturn, 1) := by decide +kernel
theorem dX11_awake_0 : decode cX11_awake 0 = .ok (.iload_n 1, 1) := by decide +kernel
theorem dX11_awake_1 : decode cX11_awake 1 = .ok (.i2l, 1) := by decide +kernel
theorem dX11_awake_2 : decode cX11_awake 2 = .ok (.lconst 0, 1) := by decide +kernel
theorem dX11_awake_3 : decode cX11_awake 3 = .ok (.ldc2_w 256, 3) := by decide +kernel
theorem dX11_awake_6 : decode cX11_awake 6 = .ok (.invokestatic 76, 3) := by decide +kernel
theorem dX11_awake_9 : decode cX11_awake 9 = .ok (.ifCond .eq 13, 3) := by decide +kernel
theorem dX11_awake_12 : decode cX11_awake 12 = .ok (.iload_n 2, 1) := by decide +kernel
theorem dX11_awake_13 : decode cX11_awake 13 = .ok (.i2l, 1) := by decide +kernel
theorem dX11_awake_14 : decode cX11_awake 14 = .ok (.lconst 0, 1) := by decide +kernel
theorem dX11_awake_15 : decode cX11_awake 15 = .ok (.lconst 1, 1) := by decide +kernel
theorem dX11_awake_16 : decode cX11_awake 16 = .ok (.invokestatic 76, 3) := by decide +kernel
theorem dX11_awake_19 : decode cX11_awake 19 = .ok (.ifCond .ne 6, 3) := by decide +kernel
theorem dX11_awake_22 : decode cX11_awake 22 = .ok (.ldc 88, 2) := by decide +kernel
theorem dX11_awake_24 : decode cX11_awake 24 = .ok (.ireturn, 1) := by decide +kernel
theorem dX11_awake_25 : decode cX11_awake 25 = .ok (.aload_n 0, 1) := by decide +kernel
theorem dX11_awake_26 : decode cX11_awake 26 = .ok (.invokevirtual 246, 3) := by decide +kernel
theorem dX11_awake_29 : decode cX11_awake 29 = .ok (.iconst (-1), 1) := by decide +kernel
theorem dX11_awake_30 : decode cX11_awake 30 = .ok (.istore_n 3, 1) := by decide +kernel
theorem dX11_awake_31 : decode cX11_awake 31 = .ok (.iconst 0, 1) := by decide +kernel
theorem dX11_awake_32 : decode cX11_awake 32 = .ok (.istore 4, 2) := by decide +kernel
theorem dX11_awake_34 : decode cX11_awake 34 = .ok (.iload 4, 2) := by decide +kernel
theorem dX11_awake_36 : decode cX11_awake 36 = .ok (.iconst 1, 1) := by decide +kernel
theorem dX11_awake_37 : decode cX11_awake 37 = .ok (.aload_n 0, 1) := by decide +kernel
theorem dX11_awake_38 : decode cX11_awake 38 = .ok (.getfield 73, 3) := by decide +kernel
theorem dX11_awake_41 : decode cX11_awake 41 = .ok (.ishl, 1) := by decide +kernel
theorem dX11_awake_42 : decode cX11_awake 42 = .ok (.if_icmp .ge 72, 3) := by decide +kernel
theorem dX11_awake_45 : decode cX11_awake 45 = .ok (.iload 4, 2) := by decide +kernel
theorem dX11_awake_47 : decode cX11_awake 47 = .ok (.aload_n 0, 1) := by decide +kernel
theorem dX11_awake_48 : decode cX11_awake 48 = .ok (.getfield 7, 3) := by decide +kernel
theorem dX11_awake_51 : decode cX11_awake 51 = .ok (.bipush 51, 2) := by decide +kernel
theorem dX11_awake_53 : decode cX11_awake 53 = .ok (.iaload, 1) := by decide +kernel
theorem dX11_awake_54 : decode cX11_awake 54 = .ok (.iand, 1) := by decide +kernel
theorem dX11_awake_55 : decode cX11_awake 55 = .ok (.ifCond .ne 24, 3) := by decide +kernel
theorem dX11_awake_58 : decode cX11_awake 58 = .ok (.iload_n 3, 1) := by decide +kernel
theorem dX11_awake_59 : decode cX11_awake 59 = .ok (.iconst (-1), 1) := by decide +kernel
theorem dX11_awake_60 : decode cX11_awake 60 = .ok (.if_icmp .eq 15, 3) := by decide +kernel
theorem dX11_awake_63 : decode cX11_awake 63 = .ok (.iload 4, 2) := by decide +kernel
theorem dX11_awake_65 : decode cX11_awake 65 = .ok (.invokestatic 261, 3) := by decide +kernel
theorem dX11_awake_68 : decode cX11_awake 68 = .ok (.iload_n 3, 1) := by decide +kernel
theorem dX11_awake_69 : decode cX11_awake 69 = .ok (.invokestatic 261, 3) := by decide +kernel
theorem dX11_awake_72 : decode cX11_awake 72 = .ok (.if_icmp .ge 7, 3) := by decide +kernel
theorem dX11_awake_75 : decode cX11_awake 75 = .ok (.iconst 1, 1) := by decide +kernel
theorem dX11_awake_76 : decode cX11_awake 76 = .ok (.goto 4, 3) := by decide +kernel
theorem dX11_awake_79 : decode cX11_awake 79 = .ok (.iconst 0, 1) := by decide +kernel
theorem dX11_awake_80 : decode cX11_awake 80 = .ok (.istore 5, 2) := by decide +kernel
theorem dX11_awake_82 : decode cX11_awake 82 = .ok (.iload 5, 2) := by decide +kernel
theorem dX11_awake_84 : decode cX11_awake 84 = .ok (.ifCond .eq 24, 3) := by decide +kernel
theorem dX11_awake_87 : decode cX11_awake 87 = .ok (.aload_n 0, 1) := by decide +kernel
theorem dX11_awake_88 : decode cX11_awake 88 = .ok (.iload_n 1, 1) := by decide +kernel
theorem dX11_awake_89 : decode cX11_awake 89 = .ok (.iload 4, 2) := by decide +kernel
theorem dX11_awake_91 : decode cX11_awake 91 = .ok (.invokevirtual 258, 3) := by decide +kernel
theorem dX11_awake_94 : decode cX11_awake 94 = .ok (.aload_n 0, 1) := by decide +kernel
theorem dX11_awake_95 : decode cX11_awake 95 = .ok (.invokevirtual 264, 3) := by decide +kernel
theorem dX11_awake_98 : decode cX11_awake 98 = .ok (.ifCond .eq 8, 3) := by decide +kernel
theorem dX11_awake_101 : decode cX11_awake 101 = .ok (.iload 4, 2) := by decide +kernel
theorem dX11_awake_103 : decode cX11_awake 103 = .ok (.goto 4, 3) := by decide +kernel
theorem dX11_awake_106 : decode cX11_awake 106 = .ok (.iload_n 3, 1) := by decide +kernel
theorem dX11_awake_107 : decode cX11_awake 107 = .ok (.istore_n 3, 1) := by decide +kernel
theorem dX11_awake_108 : decode cX11_awake 108 = .ok (.iinc 4 1, 3) := by decide +kernel
theorem dX11_awake_111 : decode cX11_awake 111 = .ok (.goto (-77), 3) := by decide +kernel
theorem dX11_awake_114 : decode cX11_awake 114 = .ok (.iload_n 3, 1) := by decide +kernel
theorem dX11_awake_115 : decode cX11_awake 115 = .ok (.iconst (-1), 1) := by decide +kernel
theorem dX11_awake_116 : decode cX11_awake 116 = .ok (.if_icmp .eq 8, 3) := by decide +kernel
theorem dX11_awake_119 : decode cX11_awake 119 = .ok (.iload_n 2, 1) := by decide +kernel
theorem dX11_awake_120 : decode cX11_awake 120 = .ok (.iconst 1, 1) := by decide +kernel
theorem dX11_awake_121 : decode cX11_awake 121 = .ok (.if_icmp .ne 7, 3) := by decide +kernel
theorem dX11_awake_124 : decode cX11_awake 124 = .ok (.iload_n 3, 1) := by decide +kernel
theorem dX11_awake_125 : decode cX11_awake 125 = .ok (.goto 7, 3) := by decide +kernel
theorem dX11_awake_128 : decode cX11_awake 128 = .ok (.iload_n 3, 1) := by decide +kernel
theorem dX11_awake_129 : decode cX11_awake 129 = .ok (.invokestatic 261, 3) := by decide +kernel
theorem dX11_awake_132 : decode cX11_awake 132 = .ok (.ireturn, 1) := by decide +kernel
theorem dX11_bite_0 : decode cX11_bite 0 = .ok (.aload_n 0, 1) := by decide +kernel
theorem dX11_bite_1 : decode cX11_bite 1 = .ok (.iload_n 1, 1) := by decide +kernel
theorem dX11_bite_2 : decode cX11_bite 2 = .ok (.invokevirtual 189, 3) := by decide +kernel
theorem dX11_bite_5 : decode cX11_bite 5 = .ok (.ifCond .ne 6, 3) := by decide +kernel
theorem dX11_bite_8 : decode cX11_bite 8 = .ok (.ldc 192, 2) := by decide +kernel
theorem dX11_bite_10 : decode cX11_bite 10 = .ok (.ireturn, 1) := by decide +kernel
theorem dX11_bite_11 : decode cX11_bite 11 = .ok (.aload_n 0, 1) := by decide +kernel
theorem dX11_bite_12 : decode cX11_bite 12 = .ok (.getfield 169, 3) := by decide +kernel
theorem dX11_bite_15 : decode cX11_bite 15 = .ok (.bipush 8, 2) := by decide +kernel
theorem dX11_bite_17 : decode cX11_bite 17 = .ok (.if_icmp .ne 6, 3) := by decide +kernel
theorem dX11_bite_20 : decode cX11_bite 20 = .ok (.ldc 92, 2) := by decide +kernel
theorem dX11_bite_22 : decode cX11_bite 22 = .ok (.ireturn, 1) := by decide +kernel
theorem dX11_bite_23 : decode cX11_bite 23 = .ok (.aload_n 0, 1) := by decide +kernel
theorem dX11_bite_24 : decode cX11_bite 24 = .ok (.getfield 48, 3) := by decide +kernel
theorem dX11_bite_27 : decode cX11_bite 27 = .ok (.aload_n 0, 1) := by decide +kernel
theorem dX11_bite_28 : decode cX11_bite 28 = .ok (.getfield 169, 3) := by decide +kernel
theorem dX11_bite_31 : decode cX11_bite 31 = .ok (.iload_n 1, 1) := by decide +kernel
theorem dX11_bite_32 : decode cX11_bite 32 = .ok (.iastore, 1) := by decide +kernel
theorem dX11_bite_33 : decode cX11_bite 33 = .ok (.aload_n 0, 1) := by decide +kernel
theorem dX11_bite_34 : decode cX11_bite 34 = .ok (.dup, 1) := by decide +kernel
theorem dX11_bite_35 : decode cX11_bite 35 = .ok (.getfield 169, 3) := by decide +kernel
theorem dX11_bite_38 : decode cX11_bite 38 = .ok (.iconst 1, 1) := by decide +kernel
theorem dX11_bite_39 : decode cX11_bite 39 = .ok (.iadd, 1) := by decide +kernel
theorem dX11_bite_40 : decode cX11_bite 40 = .ok (.putfield 169, 3) := by decide +kernel
theorem dX11_bite_43 : decode cX11_bite 43 = .ok (.aload_n 0, 1) := by decide +kernel
theorem dX11_bite_44 : decode cX11_bite 44 = .ok (.getfield 169, 3) := by decide +kernel
theorem dX11_bite_47 : decode cX11_bite 47 = .ok (.ireturn, 1) := by decide +kernel
theorem dX11_mayBe_0 : decode cX11_mayBe 0 = .ok (.iconst 0, 1) := by decide +kernel
theorem dX11_mayBe_1 : decode cX11_mayBe 1 = .ok (.istore_n 1, 1) := by decide +kernel
theorem dX11_mayBe_2 : decode cX11_mayBe 2 = .ok (.iconst 0, 1) := by decide +kernel
theorem dX11_mayBe_3 : decode cX11_mayBe 3 = .ok (.istore_n 2, 1) := by decide +kernel
theorem dX11_mayBe_4 : decode cX11_mayBe 4 = .ok (.iload_n 2, 1) := by decide +kernel
theorem dX11_mayBe_5 : decode cX11_mayBe 5 = .ok (.aload_n 0, 1) := by decide +kernel
theorem dX11_mayBe_6 : decode cX11_mayBe 6 = .ok (.getfield 73, 3) := by decide +kernel
theorem dX11_mayBe_9 : decode cX11_mayBe 9 = .ok (.if_icmp .ge 69, 3) := by decide +kernel
theorem dX11_mayBe_12 : decode cX11_mayBe 12 = .ok (.iconst 1, 1) := by decide +kernel
theorem dX11_mayBe_13 : decode cX11_mayBe 13 = .ok (.istore_n 3, 1) := by decide +kernel
theorem dX11_mayBe_14 : decode cX11_mayBe 14 = .ok (.iconst 0, 1) := by decide +kernel
theorem dX11_mayBe_15 : decode cX11_mayBe 15 = .ok (.istore 4, 2) := by decide +kernel
theorem dX11_mayBe_17 : decode cX11_mayBe 17 = .ok (.iload 4, 2) := by decide +kernel
theorem dX11_mayBe_19 : decode cX11_mayBe 19 = .ok (.aload_n 0, 1) := by decide +kernel
theorem dX11_mayBe_20 : decode cX11_mayBe 20 = .ok (.getfield 169, 3) := by decide +kernel
theorem dX11_mayBe_23 : decode cX11_mayBe 23 = .ok (.if_icmp .ge 35, 3) := by decide +kernel
theorem dX11_mayBe_26 : decode cX11_mayBe 26 = .ok (.iload_n 3, 1) := by decide +kernel
theorem dX11_mayBe_27 : decode cX11_mayBe 27 = .ok (.ifCond .eq 23, 3) := by decide +kernel
theorem dX11_mayBe_30 : decode cX11_mayBe 30 = .ok (.aload_n 0, 1) := by decide +kernel
theorem dX11_mayBe_31 : decode cX11_mayBe 31 = .ok (.iconst 0, 1) := by decide +kernel
theorem dX11_mayBe_32 : decode cX11_mayBe 32 = .ok (.iload_n 2, 1) := by decide +kernel
theorem dX11_mayBe_33 : decode cX11_mayBe 33 = .ok (.aload_n 0, 1) := by decide +kernel
theorem dX11_mayBe_34 : decode cX11_mayBe 34 = .ok (.getfield 48, 3) := by decide +kernel
theorem dX11_mayBe_37 : decode cX11_mayBe 37 = .ok (.iload 4, 2) := by decide +kernel
theorem dX11_mayBe_39 : decode cX11_mayBe 39 = .ok (.iaload, 1) := by decide +kernel
theorem dX11_mayBe_40 : decode cX11_mayBe 40 = .ok (.invokevirtual 182, 3) := by decide +kernel
theorem dX11_mayBe_43 : decode cX11_mayBe 43 = .ok (.ifCond .le 7, 3) := by decide +kernel
theorem dX11_mayBe_46 : decode cX11_mayBe 46 = .ok (.iconst 1, 1) := by decide +kernel
theorem dX11_mayBe_47 : decode cX11_mayBe 47 = .ok (.goto 4, 3) := by decide +kernel
theorem dX11_mayBe_50 : decode cX11_mayBe 50 = .ok (.iconst 0, 1) := by decide +kernel
theorem dX11_mayBe_51 : decode cX11_mayBe 51 = .ok (.istore_n 3, 1) := by decide +kernel
theorem dX11_mayBe_52 : decode cX11_mayBe 52 = .ok (.iinc 4 1, 3) := by decide +kernel
theorem dX11_mayBe_55 : decode cX11_mayBe 55 = .ok (.goto (-38), 3) := by decide +kernel
theorem dX11_mayBe_58 : decode cX11_mayBe 58 = .ok (.iload_n 1, 1) := by decide +kernel
theorem dX11_mayBe_59 : decode cX11_mayBe 59 = .ok (.iload_n 3, 1) := by decide +kernel
theorem dX11_mayBe_60 : decode cX11_mayBe 60 = .ok (.ifCond .eq 9, 3) := by decide +kernel
theorem dX11_mayBe_63 : decode cX11_mayBe 63 = .ok (.iconst 1, 1) := by decide +kernel
theorem dX11_mayBe_64 : decode cX11_mayBe 64 = .ok (.iload_n 2, 1) := by decide +kernel
theorem dX11_mayBe_65 : decode cX11_mayBe 65 = .ok (.ishl, 1) := by decide +kernel
theorem dX11_mayBe_66 : decode cX11_mayBe 66 = .ok (.goto 4, 3) := by decide +kernel
theorem dX11_mayBe_69 : decode cX11_mayBe 69 = .ok (.iconst 0, 1) := by decide +kernel
theorem dX11_mayBe_70 : decode cX11_mayBe 70 = .ok (.ior, 1) := by decide +kernel
theorem dX11_mayBe_71 : decode cX11_mayBe 71 = .ok (.istore_n 1, 1) := by decide +kernel
theorem dX11_mayBe_72 : decode cX11_mayBe 72 = .ok (.iinc 2 1, 3) := by decide +kernel
theorem dX11_mayBe_75 : decode cX11_mayBe 75 = .ok (.goto (-71), 3) := by decide +kernel
theorem dX11_mayBe_78 : decode cX11_mayBe 78 = .ok (.iload_n 1, 1) := by decide +kernel
theorem dX11_mayBe_79 : decode cX11_mayBe 79 = .ok (.ireturn, 1) := by decide +kernel
theorem dX11_partOf_0 : decode cX11_partOf 0 = .ok (.ldc2_w 267, 3) := by decide +kernel
theorem dX11_partOf_3 : decode cX11_partOf 3 = .ok (.lstore_n 2, 1) := by decide +kernel
theorem dX11_partOf_4 : decode cX11_partOf 4 = .ok (.iconst 0, 1) := by decide +kernel
theorem dX11_partOf_5 : decode cX11_partOf 5 = .ok (.istore 4, 2) := by decide +kernel
theorem dX11_partOf_7 : decode cX11_partOf 7 = .ok (.iload 4, 2) := by decide +kernel
theorem dX11_partOf_9 : decode cX11_partOf 9 = .ok (.aload_n 0, 1) := by decide +kernel
theorem dX11_partOf_10 : decode cX11_partOf 10 = .ok (.getfield 169, 3) := by decide +kernel
theorem dX11_partOf_13 : decode cX11_partOf 13 = .ok (.if_icmp .ge 34, 3) := by decide +kernel
theorem dX11_partOf_16 : decode cX11_partOf 16 = .ok (.lload_n 2, 1) := by decide +kernel
theorem dX11_partOf_17 : decode cX11_partOf 17 = .ok (.aload_n 0, 1) := by decide +kernel
theorem dX11_partOf_18 : decode cX11_partOf 18 = .ok (.iconst 0, 1) := by decide +kernel
theorem dX11_partOf_19 : decode cX11_partOf 19 = .ok (.iload_n 1, 1) := by decide +kernel
theorem dX11_partOf_20 : decode cX11_partOf 20 = .ok (.aload_n 0, 1) := by decide +kernel
theorem dX11_partOf_21 : decode cX11_partOf 21 = .ok (.getfield 48, 3) := by decide +kernel
theorem dX11_partOf_24 : decode cX11_partOf 24 = .ok (.iload 4, 2) := by decide +kernel
theorem dX11_partOf_26 : decode cX11_partOf 26 = .ok (.iaload, 1) := by decide +kernel
theorem dX11_partOf_27 : decode cX11_partOf 27 = .ok (.invokevirtual 182, 3) := by decide +kernel
theorem dX11_partOf_30 : decode cX11_partOf 30 = .ok (.i2l, 1) := by decide +kernel
theorem dX11_partOf_31 : decode cX11_partOf 31 = .ok (.lmul, 1) := by decide +kernel
theorem dX11_partOf_32 : decode cX11_partOf 32 = .ok (.aload_n 0, 1) := by decide +kernel
theorem dX11_partOf_33 : decode cX11_partOf 33 = .ok (.iconst 0, 1) := by decide +kernel
theorem dX11_partOf_34 : decode cX11_partOf 34 = .ok (.iload_n 1, 1) := by decide +kernel
theorem dX11_partOf_35 : decode cX11_partOf 35 = .ok (.invokevirtual 193, 3) := by decide +kernel
theorem dX11_partOf_38 : decode cX11_partOf 38 = .ok (.i2l, 1) := by decide +kernel
theorem dX11_partOf_39 : decode cX11_partOf 39 = .ok (.ldiv, 1) := by decide +kernel
theorem dX11_partOf_40 : decode cX11_partOf 40 = .ok (.lstore_n 2, 1) := by decide +kernel
theorem dX11_partOf_41 : decode cX11_partOf 41 = .ok (.iinc 4 1, 3) := by decide +kernel
theorem dX11_partOf_44 : decode cX11_partOf 44 = .ok (.goto (-37), 3) := by decide +kernel
theorem dX11_partOf_47 : decode cX11_partOf 47 = .ok (.lload_n 2, 1) := by decide +kernel
theorem dX11_partOf_48 : decode cX11_partOf 48 = .ok (.lreturn, 1) := by decide +kernel
theorem dX11_whose_0 : decode cX11_whose 0 = .ok (.iconst (-1), 1) := by decide +kernel
theorem dX11_whose_1 : decode cX11_whose 1 = .ok (.istore_n 1, 1) := by decide +kernel
theorem dX11_whose_2 : decode cX11_whose 2 = .ok (.lconst 0, 1) := by decide +kernel
theorem dX11_whose_3 : decode cX11_whose 3 = .ok (.lstore_n 2, 1) := by decide +kernel
theorem dX11_whose_4 : decode cX11_whose 4 = .ok (.iconst 0, 1) := by decide +kernel
theorem dX11_whose_5 : decode cX11_whose 5 = .ok (.istore 4, 2) := by decide +kernel
theorem dX11_whose_7 : decode cX11_whose 7 = .ok (.iload 4, 2) := by decide +kernel
theorem dX11_whose_9 : decode cX11_whose 9 = .ok (.aload_n 0, 1) := by decide +kernel
theorem dX11_whose_10 : decode cX11_whose 10 = .ok (.getfield 73, 3) := by decide +kernel
theorem dX11_whose_13 : decode cX11_whose 13 = .ok (.if_icmp .ge 45, 3) := by decide +kernel
theorem dX11_whose_16 : decode cX11_whose 16 = .ok (.aload_n 0, 1) := by decide +kernel
theorem dX11_whose_17 : decode cX11_whose 17 = .ok (.iload 4, 2) := by decide +kernel
theorem dX11_whose_19 : decode cX11_whose 19 = .ok (.invokevirtual 269, 3) := by decide +kernel
theorem dX11_whose_22 : decode cX11_whose 22 = .ok (.lstore 5, 2) := by decide +kernel
theorem dX11_whose_24 : decode cX11_whose 24 = .ok (.lload 5, 2) := by decide +kernel
theorem dX11_whose_26 : decode cX11_whose 26 = .ok (.lload_n 2, 1) := by decide +kernel
theorem dX11_whose_27 : decode cX11_whose 27 = .ok (.lcmp, 1) := by decide +kernel
theorem dX11_whose_28 : decode cX11_whose 28 = .ok (.ifCond .le 8, 3) := by decide +kernel
theorem dX11_whose_31 : decode cX11_whose 31 = .ok (.iload 4, 2) := by decide +kernel
theorem dX11_whose_33 : decode cX11_whose 33 = .ok (.goto 4, 3) := by decide +kernel
theorem dX11_whose_36 : decode cX11_whose 36 = .ok (.iload_n 1, 1) := by decide +kernel
theorem dX11_whose_37 : decode cX11_whose 37 = .ok (.istore_n 1, 1) := by decide +kernel
theorem dX11_whose_38 : decode cX11_whose 38 = .ok (.lload 5, 2) := by decide +kernel
theorem dX11_whose_40 : decode cX11_whose 40 = .ok (.lload_n 2, 1) := by decide +kernel
theorem dX11_whose_41 : decode cX11_whose 41 = .ok (.lcmp, 1) := by decide +kernel
theorem dX11_whose_42 : decode cX11_whose 42 = .ok (.ifCond .le 8, 3) := by decide +kernel
theorem dX11_whose_45 : decode cX11_whose 45 = .ok (.lload 5, 2) := by decide +kernel
theorem dX11_whose_47 : decode cX11_whose 47 = .ok (.goto 4, 3) := by decide +kernel
theorem dX11_whose_50 : decode cX11_whose 50 = .ok (.lload_n 2, 1) := by decide +kernel
theorem dX11_whose_51 : decode cX11_whose 51 = .ok (.lstore_n 2, 1) := by decide +kernel
theorem dX11_whose_52 : decode cX11_whose 52 = .ok (.iinc 4 1, 3) := by decide +kernel
theorem dX11_whose_55 : decode cX11_whose 55 = .ok (.goto (-48), 3) := by decide +kernel
theorem dX11_whose_58 : decode cX11_whose 58 = .ok (.iload_n 1, 1) := by decide +kernel
theorem dX11_whose_59 : decode cX11_whose 59 = .ok (.ireturn, 1) := by decide +kernel
theorem dX11_howLikely_0 : decode cX11_howLikely 0 = .ok (.aload_n 0, 1) := by decide +kernel
theorem dX11_howLikely_1 : decode cX11_howLikely 1 = .ok (.iload_n 1, 1) := by decide +kernel
theorem dX11_howLikely_2 : decode cX11_howLikely 2 = .ok (.invokevirtual 186, 3) := by decide +kernel
theorem dX11_howLikely_5 : decode cX11_howLikely 5 = .ok (.ifCond .ne 6, 3) := by decide +kernel
theorem dX11_howLikely_8 : decode cX11_howLikely 8 = .ok (.ldc 192, 2) := by decide +kernel
theorem dX11_howLikely_10 : decode cX11_howLikely 10 = .ok (.ireturn, 1) := by decide +kernel
theorem dX11_howLikely_11 : decode cX11_howLikely 11 = .ok (.lconst 0, 1) := by decide +kernel
theorem dX11_howLikely_12 : decode cX11_howLikely 12 = .ok (.lstore_n 2, 1) := by decide +kernel
theorem dX11_howLikely_13 : decode cX11_howLikely 13 = .ok (.iconst 0, 1) := by decide +kernel
theorem dX11_howLikely_14 : decode cX11_howLikely 14 = .ok (.istore 4, 2) := by decide +kernel
theorem dX11_howLikely_16 : decode cX11_howLikely 16 = .ok (.iload 4, 2) := by decide +kernel
theorem dX11_howLikely_18 : decode cX11_howLikely 18 = .ok (.aload_n 0, 1) := by decide +kernel
theorem dX11_howLikely_19 : decode cX11_howLikely 19 = .ok (.getfield 73, 3) := by decide +kernel
theorem dX11_howLikely_22 : decode cX11_howLikely 22 = .ok (.if_icmp .ge 18, 3) := by decide +kernel
theorem dX11_howLikely_25 : decode cX11_howLikely 25 = .ok (.lload_n 2, 1) := by decide +kernel
theorem dX11_howLikely_26 : decode cX11_howLikely 26 = .ok (.aload_n 0, 1) := by decide +kernel
theorem dX11_howLikely_27 : decode cX11_howLikely 27 = .ok (.iload 4, 2) := by decide +kernel
theorem dX11_howLikely_29 : decode cX11_howLikely 29 = .ok (.invokevirtual 269, 3) := by decide +kernel
theorem dX11_howLikely_32 : decode cX11_howLikely 32 = .ok (.ladd, 1) := by decide +kernel
theorem dX11_howLikely_33 : decode cX11_howLikely 33 = .ok (.lstore_n 2, 1) := by decide +kernel
theorem dX11_howLikely_34 : decode cX11_howLikely 34 = .ok (.iinc 4 1, 3) := by decide +kernel
theorem dX11_howLikely_37 : decode cX11_howLikely 37 = .ok (.goto (-21), 3) := by decide +kernel
theorem dX11_howLikely_40 : decode cX11_howLikely 40 = .ok (.lload_n 2, 1) := by decide +kernel
theorem dX11_howLikely_41 : decode cX11_howLikely 41 = .ok (.lconst 0, 1) := by decide +kernel
theorem dX11_howLikely_42 : decode cX11_howLikely 42 = .ok (.lcmp, 1) := by decide +kernel
theorem dX11_howLikely_43 : decode cX11_howLikely 43 = .ok (.ifCond .ne 7, 3) := by decide +kernel
theorem dX11_howLikely_46 : decode cX11_howLikely 46 = .ok (.iconst 0, 1) := by decide +kernel
theorem dX11_howLikely_47 : decode cX11_howLikely 47 = .ok (.goto 15, 3) := by decide +kernel
theorem dX11_howLikely_50 : decode cX11_howLikely 50 = .ok (.aload_n 0, 1) := by decide +kernel
theorem dX11_howLikely_51 : decode cX11_howLikely 51 = .ok (.iload_n 1, 1) := by decide +kernel
theorem dX11_howLikely_52 : decode cX11_howLikely 52 = .ok (.invokevirtual 269, 3) := by decide +kernel
theorem dX11_howLikely_55 : decode cX11_howLikely 55 = .ok (.ldc2_w 203, 3) := by decide +kernel
theorem dX11_howLikely_58 : decode cX11_howLikely 58 = .ok (.lmul, 1) := by decide +kernel
theorem dX11_howLikely_59 : decode cX11_howLikely 59 = .ok (.lload_n 2, 1) := by decide +kernel
theorem dX11_howLikely_60 : decode cX11_howLikely 60 = .ok (.ldiv, 1) := by decide +kernel
theorem dX11_howLikely_61 : decode cX11_howLikely 61 = .ok (.l2i, 1) := by decide +kernel
theorem dX11_howLikely_62 : decode cX11_howLikely 62 = .ok (.ireturn, 1) := by decide +kernel
theorem dX11_findCrumbs_0 : decode cX11_findCrumbs 0 = .ok (.iconst 0, 1) := by decide +kernel
theorem dX11_findCrumbs_1 : decode cX11_findCrumbs 1 = .ok (.istore_n 1, 1) := by decide +kernel
theorem dX11_findCrumbs_2 : decode cX11_findCrumbs 2 = .ok (.iconst 0, 1) := by decide +kernel
theorem dX11_findCrumbs_3 : decode cX11_findCrumbs 3 = .ok (.istore_n 2, 1) := by decide +kernel
theorem dX11_findCrumbs_4 : decode cX11_findCrumbs 4 = .ok (.iconst 0, 1) := by decide +kernel
theorem dX11_findCrumbs_5 : decode cX11_findCrumbs 5 = .ok (.istore_n 3, 1) := by decide +kernel
theorem dX11_findCrumbs_6 : decode cX11_findCrumbs 6 = .ok (.iconst 0, 1) := by decide +kernel
theorem dX11_findCrumbs_7 : decode cX11_findCrumbs 7 = .ok (.istore 4, 2) := by decide +kernel
theorem dX11_findCrumbs_9 : decode cX11_findCrumbs 9 = .ok (.iload 4, 2) := by decide +kernel
theorem dX11_findCrumbs_11 : decode cX11_findCrumbs 11 = .ok (.bipush 7, 2) := by decide +kernel
theorem dX11_findCrumbs_13 : decode cX11_findCrumbs 13 = .ok (.if_icmp .ge 25, 3) := by decide +kernel
theorem dX11_findCrumbs_16 : decode cX11_findCrumbs 16 = .ok (.aload_n 0, 1) := by decide +kernel
theorem dX11_findCrumbs_17 : decode cX11_findCrumbs 17 = .ok (.getfield 51, 3) := by decide +kernel
theorem dX11_findCrumbs_20 : decode cX11_findCrumbs 20 = .ok (.iload 4, 2) := by decide +kernel
theorem dX11_findCrumbs_22 : decode cX11_findCrumbs 22 = .ok (.iconst (-1), 1) := by decide +kernel
theorem dX11_findCrumbs_23 : decode cX11_findCrumbs 23 = .ok (.iastore, 1) := by decide +kernel
theorem dX11_findCrumbs_24 : decode cX11_findCrumbs 24 = .ok (.aload_n 0, 1) := by decide +kernel
theorem dX11_findCrumbs_25 : decode cX11_findCrumbs 25 = .ok (.getfield 54, 3) := by decide +kernel
theorem dX11_findCrumbs_28 : decode cX11_findCrumbs 28 = .ok (.iload 4, 2) := by decide +kernel
theorem dX11_findCrumbs_30 : decode cX11_findCrumbs 30 = .ok (.iconst (-1), 1) := by decide +kernel
theorem dX11_findCrumbs_31 : decode cX11_findCrumbs 31 = .ok (.iastore, 1) := by decide +kernel
theorem dX11_findCrumbs_32 : decode cX11_findCrumbs 32 = .ok (.iinc 4 1, 3) := by decide +kernel
theorem dX11_findCrumbs_35 : decode cX11_findCrumbs 35 = .ok (.goto (-26), 3) := by decide +kernel
theorem dX11_findCrumbs_38 : decode cX11_findCrumbs 38 = .ok (.iload_n 2, 1) := by decide +kernel
theorem dX11_findCrumbs_39 : decode cX11_findCrumbs 39 = .ok (.ifCond .lt 291, 3) := by decide +kernel
theorem dX11_findCrumbs_42 : decode cX11_findCrumbs 42 = .ok (.iload_n 2, 1) := by decide +kernel
theorem dX11_findCrumbs_43 : decode cX11_findCrumbs 43 = .ok (.aload_n 0, 1) := by decide +kernel
theorem dX11_findCrumbs_44 : decode cX11_findCrumbs 44 = .ok (.getfield 83, 3) := by decide +kernel
theorem dX11_findCrumbs_47 : decode cX11_findCrumbs 47 = .ok (.if_icmp .ne 69, 3) := by decide +kernel
theorem dX11_findCrumbs_50 : decode cX11_findCrumbs 50 = .ok (.iconst 0, 1) := by decide +kernel
theorem dX11_findCrumbs_51 : decode cX11_findCrumbs 51 = .ok (.istore 4, 2) := by decide +kernel
theorem dX11_findCrumbs_53 : decode cX11_findCrumbs 53 = .ok (.iload 4, 2) := by decide +kernel
theorem dX11_findCrumbs_55 : decode cX11_findCrumbs 55 = .ok (.aload_n 0, 1) := by decide +kernel
theorem dX11_findCrumbs_56 : decode cX11_findCrumbs 56 = .ok (.getfield 83, 3) := by decide +kernel
theorem dX11_findCrumbs_59 : decode cX11_findCrumbs 59 = .ok (.if_icmp .ge 48, 3) := by decide +kernel
theorem dX11_findCrumbs_62 : decode cX11_findCrumbs 62 = .ok (.aload_n 0, 1) := by decide +kernel
theorem dX11_findCrumbs_63 : decode cX11_findCrumbs 63 = .ok (.getfield 54, 3) := by decide +kernel
theorem dX11_findCrumbs_66 : decode cX11_findCrumbs 66 = .ok (.iload 4, 2) := by decide +kernel
theorem dX11_findCrumbs_68 : decode cX11_findCrumbs 68 = .ok (.iload_n 1, 1) := by decide +kernel
theorem dX11_findCrumbs_69 : decode cX11_findCrumbs 69 = .ok (.ifCond .eq 20, 3) := by decide +kernel
theorem dX11_findCrumbs_72 : decode cX11_findCrumbs 72 = .ok (.aload_n 0, 1) := by decide +kernel
theorem dX11_findCrumbs_73 : decode cX11_findCrumbs 73 = .ok (.getfield 54, 3) := by decide +kernel
theorem dX11_findCrumbs_76 : decode cX11_findCrumbs 76 = .ok (.iload 4, 2) := by decide +kernel
theorem dX11_findCrumbs_78 : decode cX11_findCrumbs 78 = .ok (.iaload, 1) := by decide +kernel
theorem dX11_findCrumbs_79 : decode cX11_findCrumbs 79 = .ok (.aload_n 0, 1) := by decide +kernel
theorem dX11_findCrumbs_80 : decode cX11_findCrumbs 80 = .ok (.getfield 51, 3) := by decide +kernel
theorem dX11_findCrumbs_83 : decode cX11_findCrumbs 83 = .ok (.iload 4, 2) := by decide +kernel
theorem dX11_findCrumbs_85 : decode cX11_findCrumbs 85 = .ok (.iaload, 1) := by decide +kernel
theorem dX11_findCrumbs_86 : decode cX11_findCrumbs 86 = .ok (.if_icmp .ne 13, 3) := by decide +kernel
theorem dX11_findCrumbs_89 : decode cX11_findCrumbs 89 = .ok (.aload_n 0, 1) := by decide +kernel
theorem dX11_findCrumbs_90 : decode cX11_findCrumbs 90 = .ok (.getfield 51, 3) := by decide +kernel
theorem dX11_findCrumbs_93 : decode cX11_findCrumbs 93 = .ok (.iload 4, 2) := by decide +kernel
theorem dX11_findCrumbs_95 : decode cX11_findCrumbs 95 = .ok (.iaload, 1) := by decide +kernel
theorem dX11_findCrumbs_96 : decode cX11_findCrumbs 96 = .ok (.goto 4, 3) := by decide +kernel
theorem dX11_findCrumbs_99 : decode cX11_findCrumbs 99 = .ok (.iconst (-1), 1) := by decide +kernel
theorem dX11_findCrumbs_100 : decode cX11_findCrumbs 100 = .ok (.iastore, 1) := by decide +kernel
theorem dX11_findCrumbs_101 : decode cX11_findCrumbs 101 = .ok (.iinc 4 1, 3) := by decide +kernel
theorem dX11_findCrumbs_104 : decode cX11_findCrumbs 104 = .ok (.goto (-51), 3) := by decide +kernel
theorem dX11_findCrumbs_107 : decode cX11_findCrumbs 107 = .ok (.iinc 1 1, 3) := by decide +kernel
theorem dX11_findCrumbs_110 : decode cX11_findCrumbs 110 = .ok (.iinc 2 (-1), 3) := by decide +kernel
theorem dX11_findCrumbs_113 : decode cX11_findCrumbs 113 = .ok (.goto (-75), 3) := by decide +kernel
theorem dX11_findCrumbs_116 : decode cX11_findCrumbs 116 = .ok (.aload_n 0, 1) := by decide +kernel
theorem dX11_findCrumbs_117 : decode cX11_findCrumbs 117 = .ok (.iload_n 2, 1) := by decide +kernel
theorem dX11_findCrumbs_118 : decode cX11_findCrumbs 118 = .ok (.invokevirtual 209, 3) := by decide +kernel
theorem dX11_findCrumbs_121 : decode cX11_findCrumbs 121 = .ok (.ifCond .eq 53, 3) := by decide +kernel
theorem dX11_findCrumbs_124 : decode cX11_findCrumbs 124 = .ok (.aload_n 0, 1) := by decide +kernel
theorem dX11_findCrumbs_125 : decode cX11_findCrumbs 125 = .ok (.getfield 51, 3) := by decide +kernel
theorem dX11_findCrumbs_128 : decode cX11_findCrumbs 128 = .ok (.iload_n 2, 1) := by decide +kernel
theorem dX11_findCrumbs_129 : decode cX11_findCrumbs 129 = .ok (.iaload, 1) := by decide +kernel
theorem dX11_findCrumbs_130 : decode cX11_findCrumbs 130 = .ok (.iconst (-1), 1) := by decide +kernel
theorem dX11_findCrumbs_131 : decode cX11_findCrumbs 131 = .ok (.if_icmp .ne 7, 3) := by decide +kernel
theorem dX11_findCrumbs_134 : decode cX11_findCrumbs 134 = .ok (.iconst 1, 1) := by decide +kernel
theorem dX11_findCrumbs_135 : decode cX11_findCrumbs 135 = .ok (.goto 4, 3) := by decide +kernel
theorem dX11_findCrumbs_138 : decode cX11_findCrumbs 138 = .ok (.iconst 0, 1) := by decide +kernel
theorem dX11_findCrumbs_139 : decode cX11_findCrumbs 139 = .ok (.istore 4, 2) := by decide +kernel
theorem dX11_findCrumbs_141 : decode cX11_findCrumbs 141 = .ok (.aload_n 0, 1) := by decide +kernel
theorem dX11_findCrumbs_142 : decode cX11_findCrumbs 142 = .ok (.getfield 51, 3) := by decide +kernel
theorem dX11_findCrumbs_145 : decode cX11_findCrumbs 145 = .ok (.iload_n 2, 1) := by decide +kernel
theorem dX11_findCrumbs_146 : decode cX11_findCrumbs 146 = .ok (.iload 4, 2) := by decide +kernel
theorem dX11_findCrumbs_148 : decode cX11_findCrumbs 148 = .ok (.ifCond .eq 8, 3) := by decide +kernel
theorem dX11_findCrumbs_151 : decode cX11_findCrumbs 151 = .ok (.bipush (-2), 2) := by decide +kernel
theorem dX11_findCrumbs_153 : decode cX11_findCrumbs 153 = .ok (.goto 4, 3) := by decide +kernel
theorem dX11_findCrumbs_156 : decode cX11_findCrumbs 156 = .ok (.iconst (-1), 1) := by decide +kernel
theorem dX11_findCrumbs_157 : decode cX11_findCrumbs 157 = .ok (.iastore, 1) := by decide +kernel
theorem dX11_findCrumbs_158 : decode cX11_findCrumbs 158 = .ok (.iload_n 2, 1) := by decide +kernel
theorem dX11_findCrumbs_159 : decode cX11_findCrumbs 159 = .ok (.iload 4, 2) := by decide +kernel
theorem dX11_findCrumbs_161 : decode cX11_findCrumbs 161 = .ok (.ifCond .eq 7, 3) := by decide +kernel
theorem dX11_findCrumbs_164 : decode cX11_findCrumbs 164 = .ok (.iconst 1, 1) := by decide +kernel
theorem dX11_findCrumbs_165 : decode cX11_findCrumbs 165 = .ok (.goto 4, 3) := by decide +kernel
theorem dX11_findCrumbs_168 : decode cX11_findCrumbs 168 = .ok (.iconst (-1), 1) := by decide +kernel
theorem dX11_findCrumbs_169 : decode cX11_findCrumbs 169 = .ok (.iadd, 1) := by decide +kernel
theorem dX11_findCrumbs_170 : decode cX11_findCrumbs 170 = .ok (.istore_n 2, 1) := by decide +kernel
theorem dX11_findCrumbs_171 : decode cX11_findCrumbs 171 = .ok (.goto (-133), 3) := by decide +kernel
theorem dX11_findCrumbs_174 : decode cX11_findCrumbs 174 = .ok (.iload_n 3, 1) := by decide +kernel
theorem dX11_findCrumbs_175 : decode cX11_findCrumbs 175 = .ok (.aload_n 0, 1) := by decide +kernel
theorem dX11_findCrumbs_176 : decode cX11_findCrumbs 176 = .ok (.getfield 51, 3) := by decide +kernel
theorem dX11_findCrumbs_179 : decode cX11_findCrumbs 179 = .ok (.iload_n 2, 1) := by decide +kernel
theorem dX11_findCrumbs_180 : decode cX11_findCrumbs 180 = .ok (.iaload, 1) := by decide +kernel
theorem dX11_findCrumbs_181 : decode cX11_findCrumbs 181 = .ok (.iconst (-1), 1) := by decide +kernel
theorem dX11_findCrumbs_182 : decode cX11_findCrumbs 182 = .ok (.if_icmp .ne 7, 3) := by decide +kernel
theorem dX11_findCrumbs_185 : decode cX11_findCrumbs 185 = .ok (.iconst (-1), 1) := by decide +kernel
theorem dX11_findCrumbs_186 : decode cX11_findCrumbs 186 = .ok (.goto 13, 3) := by decide +kernel
theorem dX11_findCrumbs_189 : decode cX11_findCrumbs 189 = .ok (.iconst 1, 1) := by decide +kernel
theorem dX11_findCrumbs_190 : decode cX11_findCrumbs 190 = .ok (.aload_n 0, 1) := by decide +kernel
theorem dX11_findCrumbs_191 : decode cX11_findCrumbs 191 = .ok (.getfield 51, 3) := by decide +kernel
theorem dX11_findCrumbs_194 : decode cX11_findCrumbs 194 = .ok (.iload_n 2, 1) := by decide +kernel
theorem dX11_findCrumbs_195 : decode cX11_findCrumbs 195 = .ok (.iaload, 1) := by decide +kernel
theorem dX11_findCrumbs_196 : decode cX11_findCrumbs 196 = .ok (.ishl, 1) := by decide +kernel
theorem dX11_findCrumbs_197 : decode cX11_findCrumbs 197 = .ok (.iconst (-1), 1) := by decide +kernel
theorem dX11_findCrumbs_198 : decode cX11_findCrumbs 198 = .ok (.ixor, 1) := by decide +kernel
theorem dX11_findCrumbs_199 : decode cX11_findCrumbs 199 = .ok (.iand, 1) := by decide +kernel
theorem dX11_findCrumbs_200 : decode cX11_findCrumbs 200 = .ok (.istore_n 3, 1) := by decide +kernel
theorem dX11_findCrumbs_201 : decode cX11_findCrumbs 201 = .ok (.aload_n 0, 1) := by decide +kernel
theorem dX11_findCrumbs_202 : decode cX11_findCrumbs 202 = .ok (.getfield 51, 3) := by decide +kernel
theorem dX11_findCrumbs_205 : decode cX11_findCrumbs 205 = .ok (.iload_n 2, 1) := by decide +kernel
theorem dX11_findCrumbs_206 : decode cX11_findCrumbs 206 = .ok (.iaload, 1) := by decide +kernel
theorem dX11_findCrumbs_207 : decode cX11_findCrumbs 207 = .ok (.iconst 1, 1) := by decide +kernel
theorem dX11_findCrumbs_208 : decode cX11_findCrumbs 208 = .ok (.iadd, 1) := by decide +kernel
theorem dX11_findCrumbs_209 : decode cX11_findCrumbs 209 = .ok (.istore 4, 2) := by decide +kernel
theorem dX11_findCrumbs_211 : decode cX11_findCrumbs 211 = .ok (.iload 4, 2) := by decide +kernel
theorem dX11_findCrumbs_213 : decode cX11_findCrumbs 213 = .ok (.aload_n 0, 1) := by decide +kernel
theorem dX11_findCrumbs_214 : decode cX11_findCrumbs 214 = .ok (.getfield 73, 3) := by decide +kernel
theorem dX11_findCrumbs_217 : decode cX11_findCrumbs 217 = .ok (.if_icmp .ge 48, 3) := by decide +kernel
theorem dX11_findCrumbs_220 : decode cX11_findCrumbs 220 = .ok (.iload_n 3, 1) := by decide +kernel
theorem dX11_findCrumbs_221 : decode cX11_findCrumbs 221 = .ok (.iload 4, 2) := by decide +kernel
theorem dX11_findCrumbs_223 : decode cX11_findCrumbs 223 = .ok (.invokestatic 215, 3) := by decide +kernel
theorem dX11_findCrumbs_226 : decode cX11_findCrumbs 226 = .ok (.ifCond .ne 33, 3) := by decide +kernel
theorem dX11_findCrumbs_229 : decode cX11_findCrumbs 229 = .ok (.iload 4, 2) := by decide +kernel
theorem dX11_findCrumbs_231 : decode cX11_findCrumbs 231 = .ok (.aload_n 0, 1) := by decide +kernel
theorem dX11_findCrumbs_232 : decode cX11_findCrumbs 232 = .ok (.getfield 17, 3) := by decide +kernel
theorem dX11_findCrumbs_235 : decode cX11_findCrumbs 235 = .ok (.iload_n 2, 1) := by decide +kernel
theorem dX11_findCrumbs_236 : decode cX11_findCrumbs 236 = .ok (.iaload, 1) := by decide +kernel
theorem dX11_findCrumbs_237 : decode cX11_findCrumbs 237 = .ok (.if_icmp .eq 22, 3) := by decide +kernel
theorem dX11_findCrumbs_240 : decode cX11_findCrumbs 240 = .ok (.aload_n 0, 1) := by decide +kernel
theorem dX11_findCrumbs_241 : decode cX11_findCrumbs 241 = .ok (.iconst 0, 1) := by decide +kernel
theorem dX11_findCrumbs_242 : decode cX11_findCrumbs 242 = .ok (.iload 4, 2) := by decide +kernel
theorem dX11_findCrumbs_244 : decode cX11_findCrumbs 244 = .ok (.aload_n 0, 1) := by decide +kernel
theorem dX11_findCrumbs_245 : decode cX11_findCrumbs 245 = .ok (.getfield 7, 3) := by decide +kernel
theorem dX11_findCrumbs_248 : decode cX11_findCrumbs 248 = .ok (.bipush 37, 2) := by decide +kernel
theorem dX11_findCrumbs_250 : decode cX11_findCrumbs 250 = .ok (.iload_n 2, 1) := by decide +kernel
theorem dX11_findCrumbs_251 : decode cX11_findCrumbs 251 = .ok (.iadd, 1) := by decide +kernel
theorem dX11_findCrumbs_252 : decode cX11_findCrumbs 252 = .ok (.iaload, 1) := by decide +kernel
theorem dX11_findCrumbs_253 : decode cX11_findCrumbs 253 = .ok (.invokevirtual 182, 3) := by decide +kernel
theorem dX11_findCrumbs_256 : decode cX11_findCrumbs 256 = .ok (.ifCond .ne 9, 3) := by decide +kernel
theorem dX11_findCrumbs_259 : decode cX11_findCrumbs 259 = .ok (.iinc 4 1, 3) := by decide +kernel
theorem dX11_findCrumbs_262 : decode cX11_findCrumbs 262 = .ok (.goto (-51), 3) := by decide +kernel
theorem dX11_findCrumbs_265 : decode cX11_findCrumbs 265 = .ok (.iload 4, 2) := by decide +kernel
theorem dX11_findCrumbs_267 : decode cX11_findCrumbs 267 = .ok (.aload_n 0, 1) := by decide +kernel
theorem dX11_findCrumbs_268 : decode cX11_findCrumbs 268 = .ok (.getfield 73, 3) := by decide +kernel
theorem dX11_findCrumbs_271 : decode cX11_findCrumbs 271 = .ok (.if_icmp .ge 7, 3) := by decide +kernel
theorem dX11_findCrumbs_274 : decode cX11_findCrumbs 274 = .ok (.iconst 1, 1) := by decide +kernel
theorem dX11_findCrumbs_275 : decode cX11_findCrumbs 275 = .ok (.goto 4, 3) := by decide +kernel
theorem dX11_findCrumbs_278 : decode cX11_findCrumbs 278 = .ok (.iconst 0, 1) := by decide +kernel
theorem dX11_findCrumbs_279 : decode cX11_findCrumbs 279 = .ok (.istore 5, 2) := by decide +kernel
theorem dX11_findCrumbs_281 : decode cX11_findCrumbs 281 = .ok (.aload_n 0, 1) := by decide +kernel
theorem dX11_findCrumbs_282 : decode cX11_findCrumbs 282 = .ok (.getfield 51, 3) := by decide +kernel
theorem dX11_findCrumbs_285 : decode cX11_findCrumbs 285 = .ok (.iload_n 2, 1) := by decide +kernel
theorem dX11_findCrumbs_286 : decode cX11_findCrumbs 286 = .ok (.iload 5, 2) := by decide +kernel
theorem dX11_findCrumbs_288 : decode cX11_findCrumbs 288 = .ok (.ifCond .eq 8, 3) := by decide +kernel
theorem dX11_findCrumbs_291 : decode cX11_findCrumbs 291 = .ok (.iload 4, 2) := by decide +kernel
theorem dX11_findCrumbs_293 : decode cX11_findCrumbs 293 = .ok (.goto 4, 3) := by decide +kernel
theorem dX11_findCrumbs_296 : decode cX11_findCrumbs 296 = .ok (.iconst (-1), 1) := by decide +kernel
theorem dX11_findCrumbs_297 : decode cX11_findCrumbs 297 = .ok (.iastore, 1) := by decide +kernel
theorem dX11_findCrumbs_298 : decode cX11_findCrumbs 298 = .ok (.iload_n 3, 1) := by decide +kernel
theorem dX11_findCrumbs_299 : decode cX11_findCrumbs 299 = .ok (.iload 5, 2) := by decide +kernel
theorem dX11_findCrumbs_301 : decode cX11_findCrumbs 301 = .ok (.ifCond .eq 10, 3) := by decide +kernel
theorem dX11_findCrumbs_304 : decode cX11_findCrumbs 304 = .ok (.iconst 1, 1) := by decide +kernel
theorem dX11_findCrumbs_305 : decode cX11_findCrumbs 305 = .ok (.iload 4, 2) := by decide +kernel
theorem dX11_findCrumbs_307 : decode cX11_findCrumbs 307 = .ok (.ishl, 1) := by decide +kernel
theorem dX11_findCrumbs_308 : decode cX11_findCrumbs 308 = .ok (.goto 4, 3) := by decide +kernel
theorem dX11_findCrumbs_311 : decode cX11_findCrumbs 311 = .ok (.iconst 0, 1) := by decide +kernel
theorem dX11_findCrumbs_312 : decode cX11_findCrumbs 312 = .ok (.ior, 1) := by decide +kernel
theorem dX11_findCrumbs_313 : decode cX11_findCrumbs 313 = .ok (.istore_n 3, 1) := by decide +kernel
theorem dX11_findCrumbs_314 : decode cX11_findCrumbs 314 = .ok (.iload_n 2, 1) := by decide +kernel
theorem dX11_findCrumbs_315 : decode cX11_findCrumbs 315 = .ok (.iload 5, 2) := by decide +kernel
theorem dX11_findCrumbs_317 : decode cX11_findCrumbs 317 = .ok (.ifCond .eq 7, 3) := by decide +kernel
theorem dX11_findCrumbs_320 : decode cX11_findCrumbs 320 = .ok (.iconst 1, 1) := by decide +kernel
theorem dX11_findCrumbs_321 : decode cX11_findCrumbs 321 = .ok (.goto 4, 3) := by decide +kernel
theorem dX11_findCrumbs_324 : decode cX11_findCrumbs 324 = .ok (.iconst (-1), 1) := by decide +kernel
theorem dX11_findCrumbs_325 : decode cX11_findCrumbs 325 = .ok (.iadd, 1) := by decide +kernel
theorem dX11_findCrumbs_326 : decode cX11_findCrumbs 326 = .ok (.istore_n 2, 1) := by decide +kernel
theorem dX11_findCrumbs_327 : decode cX11_findCrumbs 327 = .ok (.goto (-289), 3) := by decide +kernel
theorem dX11_findCrumbs_330 : decode cX11_findCrumbs 330 = .ok (.iload_n 1, 1) := by decide +kernel
theorem dX11_findCrumbs_331 : decode cX11_findCrumbs 331 = .ok (.ireturn, 1) := by decide +kernel
theorem dX11_crumbs_0 : decode cX11_crumbs 0 = .ok (.iload_n 1, 1) := by decide +kernel
theorem dX11_crumbs_1 : decode cX11_crumbs 1 = .ok (.iconst (-1), 1) := by decide +kernel
theorem dX11_crumbs_2 : decode cX11_crumbs 2 = .ok (.if_icmp .eq 14, 3) := by decide +kernel
theorem dX11_crumbs_5 : decode cX11_crumbs 5 = .ok (.aload_n 0, 1) := by decide +kernel
theorem dX11_crumbs_6 : decode cX11_crumbs 6 = .ok (.iload_n 1, 1) := by decide +kernel
theorem dX11_crumbs_7 : decode cX11_crumbs 7 = .ok (.invokevirtual 200, 3) := by decide +kernel
theorem dX11_crumbs_10 : decode cX11_crumbs 10 = .ok (.ifCond .ne 6, 3) := by decide +kernel
theorem dX11_crumbs_13 : decode cX11_crumbs 13 = .ok (.ldc 192, 2) := by decide +kernel
theorem dX11_crumbs_15 : decode cX11_crumbs 15 = .ok (.ireturn, 1) := by decide +kernel
theorem dX11_crumbs_16 : decode cX11_crumbs 16 = .ok (.aload_n 0, 1) := by decide +kernel
theorem dX11_crumbs_17 : decode cX11_crumbs 17 = .ok (.invokevirtual 273, 3) := by decide +kernel
theorem dX11_crumbs_20 : decode cX11_crumbs 20 = .ok (.istore_n 2, 1) := by decide +kernel
theorem dX11_crumbs_21 : decode cX11_crumbs 21 = .ok (.iload_n 1, 1) := by decide +kernel
theorem dX11_crumbs_22 : decode cX11_crumbs 22 = .ok (.iconst (-1), 1) := by decide +kernel
theorem dX11_crumbs_23 : decode cX11_crumbs 23 = .ok (.if_icmp .ne 7, 3) := by decide +kernel
theorem dX11_crumbs_26 : decode cX11_crumbs 26 = .ok (.iload_n 2, 1) := by decide +kernel
theorem dX11_crumbs_27 : decode cX11_crumbs 27 = .ok (.goto 25, 3) := by decide +kernel
theorem dX11_crumbs_30 : decode cX11_crumbs 30 = .ok (.iload_n 2, 1) := by decide +kernel
theorem dX11_crumbs_31 : decode cX11_crumbs 31 = .ok (.ifCond .eq 11, 3) := by decide +kernel
theorem dX11_crumbs_34 : decode cX11_crumbs 34 = .ok (.aload_n 0, 1) := by decide +kernel
theorem dX11_crumbs_35 : decode cX11_crumbs 35 = .ok (.iload_n 1, 1) := by decide +kernel
theorem dX11_crumbs_36 : decode cX11_crumbs 36 = .ok (.invokevirtual 209, 3) := by decide +kernel
theorem dX11_crumbs_39 : decode cX11_crumbs 39 = .ok (.ifCond .eq 7, 3) := by decide +kernel
theorem dX11_crumbs_42 : decode cX11_crumbs 42 = .ok (.iconst (-1), 1) := by decide +kernel
theorem dX11_crumbs_43 : decode cX11_crumbs 43 = .ok (.goto 9, 3) := by decide +kernel
theorem dX11_crumbs_46 : decode cX11_crumbs 46 = .ok (.aload_n 0, 1) := by decide +kernel
theorem dX11_crumbs_47 : decode cX11_crumbs 47 = .ok (.getfield 54, 3) := by decide +kernel
theorem dX11_crumbs_50 : decode cX11_crumbs 50 = .ok (.iload_n 1, 1) := by decide +kernel
theorem dX11_crumbs_51 : decode cX11_crumbs 51 = .ok (.iaload, 1) := by decide +kernel
theorem dX11_crumbs_52 : decode cX11_crumbs 52 = .ok (.ireturn, 1) := by decide +kernel
theorem dX11_hire_0 : decode cX11_hire 0 = .ok (.aload_n 0, 1) := by decide +kernel
theorem dX11_hire_1 : decode cX11_hire 1 = .ok (.iload_n 1, 1) := by decide +kernel
theorem dX11_hire_2 : decode cX11_hire 2 = .ok (.invokevirtual 186, 3) := by decide +kernel
theorem dX11_hire_5 : decode cX11_hire 5 = .ok (.ifCond .ne 6, 3) := by decide +kernel
theorem dX11_hire_8 : decode cX11_hire 8 = .ok (.ldc 192, 2) := by decide +kernel
theorem dX11_hire_10 : decode cX11_hire 10 = .ok (.ireturn, 1) := by decide +kernel
theorem dX11_hire_11 : decode cX11_hire 11 = .ok (.iload_n 2, 1) := by decide +kernel
theorem dX11_hire_12 : decode cX11_hire 12 = .ok (.i2l, 1) := by decide +kernel
theorem dX11_hire_13 : decode cX11_hire 13 = .ok (.lconst 0, 1) := by decide +kernel
theorem dX11_hire_14 : decode cX11_hire 14 = .ok (.lconst 1, 1) := by decide +kernel
theorem dX11_hire_15 : decode cX11_hire 15 = .ok (.invokestatic 76, 3) := by decide +kernel
theorem dX11_hire_18 : decode cX11_hire 18 = .ok (.ifCond .ne 6, 3) := by decide +kernel
theorem dX11_hire_21 : decode cX11_hire 21 = .ok (.ldc 88, 2) := by decide +kernel
theorem dX11_hire_23 : decode cX11_hire 23 = .ok (.ireturn, 1) := by decide +kernel
theorem dX11_hire_24 : decode cX11_hire 24 = .ok (.iconst (-1), 1) := by decide +kernel
theorem dX11_hire_25 : decode cX11_hire 25 = .ok (.istore_n 3, 1) := by decide +kernel
theorem dX11_hire_26 : decode cX11_hire 26 = .ok (.iconst 0, 1) := by decide +kernel
theorem dX11_hire_27 : decode cX11_hire 27 = .ok (.istore 4, 2) := by decide +kernel
theorem dX11_hire_29 : decode cX11_hire 29 = .ok (.iconst 0, 1) := by decide +kernel
theorem dX11_hire_30 : decode cX11_hire 30 = .ok (.istore 5, 2) := by decide +kernel
theorem dX11_hire_32 : decode cX11_hire 32 = .ok (.iconst 0, 1) := by decide +kernel
theorem dX11_hire_33 : decode cX11_hire 33 = .ok (.istore 6, 2) := by decide +kernel
theorem dX11_hire_35 : decode cX11_hire 35 = .ok (.iload 6, 2) := by decide +kernel
theorem dX11_hire_37 : decode cX11_hire 37 = .ok (.aload_n 0, 1) := by decide +kernel
theorem dX11_hire_38 : decode cX11_hire 38 = .ok (.getfield 83, 3) := by decide +kernel
theorem dX11_hire_41 : decode cX11_hire 41 = .ok (.if_icmp .ge 100, 3) := by decide +kernel
theorem dX11_hire_44 : decode cX11_hire 44 = .ok (.aload_n 0, 1) := by decide +kernel
theorem dX11_hire_45 : decode cX11_hire 45 = .ok (.iload 6, 2) := by decide +kernel
theorem dX11_hire_47 : decode cX11_hire 47 = .ok (.invokevirtual 209, 3) := by decide +kernel
theorem dX11_hire_50 : decode cX11_hire 50 = .ok (.ifCond .eq 24, 3) := by decide +kernel
theorem dX11_hire_53 : decode cX11_hire 53 = .ok (.aload_n 0, 1) := by decide +kernel
theorem dX11_hire_54 : decode cX11_hire 54 = .ok (.getfield 17, 3) := by decide +kernel
theorem dX11_hire_57 : decode cX11_hire 57 = .ok (.iload 6, 2) := by decide +kernel
theorem dX11_hire_59 : decode cX11_hire 59 = .ok (.iaload, 1) := by decide +kernel
theorem dX11_hire_60 : decode cX11_hire 60 = .ok (.iload_n 1, 1) := by decide +kernel
theorem dX11_hire_61 : decode cX11_hire 61 = .ok (.if_icmp .eq 13, 3) := by decide +kernel
theorem dX11_hire_64 : decode cX11_hire 64 = .ok (.aload_n 0, 1) := by decide +kernel
theorem dX11_hire_65 : decode cX11_hire 65 = .ok (.iload 6, 2) := by decide +kernel
theorem dX11_hire_67 : decode cX11_hire 67 = .ok (.iload_n 1, 1) := by decide +kernel
theorem dX11_hire_68 : decode cX11_hire 68 = .ok (.invokevirtual 206, 3) := by decide +kernel
theorem dX11_hire_71 : decode cX11_hire 71 = .ok (.goto 4, 3) := by decide +kernel
theorem dX11_hire_74 : decode cX11_hire 74 = .ok (.iconst 0, 1) := by decide +kernel
theorem dX11_hire_75 : decode cX11_hire 75 = .ok (.istore 7, 2) := by decide +kernel
theorem dX11_hire_77 : decode cX11_hire 77 = .ok (.iload 7, 2) := by decide +kernel
theorem dX11_hire_79 : decode cX11_hire 79 = .ok (.iload 4, 2) := by decide +kernel
theorem dX11_hire_81 : decode cX11_hire 81 = .ok (.if_icmp .le 8, 3) := by decide +kernel
theorem dX11_hire_84 : decode cX11_hire 84 = .ok (.iload 4, 2) := by decide +kernel
theorem dX11_hire_86 : decode cX11_hire 86 = .ok (.goto 17, 3) := by decide +kernel
theorem dX11_hire_89 : decode cX11_hire 89 = .ok (.iload 7, 2) := by decide +kernel
theorem dX11_hire_91 : decode cX11_hire 91 = .ok (.iload 5, 2) := by decide +kernel
theorem dX11_hire_93 : decode cX11_hire 93 = .ok (.if_icmp .le 8, 3) := by decide +kernel
theorem dX11_hire_96 : decode cX11_hire 96 = .ok (.iload 7, 2) := by decide +kernel
theorem dX11_hire_98 : decode cX11_hire 98 = .ok (.goto 5, 3) := by decide +kernel
theorem dX11_hire_101 : decode cX11_hire 101 = .ok (.iload 5, 2) := by decide +kernel
theorem dX11_hire_103 : decode cX11_hire 103 = .ok (.istore 5, 2) := by decide +kernel
theorem dX11_hire_105 : decode cX11_hire 105 = .ok (.iload 7, 2) := by decide +kernel
theorem dX11_hire_107 : decode cX11_hire 107 = .ok (.iload 4, 2) := by decide +kernel
theorem dX11_hire_109 : decode cX11_hire 109 = .ok (.if_icmp .le 8, 3) := by decide +kernel
theorem dX11_hire_112 : decode cX11_hire 112 = .ok (.iload 6, 2) := by decide +kernel
theorem dX11_hire_114 : decode cX11_hire 114 = .ok (.goto 4, 3) := by decide +kernel
theorem dX11_hire_117 : decode cX11_hire 117 = .ok (.iload_n 3, 1) := by decide +kernel
theorem dX11_hire_118 : decode cX11_hire 118 = .ok (.istore_n 3, 1) := by decide +kernel
theorem dX11_hire_119 : decode cX11_hire 119 = .ok (.iload 7, 2) := by decide +kernel
theorem dX11_hire_121 : decode cX11_hire 121 = .ok (.iload 4, 2) := by decide +kernel
theorem dX11_hire_123 : decode cX11_hire 123 = .ok (.if_icmp .le 8, 3) := by decide +kernel
theorem dX11_hire_126 : decode cX11_hire 126 = .ok (.iload 7, 2) := by decide +kernel
theorem dX11_hire_128 : decode cX11_hire 128 = .ok (.goto 5, 3) := by decide +kernel
theorem dX11_hire_131 : decode cX11_hire 131 = .ok (.iload 4, 2) := by decide +kernel
theorem dX11_hire_133 : decode cX11_hire 133 = .ok (.istore 4, 2) := by decide +kernel
theorem dX11_hire_135 : decode cX11_hire 135 = .ok (.iinc 6 1, 3) := by decide +kernel
theorem dX11_hire_138 : decode cX11_hire 138 = .ok (.goto (-103), 3) := by decide +kernel
theorem dX11_hire_141 : decode cX11_hire 141 = .ok (.iload_n 3, 1) := by decide +kernel
theorem dX11_hire_142 : decode cX11_hire 142 = .ok (.iconst (-1), 1) := by decide +kernel
theorem dX11_hire_143 : decode cX11_hire 143 = .ok (.if_icmp .eq 7, 3) := by decide +kernel
theorem dX11_hire_146 : decode cX11_hire 146 = .ok (.iload_n 2, 1) := by decide +kernel
theorem dX11_hire_147 : decode cX11_hire 147 = .ok (.ifCond .ne 7, 3) := by decide +kernel
theorem dX11_hire_150 : decode cX11_hire 150 = .ok (.iload_n 3, 1) := by decide +kernel
theorem dX11_hire_151 : decode cX11_hire 151 = .ok (.goto 5, 3) := by decide +kernel
theorem dX11_hire_154 : decode cX11_hire 154 = .ok (.iload 5, 2) := by decide +kernel
theorem dX11_hire_156 : decode cX11_hire 156 = .ok (.ireturn, 1) := by decide +kernel
theorem dX11_bread_0 : decode cX11_bread 0 = .ok (.iload_n 1, 1) := by decide +kernel
theorem dX11_bread_1 : decode cX11_bread 1 = .ok (.i2l, 1) := by decide +kernel
theorem dX11_bread_2 : decode cX11_bread 2 = .ok (.lconst 1, 1) := by decide +kernel
theorem dX11_bread_3 : decode cX11_bread 3 = .ok (.ldc2_w 276, 3) := by decide +kernel
theorem dX11_bread_6 : decode cX11_bread 6 = .ok (.invokestatic 76, 3) := by decide +kernel
theorem dX11_bread_9 : decode cX11_bread 9 = .ok (.ifCond .ne 6, 3) := by decide +kernel
theorem dX11_bread_12 : decode cX11_bread 12 = .ok (.ldc 88, 2) := by decide +kernel
theorem dX11_bread_14 : decode cX11_bread 14 = .ok (.ireturn, 1) := by decide +kernel
theorem dX11_bread_15 : decode cX11_bread 15 = .ok (.iconst 0, 1) := by decide +kernel
theorem dX11_bread_16 : decode cX11_bread 16 = .ok (.istore_n 2, 1) := by decide +kernel
theorem dX11_bread_17 : decode cX11_bread 17 = .ok (.iload_n 2, 1) := by decide +kernel
theorem dX11_bread_18 : decode cX11_bread 18 = .ok (.bipush 8, 2) := by decide +kernel
theorem dX11_bread_20 : decode cX11_bread 20 = .ok (.if_icmp .ge 26, 3) := by decide +kernel
theorem dX11_bread_23 : decode cX11_bread 23 = .ok (.aload_n 0, 1) := by decide +kernel
theorem dX11_bread_24 : decode cX11_bread 24 = .ok (.getfield 57, 3) := by decide +kernel
theorem dX11_bread_27 : decode cX11_bread 27 = .ok (.iload_n 2, 1) := by decide +kernel
theorem dX11_bread_28 : decode cX11_bread 28 = .ok (.iload_n 2, 1) := by decide +kernel
theorem dX11_bread_29 : decode cX11_bread 29 = .ok (.ifCond .ne 9, 3) := by decide +kernel
theorem dX11_bread_32 : decode cX11_bread 32 = .ok (.ldc2_w 203, 3) := by decide +kernel
theorem dX11_bread_35 : decode cX11_bread 35 = .ok (.goto 4, 3) := by decide +kernel
theorem dX11_bread_38 : decode cX11_bread 38 = .ok (.lconst 0, 1) := by decide +kernel
theorem dX11_bread_39 : decode cX11_bread 39 = .ok (.lastore, 1) := by decide +kernel
theorem dX11_bread_40 : decode cX11_bread 40 = .ok (.iinc 2 1, 3) := by decide +kernel
theorem dX11_bread_43 : decode cX11_bread 43 = .ok (.goto (-26), 3) := by decide +kernel
theorem dX11_bread_46 : decode cX11_bread 46 = .ok (.iconst 0, 1) := by decide +kernel
theorem dX11_bread_47 : decode cX11_bread 47 = .ok (.istore_n 2, 1) := by decide +kernel
theorem dX11_bread_48 : decode cX11_bread 48 = .ok (.iload_n 2, 1) := by decide +kernel
theorem dX11_bread_49 : decode cX11_bread 49 = .ok (.aload_n 0, 1) := by decide +kernel
theorem dX11_bread_50 : decode cX11_bread 50 = .ok (.getfield 83, 3) := by decide +kernel
theorem dX11_bread_53 : decode cX11_bread 53 = .ok (.if_icmp .ge 104, 3) := by decide +kernel
theorem dX11_bread_56 : decode cX11_bread 56 = .ok (.aload_n 0, 1) := by decide +kernel
theorem dX11_bread_57 : decode cX11_bread 57 = .ok (.getfield 7, 3) := by decide +kernel
theorem dX11_bread_60 : decode cX11_bread 60 = .ok (.bipush 30, 2) := by decide +kernel
theorem dX11_bread_62 : decode cX11_bread 62 = .ok (.iload_n 2, 1) := by decide +kernel
theorem dX11_bread_63 : decode cX11_bread 63 = .ok (.iadd, 1) := by decide +kernel
theorem dX11_bread_64 : decode cX11_bread 64 = .ok (.iaload, 1) := by decide +kernel
theorem dX11_bread_65 : decode cX11_bread 65 = .ok (.istore_n 3, 1) := by decide +kernel
theorem dX11_bread_66 : decode cX11_bread 66 = .ok (.iload_n 3, 1) := by decide +kernel
theorem dX11_bread_67 : decode cX11_bread 67 = .ok (.iconst (-1), 1) := by decide +kernel
theorem dX11_bread_68 : decode cX11_bread 68 = .ok (.if_icmp .eq 83, 3) := by decide +kernel
theorem dX11_bread_71 : decode cX11_bread 71 = .ok (.aload_n 0, 1) := by decide +kernel
theorem dX11_bread_72 : decode cX11_bread 72 = .ok (.iload_n 3, 1) := by decide +kernel
theorem dX11_bread_73 : decode cX11_bread 73 = .ok (.invokevirtual 218, 3) := by decide +kernel
theorem dX11_bread_76 : decode cX11_bread 76 = .ok (.ifCond .ne 75, 3) := by decide +kernel
theorem dX11_bread_79 : decode cX11_bread 79 = .ok (.bipush 6, 2) := by decide +kernel
theorem dX11_bread_81 : decode cX11_bread 81 = .ok (.istore 4, 2) := by decide +kernel
theorem dX11_bread_83 : decode cX11_bread 83 = .ok (.iload 4, 2) := by decide +kernel
theorem dX11_bread_85 : decode cX11_bread 85 = .ok (.ifCond .lt 66, 3) := by decide +kernel
theorem dX11_bread_88 : decode cX11_bread 88 = .ok (.aload_n 0, 1) := by decide +kernel
theorem dX11_bread_89 : decode cX11_bread 89 = .ok (.getfield 57, 3) := by decide +kernel
theorem dX11_bread_92 : decode cX11_bread 92 = .ok (.iload 4, 2) := by decide +kernel
theorem dX11_bread_94 : decode cX11_bread 94 = .ok (.laload, 1) := by decide +kernel
theorem dX11_bread_95 : decode cX11_bread 95 = .ok (.aload_n 0, 1) := by decide +kernel
theorem dX11_bread_96 : decode cX11_bread 96 = .ok (.iconst 0, 1) := by decide +kernel
theorem dX11_bread_97 : decode cX11_bread 97 = .ok (.iload_n 3, 1) := by decide +kernel
theorem dX11_bread_98 : decode cX11_bread 98 = .ok (.aload_n 0, 1) := by decide +kernel
theorem dX11_bread_99 : decode cX11_bread 99 = .ok (.getfield 20, 3) := by decide +kernel
theorem dX11_bread_102 : decode cX11_bread 102 = .ok (.iload_n 2, 1) := by decide +kernel
theorem dX11_bread_103 : decode cX11_bread 103 = .ok (.iaload, 1) := by decide +kernel
theorem dX11_bread_104 : decode cX11_bread 104 = .ok (.invokevirtual 182, 3) := by decide +kernel
theorem dX11_bread_107 : decode cX11_bread 107 = .ok (.i2l, 1) := by decide +kernel
theorem dX11_bread_108 : decode cX11_bread 108 = .ok (.lmul, 1) := by decide +kernel
theorem dX11_bread_109 : decode cX11_bread 109 = .ok (.aload_n 0, 1) := by decide +kernel
theorem dX11_bread_110 : decode cX11_bread 110 = .ok (.iconst 0, 1) := by decide +kernel
theorem dX11_bread_111 : decode cX11_bread 111 = .ok (.iload_n 3, 1) := by decide +kernel
theorem dX11_bread_112 : decode cX11_bread 112 = .ok (.invokevirtual 193, 3) := by decide +kernel
theorem dX11_bread_115 : decode cX11_bread 115 = .ok (.i2l, 1) := by decide +kernel
theorem dX11_bread_116 : decode cX11_bread 116 = .ok (.ldiv, 1) := by decide +kernel
theorem dX11_bread_117 : decode cX11_bread 117 = .ok (.lstore 5, 2) := by decide +kernel
theorem dX11_bread_119 : decode cX11_bread 119 = .ok (.aload_n 0, 1) := by decide +kernel
theorem dX11_bread_120 : decode cX11_bread 120 = .ok (.getfield 57, 3) := by decide +kernel
theorem dX11_bread_123 : decode cX11_bread 123 = .ok (.iload 4, 2) := by decide +kernel
theorem dX11_bread_125 : decode cX11_bread 125 = .ok (.dup2, 1) := by decide +kernel
theorem dX11_bread_126 : decode cX11_bread 126 = .ok (.laload, 1) := by decide +kernel
theorem dX11_bread_127 : decode cX11_bread 127 = .ok (.lload 5, 2) := by decide +kernel
theorem dX11_bread_129 : decode cX11_bread 129 = .ok (.lsub, 1) := by decide +kernel
theorem dX11_bread_130 : decode cX11_bread 130 = .ok (.lastore, 1) := by decide +kernel
theorem dX11_bread_131 : decode cX11_bread 131 = .ok (.aload_n 0, 1) := by decide +kernel
theorem dX11_bread_132 : decode cX11_bread 132 = .ok (.getfield 57, 3) := by decide +kernel
theorem dX11_bread_135 : decode cX11_bread 135 = .ok (.iload 4, 2) := by decide +kernel
theorem dX11_bread_137 : decode cX11_bread 137 = .ok (.iconst 1, 1) := by decide +kernel
theorem dX11_bread_138 : decode cX11_bread 138 = .ok (.iadd, 1) := by decide +kernel
theorem dX11_bread_139 : decode cX11_bread 139 = .ok (.dup2, 1) := by decide +kernel
theorem dX11_bread_140 : decode cX11_bread 140 = .ok (.laload, 1) := by decide +kernel
theorem dX11_bread_141 : decode cX11_bread 141 = .ok (.lload 5, 2) := by decide +kernel
theorem dX11_bread_143 : decode cX11_bread 143 = .ok (.ladd, 1) := by decide +kernel
theorem dX11_bread_144 : decode cX11_bread 144 = .ok (.lastore, 1) := by decide +kernel
theorem dX11_bread_145 : decode cX11_bread 145 = .ok (.iinc 4 (-1), 3) := by decide +kernel
theorem dX11_bread_148 : decode cX11_bread 148 = .ok (.goto (-65), 3) := by decide +kernel
theorem dX11_bread_151 : decode cX11_bread 151 = .ok (.iinc 2 1, 3) := by decide +kernel
theorem dX11_bread_154 : decode cX11_bread 154 = .ok (.goto (-106), 3) := by decide +kernel
theorem dX11_bread_157 : decode cX11_bread 157 = .ok (.lconst 0, 1) := by decide +kernel
theorem dX11_bread_158 : decode cX11_bread 158 = .ok (.lstore_n 2, 1) := by decide +kernel
theorem dX11_bread_159 : decode cX11_bread 159 = .ok (.iload_n 1, 1) := by decide +kernel
theorem dX11_bread_160 : decode cX11_bread 160 = .ok (.istore 4, 2) := by decide +kernel
theorem dX11_bread_162 : decode cX11_bread 162 = .ok (.iload 4, 2) := by decide +kernel
theorem dX11_bread_164 : decode cX11_bread 164 = .ok (.bipush 8, 2) := by decide +kernel
theorem dX11_bread_166 : decode cX11_bread 166 = .ok (.if_icmp .ge 19, 3) := by decide +kernel
theorem dX11_bread_169 : decode cX11_bread 169 = .ok (.lload_n 2, 1) := by decide +kernel
theorem dX11_bread_170 : decode cX11_bread 170 = .ok (.aload_n 0, 1) := by decide +kernel
theorem dX11_bread_171 : decode cX11_bread 171 = .ok (.getfield 57, 3) := by decide +kernel
theorem dX11_bread_174 : decode cX11_bread 174 = .ok (.iload 4, 2) := by decide +kernel
theorem dX11_bread_176 : decode cX11_bread 176 = .ok (.laload, 1) := by decide +kernel
theorem dX11_bread_177 : decode cX11_bread 177 = .ok (.ladd, 1) := by decide +kernel
theorem dX11_bread_178 : decode cX11_bread 178 = .ok (.lstore_n 2, 1) := by decide +kernel
theorem dX11_bread_179 : decode cX11_bread 179 = .ok (.iinc 4 1, 3) := by decide +kernel
theorem dX11_bread_182 : decode cX11_bread 182 = .ok (.goto (-20), 3) := by decide +kernel
theorem dX11_bread_185 : decode cX11_bread 185 = .ok (.lload_n 2, 1) := by decide +kernel
theorem dX11_bread_186 : decode cX11_bread 186 = .ok (.l2i, 1) := by decide +kernel
theorem dX11_bread_187 : decode cX11_bread 187 = .ok (.ireturn, 1) := by decide +kernel
theorem dX11_write_0 : decode cX11_write 0 = .ok (.aload_n 0, 1) := by decide +kernel
theorem dX11_write_1 : decode cX11_write 1 = .ok (.iload_n 1, 1) := by decide +kernel
theorem dX11_write_2 : decode cX11_write 2 = .ok (.invokevirtual 186, 3) := by decide +kernel
theorem dX11_write_5 : decode cX11_write 5 = .ok (.ifCond .eq 11, 3) := by decide +kernel
theorem dX11_write_8 : decode cX11_write 8 = .ok (.aload_n 0, 1) := by decide +kernel
theorem dX11_write_9 : decode cX11_write 9 = .ok (.iload_n 2, 1) := by decide +kernel
theorem dX11_write_10 : decode cX11_write 10 = .ok (.invokevirtual 189, 3) := by decide +kernel
theorem dX11_write_13 : decode cX11_write 13 = .ok (.ifCond .ne 6, 3) := by decide +kernel
theorem dX11_write_16 : decode cX11_write 16 = .ok (.ldc 192, 2) := by decide +kernel
theorem dX11_write_18 : decode cX11_write 18 = .ok (.ireturn, 1) := by decide +kernel
theorem dX11_write_19 : decode cX11_write 19 = .ok (.iload_n 3, 1) := by decide +kernel
theorem dX11_write_20 : decode cX11_write 20 = .ok (.i2l, 1) := by decide +kernel
theorem dX11_write_21 : decode cX11_write 21 = .ok (.lconst 0, 1) := by decide +kernel
theorem dX11_write_22 : decode cX11_write 22 = .ok (.ldc2_w 175, 3) := by decide +kernel
theorem dX11_write_25 : decode cX11_write 25 = .ok (.invokestatic 76, 3) := by decide +kernel
theorem dX11_write_28 : decode cX11_write 28 = .ok (.ifCond .ne 6, 3) := by decide +kernel
theorem dX11_write_31 : decode cX11_write 31 = .ok (.ldc 88, 2) := by decide +kernel
theorem dX11_write_33 : decode cX11_write 33 = .ok (.ireturn, 1) := by decide +kernel
theorem dX11_write_34 : decode cX11_write 34 = .ok (.aload_n 0, 1) := by decide +kernel
theorem dX11_write_35 : decode cX11_write 35 = .ok (.getfield 172, 3) := by decide +kernel
theorem dX11_write_38 : decode cX11_write 38 = .ok (.bipush 15, 2) := by decide +kernel
theorem dX11_write_40 : decode cX11_write 40 = .ok (.if_icmp .ne 6, 3) := by decide +kernel
theorem dX11_write_43 : decode cX11_write 43 = .ok (.ldc 92, 2) := by decide +kernel
theorem dX11_write_45 : decode cX11_write 45 = .ok (.ireturn, 1) := by decide +kernel
theorem dX11_write_46 : decode cX11_write 46 = .ok (.aload_n 0, 1) := by decide +kernel
theorem dX11_write_47 : decode cX11_write 47 = .ok (.getfield 61, 3) := by decide +kernel
theorem dX11_write_50 : decode cX11_write 50 = .ok (.aload_n 0, 1) := by decide +kernel
theorem dX11_write_51 : decode cX11_write 51 = .ok (.getfield 172, 3) := by decide +kernel
theorem dX11_write_54 : decode cX11_write 54 = .ok (.iload_n 1, 1) := by decide +kernel
theorem dX11_write_55 : decode cX11_write 55 = .ok (.iastore, 1) := by decide +kernel
theorem dX11_write_56 : decode cX11_write 56 = .ok (.aload_n 0, 1) := by decide +kernel
theorem dX11_write_57 : decode cX11_write 57 = .ok (.getfield 64, 3) := by decide +kernel
theorem dX11_write_60 : decode cX11_write 60 = .ok (.aload_n 0, 1) := by decide +kernel
theorem dX11_write_61 : decode cX11_write 61 = .ok (.getfield 172, 3) := by decide +kernel
theorem dX11_write_64 : decode cX11_write 64 = .ok (.iload_n 2, 1) := by decide +kernel
theorem dX11_write_65 : decode cX11_write 65 = .ok (.iastore, 1) := by decide +kernel
theorem dX11_write_66 : decode cX11_write 66 = .ok (.aload_n 0, 1) := by decide +kernel
theorem dX11_write_67 : decode cX11_write 67 = .ok (.getfield 67, 3) := by decide +kernel
theorem dX11_write_70 : decode cX11_write 70 = .ok (.aload_n 0, 1) := by decide +kernel
theorem dX11_write_71 : decode cX11_write 71 = .ok (.getfield 172, 3) := by decide +kernel
theorem dX11_write_74 : decode cX11_write 74 = .ok (.iload_n 3, 1) := by decide +kernel
theorem dX11_write_75 : decode cX11_write 75 = .ok (.iastore, 1) := by decide +kernel
theorem dX11_write_76 : decode cX11_write 76 = .ok (.aload_n 0, 1) := by decide +kernel
theorem dX11_write_77 : decode cX11_write 77 = .ok (.dup, 1) := by decide +kernel
theorem dX11_write_78 : decode cX11_write 78 = .ok (.getfield 172, 3) := by decide +kernel
theorem dX11_write_81 : decode cX11_write 81 = .ok (.iconst 1, 1) := by decide +kernel
theorem dX11_write_82 : decode cX11_write 82 = .ok (.iadd, 1) := by decide +kernel
theorem dX11_write_83 : decode cX11_write 83 = .ok (.putfield 172, 3) := by decide +kernel
theorem dX11_write_86 : decode cX11_write 86 = .ok (.aload_n 0, 1) := by decide +kernel
theorem dX11_write_87 : decode cX11_write 87 = .ok (.getfield 172, 3) := by decide +kernel
theorem dX11_write_90 : decode cX11_write 90 = .ok (.ireturn, 1) := by decide +kernel
theorem dX11_tear_0 : decode cX11_tear 0 = .ok (.aload_n 0, 1) := by decide +kernel
theorem dX11_tear_1 : decode cX11_tear 1 = .ok (.getfield 169, 3) := by decide +kernel
theorem dX11_tear_4 : decode cX11_tear 4 = .ok (.aload_n 0, 1) := by decide +kernel
theorem dX11_tear_5 : decode cX11_tear 5 = .ok (.getfield 172, 3) := by decide +kernel
theorem dX11_tear_8 : decode cX11_tear 8 = .ok (.iadd, 1) := by decide +kernel
theorem dX11_tear_9 : decode cX11_tear 9 = .ok (.istore_n 1, 1) := by decide +kernel
theorem dX11_tear_10 : decode cX11_tear 10 = .ok (.aload_n 0, 1) := by decide +kernel
theorem dX11_tear_11 : decode cX11_tear 11 = .ok (.iconst 0, 1) := by decide +kernel
theorem dX11_tear_12 : decode cX11_tear 12 = .ok (.putfield 169, 3) := by decide +kernel
theorem dX11_tear_15 : decode cX11_tear 15 = .ok (.aload_n 0, 1) := by decide +kernel
theorem dX11_tear_16 : decode cX11_tear 16 = .ok (.iconst 0, 1) := by decide +kernel
theorem dX11_tear_17 : decode cX11_tear 17 = .ok (.putfield 172, 3) := by decide +kernel
theorem dX11_tear_20 : decode cX11_tear 20 = .ok (.iload_n 1, 1) := by decide +kernel
theorem dX11_tear_21 : decode cX11_tear 21 = .ok (.ireturn, 1) := by decide +kernel
theorem dX11_judge_0 : decode cX11_judge 0 = .ok (.iconst 0, 1) := by decide +kernel
theorem dX11_judge_1 : decode cX11_judge 1 = .ok (.istore_n 1, 1) := by decide +kernel
theorem dX11_judge_2 : decode cX11_judge 2 = .ok (.iload_n 1, 1) := by decide +kernel
theorem dX11_judge_3 : decode cX11_judge 3 = .ok (.aload_n 0, 1) := by decide +kernel
theorem dX11_judge_4 : decode cX11_judge 4 = .ok (.getfield 172, 3) := by decide +kernel
theorem dX11_judge_7 : decode cX11_judge 7 = .ok (.if_icmp .ge 37, 3) := by decide +kernel
theorem dX11_judge_10 : decode cX11_judge 10 = .ok (.aload_n 0, 1) := by decide +kernel
theorem dX11_judge_11 : decode cX11_judge 11 = .ok (.iconst 0, 1) := by decide +kernel
theorem dX11_judge_12 : decode cX11_judge 12 = .ok (.aload_n 0, 1) := by decide +kernel
theorem dX11_judge_13 : decode cX11_judge 13 = .ok (.getfield 61, 3) := by decide +kernel
theorem dX11_judge_16 : decode cX11_judge 16 = .ok (.iload_n 1, 1) := by decide +kernel
theorem dX11_judge_17 : decode cX11_judge 17 = .ok (.iaload, 1) := by decide +kernel
theorem dX11_judge_18 : decode cX11_judge 18 = .ok (.aload_n 0, 1) := by decide +kernel
theorem dX11_judge_19 : decode cX11_judge 19 = .ok (.getfield 64, 3) := by decide +kernel
theorem dX11_judge_22 : decode cX11_judge 22 = .ok (.iload_n 1, 1) := by decide +kernel
theorem dX11_judge_23 : decode cX11_judge 23 = .ok (.iaload, 1) := by decide +kernel
theorem dX11_judge_24 : decode cX11_judge 24 = .ok (.invokevirtual 182, 3) := by decide +kernel
theorem dX11_judge_27 : decode cX11_judge 27 = .ok (.aload_n 0, 1) := by decide +kernel
theorem dX11_judge_28 : decode cX11_judge 28 = .ok (.getfield 67, 3) := by decide +kernel
theorem dX11_judge_31 : decode cX11_judge 31 = .ok (.iload_n 1, 1) := by decide +kernel
theorem dX11_judge_32 : decode cX11_judge 32 = .ok (.iaload, 1) := by decide +kernel
theorem dX11_judge_33 : decode cX11_judge 33 = .ok (.if_icmp .eq 5, 3) := by decide +kernel
theorem dX11_judge_36 : decode cX11_judge 36 = .ok (.iload_n 1, 1) := by decide +kernel
theorem dX11_judge_37 : decode cX11_judge 37 = .ok (.ireturn, 1) := by decide +kernel
theorem dX11_judge_38 : decode cX11_judge 38 = .ok (.iinc 1 1, 3) := by decide +kernel
theorem dX11_judge_41 : decode cX11_judge 41 = .ok (.goto (-39), 3) := by decide +kernel
theorem dX11_judge_44 : decode cX11_judge 44 = .ok (.iconst (-1), 1) := by decide +kernel
theorem dX11_judge_45 : decode cX11_judge 45 = .ok (.ireturn, 1) := by decide +kernel
theorem dX11_seed_0 : decode cX11_seed 0 = .ok (.iload_n 1, 1) := by decide +kernel
theorem dX11_seed_1 : decode cX11_seed 1 = .ok (.ifCond .ge 6, 3) := by decide +kernel
theorem dX11_seed_4 : decode cX11_seed 4 = .ok (.ldc 88, 2) := by decide +kernel
theorem dX11_seed_6 : decode cX11_seed 6 = .ok (.ireturn, 1) := by decide +kernel
theorem dX11_seed_7 : decode cX11_seed 7 = .ok (.aload_n 0, 1) := by decide +kernel
theorem dX11_seed_8 : decode cX11_seed 8 = .ok (.getfield 7, 3) := by decide +kernel
theorem dX11_seed_11 : decode cX11_seed 11 = .ok (.bipush 54, 2) := by decide +kernel
theorem dX11_seed_13 : decode cX11_seed 13 = .ok (.iaload, 1) := by decide +kernel
theorem dX11_seed_14 : decode cX11_seed 14 = .ok (.istore_n 2, 1) := by decide +kernel
theorem dX11_seed_15 : decode cX11_seed 15 = .ok (.aload_n 0, 1) := by decide +kernel
theorem dX11_seed_16 : decode cX11_seed 16 = .ok (.getfield 7, 3) := by decide +kernel
theorem dX11_seed_19 : decode cX11_seed 19 = .ok (.bipush 54, 2) := by decide +kernel
theorem dX11_seed_21 : decode cX11_seed 21 = .ok (.iload_n 1, 1) := by decide +kernel
theorem dX11_seed_22 : decode cX11_seed 22 = .ok (.iastore, 1) := by decide +kernel
theorem dX11_seed_23 : decode cX11_seed 23 = .ok (.iload_n 2, 1) := by decide +kernel
theorem dX11_seed_24 : decode cX11_seed 24 = .ok (.ireturn, 1) := by decide +kernel
theorem dX11_keep_0 : decode cX11_keep 0 = .ok (.iload_n 1, 1) := by decide +kernel
theorem dX11_keep_1 : decode cX11_keep 1 = .ok (.i2l, 1) := by decide +kernel
theorem dX11_keep_2 : decode cX11_keep 2 = .ok (.lconst 0, 1) := by decide +kernel
theorem dX11_keep_3 : decode cX11_keep 3 = .ok (.lconst 1, 1) := by decide +kernel
theorem dX11_keep_4 : decode cX11_keep 4 = .ok (.invokestatic 76, 3) := by decide +kernel
theorem dX11_keep_7 : decode cX11_keep 7 = .ok (.ifCond .ne 6, 3) := by decide +kernel
theorem dX11_keep_10 : decode cX11_keep 10 = .ok (.ldc 192, 2) := by decide +kernel
theorem dX11_keep_12 : decode cX11_keep 12 = .ok (.ireturn, 1) := by decide +kernel
theorem dX11_keep_13 : decode cX11_keep 13 = .ok (.aload_n 0, 1) := by decide +kernel
theorem dX11_keep_14 : decode cX11_keep 14 = .ok (.iconst 0, 1) := by decide +kernel
theorem dX11_keep_15 : decode cX11_keep 15 = .ok (.bipush 110, 2) := by decide +kernel
theorem dX11_keep_17 : decode cX11_keep 17 = .ok (.bipush 55, 2) := by decide +kernel
theorem dX11_keep_19 : decode cX11_keep 19 = .ok (.iload_n 1, 1) := by decide +kernel
theorem dX11_keep_20 : decode cX11_keep 20 = .ok (.imul, 1) := by decide +kernel
theorem dX11_keep_21 : decode cX11_keep 21 = .ok (.iadd, 1) := by decide +kernel
theorem dX11_keep_22 : decode cX11_keep 22 = .ok (.invokevirtual 249, 3) := by decide +kernel
theorem dX11_keep_25 : decode cX11_keep 25 = .ok (.aload_n 0, 1) := by decide +kernel
theorem dX11_keep_26 : decode cX11_keep 26 = .ok (.getfield 13, 3) := by decide +kernel
theorem dX11_keep_29 : decode cX11_keep 29 = .ok (.iload_n 1, 1) := by decide +kernel
theorem dX11_keep_30 : decode cX11_keep 30 = .ok (.iconst 1, 1) := by decide +kernel
theorem dX11_keep_31 : decode cX11_keep 31 = .ok (.bastore, 1) := by decide +kernel
theorem dX11_keep_32 : decode cX11_keep 32 = .ok (.iconst 1, 1) := by decide +kernel
theorem dX11_keep_33 : decode cX11_keep 33 = .ok (.ireturn, 1) := by decide +kernel
theorem dX11_goBack_0 : decode cX11_goBack 0 = .ok (.iload_n 1, 1) := by decide +kernel
theorem dX11_goBack_1 : decode cX11_goBack 1 = .ok (.i2l, 1) := by decide +kernel
theorem dX11_goBack_2 : decode cX11_goBack 2 = .ok (.lconst 0, 1) := by decide +kernel
theorem dX11_goBack_3 : decode cX11_goBack 3 = .ok (.lconst 1, 1) := by decide +kernel
theorem dX11_goBack_4 : decode cX11_goBack 4 = .ok (.invokestatic 76, 3) := by decide +kernel
theorem dX11_goBack_7 : decode cX11_goBack 7 = .ok (.ifCond .ne 6, 3) := by decide +kernel
theorem dX11_goBack_10 : decode cX11_goBack 10 = .ok (.ldc 192, 2) := by decide +kernel
theorem dX11_goBack_12 : decode cX11_goBack 12 = .ok (.ireturn, 1) := by decide +kernel
theorem dX11_goBack_13 : decode cX11_goBack 13 = .ok (.aload_n 0, 1) := by decide +kernel
theorem dX11_goBack_14 : decode cX11_goBack 14 = .ok (.getfield 13, 3) := by decide +kernel
theorem dX11_goBack_17 : decode cX11_goBack 17 = .ok (.iload_n 1, 1) := by decide +kernel
theorem dX11_goBack_18 : decode cX11_goBack 18 = .ok (.baload, 1) := by decide +kernel
theorem dX11_goBack_19 : decode cX11_goBack 19 = .ok (.ifCond .ne 6, 3) := by decide +kernel
theorem dX11_goBack_22 : decode cX11_goBack 22 = .ok (.ldc 205, 2) := by decide +kernel
theorem dX11_goBack_24 : decode cX11_goBack 24 = .ok (.ireturn, 1) := by decide +kernel
theorem dX11_goBack_25 : decode cX11_goBack 25 = .ok (.aload_n 0, 1) := by decide +kernel
theorem dX11_goBack_26 : decode cX11_goBack 26 = .ok (.bipush 110, 2) := by decide +kernel
theorem dX11_goBack_28 : decode cX11_goBack 28 = .ok (.bipush 55, 2) := by decide +kernel
theorem dX11_goBack_30 : decode cX11_goBack 30 = .ok (.iload_n 1, 1) := by decide +kernel
theorem dX11_goBack_31 : decode cX11_goBack 31 = .ok (.imul, 1) := by decide +kernel
theorem dX11_goBack_32 : decode cX11_goBack 32 = .ok (.iadd, 1) := by decide +kernel
theorem dX11_goBack_33 : decode cX11_goBack 33 = .ok (.iconst 0, 1) := by decide +kernel
theorem dX11_goBack_34 : decode cX11_goBack 34 = .ok (.invokevirtual 249, 3) := by decide +kernel
theorem dX11_goBack_37 : decode cX11_goBack 37 = .ok (.iconst 1, 1) := by decide +kernel
theorem dX11_goBack_38 : decode cX11_goBack 38 = .ok (.ireturn, 1) := by decide +kernel
end
section
theorem dL_law_0 : decode cL_law 0 = .ok (.new 7, 3) := by decide +kernel
theorem dL_law_3 : decode cL_law 3 = .ok (.dup, 1) := by decide +kernel
theorem dL_law_4 : decode cL_law 4 = .ok (.invokespecial 9, 3) := by decide +kernel
theorem dL_law_7 : decode cL_law 7 = .ok (.astore_n 1, 1) := by decide +kernel
theorem dL_law_8 : decode cL_law 8 = .ok (.new 10, 3) := by decide +kernel
theorem dL_law_11 : decode cL_law 11 = .ok (.dup, 1) := by decide +kernel
theorem dL_law_12 : decode cL_law 12 = .ok (.invokespecial 12, 3) := by decide +kernel
theorem dL_law_15 : decode cL_law 15 = .ok (.astore_n 2, 1) := by decide +kernel
theorem dL_law_16 : decode cL_law 16 = .ok (.iconst 0, 1) := by decide +kernel
theorem dL_law_17 : decode cL_law 17 = .ok (.istore_n 3, 1) := by decide +kernel
theorem dL_law_18 : decode cL_law 18 = .ok (.iload_n 3, 1) := by decide +kernel
theorem dL_law_19 : decode cL_law 19 = .ok (.aload_n 0, 1) := by decide +kernel
theorem dL_law_20 : decode cL_law 20 = .ok (.arraylength, 1) := by decide +kernel
theorem dL_law_21 : decode cL_law 21 = .ok (.iconst 4, 1) := by decide +kernel
theorem dL_law_22 : decode cL_law 22 = .ok (.isub, 1) := by decide +kernel
theorem dL_law_23 : decode cL_law 23 = .ok (.if_icmp .gt 1008, 3) := by decide +kernel
theorem dL_law_26 : decode cL_law 26 = .ok (.aload_n 0, 1) := by decide +kernel
theorem dL_law_27 : decode cL_law 27 = .ok (.iload_n 3, 1) := by decide +kernel
theorem dL_law_28 : decode cL_law 28 = .ok (.iaload, 1) := by decide +kernel
theorem dL_law_29 : decode cL_law 29 = .ok (.bipush 63, 2) := by decide +kernel
theorem dL_law_31 : decode cL_law 31 = .ok (.iand, 1) := by decide +kernel
theorem dL_law_32 : decode cL_law 32 = .ok (.tableswitch 993 0 32 #[148, 171, 184, 197, 220, 253, 296, 319, 352, 385, 418, 441, 490, 513, 536, 559, 582, 615, 658, 671, 704, 727, 740, 753, 776, 799, 832, 855, 898, 911, 924, 947, 970], 148) := by decide +kernel
theorem dL_law_180 : decode cL_law 180 = .ok (.aload_n 1, 1) := by decide +kernel
theorem dL_law_181 : decode cL_law 181 = .ok (.aload_n 0, 1) := by decide +kernel
theorem dL_law_182 : decode cL_law 182 = .ok (.iload_n 3, 1) := by decide +kernel
theorem dL_law_183 : decode cL_law 183 = .ok (.iconst 1, 1) := by decide +kernel
theorem dL_law_184 : decode cL_law 184 = .ok (.iadd, 1) := by decide +kernel
theorem dL_law_185 : decode cL_law 185 = .ok (.iaload, 1) := by decide +kernel
theorem dL_law_186 : decode cL_law 186 = .ok (.invokevirtual 13, 3) := by decide +kernel
theorem dL_law_189 : decode cL_law 189 = .ok (.aload_n 2, 1) := by decide +kernel
theorem dL_law_190 : decode cL_law 190 = .ok (.aload_n 0, 1) := by decide +kernel
theorem dL_law_191 : decode cL_law 191 = .ok (.iload_n 3, 1) := by decide +kernel
theorem dL_law_192 : decode cL_law 192 = .ok (.iconst 1, 1) := by decide +kernel
theorem dL_law_193 : decode cL_law 193 = .ok (.iadd, 1) := by decide +kernel
theorem dL_law_194 : decode cL_law 194 = .ok (.iaload, 1) := by decide +kernel
theorem dL_law_195 : decode cL_law 195 = .ok (.invokevirtual 17, 3) := by decide +kernel
theorem dL_law_198 : decode cL_law 198 = .ok (.if_icmp .eq 827, 3) := by decide +kernel
theorem dL_law_201 : decode cL_law 201 = .ok (.iconst 0, 1) := by decide +kernel
theorem dL_law_202 : decode cL_law 202 = .ok (.ireturn, 1) := by decide +kernel
theorem dL_law_203 : decode cL_law 203 = .ok (.aload_n 1, 1) := by decide +kernel
theorem dL_law_204 : decode cL_law 204 = .ok (.invokevirtual 18, 3) := by decide +kernel
theorem dL_law_207 : decode cL_law 207 = .ok (.aload_n 2, 1) := by decide +kernel
theorem dL_law_208 : decode cL_law 208 = .ok (.invokevirtual 22, 3) := by decide +kernel
theorem dL_law_211 : decode cL_law 211 = .ok (.if_icmp .eq 814, 3) := by decide +kernel
theorem dL_law_214 : decode cL_law 214 = .ok (.iconst 0, 1) := by decide +kernel
theorem dL_law_215 : decode cL_law 215 = .ok (.ireturn, 1) := by decide +kernel
theorem dL_law_216 : decode cL_law 216 = .ok (.aload_n 1, 1) := by decide +kernel
theorem dL_law_217 : decode cL_law 217 = .ok (.invokevirtual 23, 3) := by decide +kernel
theorem dL_law_220 : decode cL_law 220 = .ok (.aload_n 2, 1) := by decide +kernel
theorem dL_law_221 : decode cL_law 221 = .ok (.invokevirtual 26, 3) := by decide +kernel
theorem dL_law_224 : decode cL_law 224 = .ok (.if_icmp .eq 801, 3) := by decide +kernel
theorem dL_law_227 : decode cL_law 227 = .ok (.iconst 0, 1) := by decide +kernel
theorem dL_law_228 : decode cL_law 228 = .ok (.ireturn, 1) := by decide +kernel
theorem dL_law_229 : decode cL_law 229 = .ok (.aload_n 1, 1) := by decide +kernel
theorem dL_law_230 : decode cL_law 230 = .ok (.aload_n 0, 1) := by decide +kernel
theorem dL_law_231 : decode cL_law 231 = .ok (.iload_n 3, 1) := by decide +kernel
theorem dL_law_232 : decode cL_law 232 = .ok (.iconst 1, 1) := by decide +kernel
theorem dL_law_233 : decode cL_law 233 = .ok (.iadd, 1) := by decide +kernel
theorem dL_law_234 : decode cL_law 234 = .ok (.iaload, 1) := by decide +kernel
theorem dL_law_235 : decode cL_law 235 = .ok (.invokevirtual 27, 3) := by decide +kernel
theorem dL_law_238 : decode cL_law 238 = .ok (.aload_n 2, 1) := by decide +kernel
theorem dL_law_239 : decode cL_law 239 = .ok (.aload_n 0, 1) := by decide +kernel
theorem dL_law_240 : decode cL_law 240 = .ok (.iload_n 3, 1) := by decide +kernel
theorem dL_law_241 : decode cL_law 241 = .ok (.iconst 1, 1) := by decide +kernel
theorem dL_law_242 : decode cL_law 242 = .ok (.iadd, 1) := by decide +kernel
theorem dL_law_243 : decode cL_law 243 = .ok (.iaload, 1) := by decide +kernel
theorem dL_law_244 : decode cL_law 244 = .ok (.invokevirtual 30, 3) := by decide +kernel
theorem dL_law_247 : decode cL_law 247 = .ok (.if_icmp .eq 778, 3) := by decide +kernel
theorem dL_law_250 : decode cL_law 250 = .ok (.iconst 0, 1) := by decide +kernel
theorem dL_law_251 : decode cL_law 251 = .ok (.ireturn, 1) := by decide +kernel
theorem dL_law_252 : decode cL_law 252 = .ok (.aload_n 1, 1) := by decide +kernel
theorem dL_law_253 : decode cL_law 253 = .ok (.aload_n 0, 1) := by decide +kernel
theorem dL_law_254 : decode cL_law 254 = .ok (.iload_n 3, 1) := by decide +kernel
theorem dL_law_255 : decode cL_law 255 = .ok (.iconst 1, 1) := by decide +kernel
theorem dL_law_256 : decode cL_law 256 = .ok (.iadd, 1) := by decide +kernel
theorem dL_law_257 : decode cL_law 257 = .ok (.iaload, 1) := by decide +kernel
theorem dL_law_258 : decode cL_law 258 = .ok (.aload_n 0, 1) := by decide +kernel
theorem dL_law_259 : decode cL_law 259 = .ok (.iload_n 3, 1) := by decide +kernel
theorem dL_law_260 : decode cL_law 260 = .ok (.iconst 2, 1) := by decide +kernel
theorem dL_law_261 : decode cL_law 261 = .ok (.iadd, 1) := by decide +kernel
theorem dL_law_262 : decode cL_law 262 = .ok (.iaload, 1) := by decide +kernel
theorem dL_law_263 : decode cL_law 263 = .ok (.invokevirtual 31, 3) := by decide +kernel
theorem dL_law_266 : decode cL_law 266 = .ok (.aload_n 2, 1) := by decide +kernel
theorem dL_law_267 : decode cL_law 267 = .ok (.aload_n 0, 1) := by decide +kernel
theorem dL_law_268 : decode cL_law 268 = .ok (.iload_n 3, 1) := by decide +kernel
theorem dL_law_269 : decode cL_law 269 = .ok (.iconst 1, 1) := by decide +kernel
theorem dL_law_270 : decode cL_law 270 = .ok (.iadd, 1) := by decide +kernel
theorem dL_law_271 : decode cL_law 271 = .ok (.iaload, 1) := by decide +kernel
theorem dL_law_272 : decode cL_law 272 = .ok (.aload_n 0, 1) := by decide +kernel
theorem dL_law_273 : decode cL_law 273 = .ok (.iload_n 3, 1) := by decide +kernel
theorem dL_law_274 : decode cL_law 274 = .ok (.iconst 2, 1) := by decide +kernel
theorem dL_law_275 : decode cL_law 275 = .ok (.iadd, 1) := by decide +kernel
theorem dL_law_276 : decode cL_law 276 = .ok (.iaload, 1) := by decide +kernel
theorem dL_law_277 : decode cL_law 277 = .ok (.invokevirtual 35, 3) := by decide +kernel
theorem dL_law_280 : decode cL_law 280 = .ok (.if_icmp .eq 745, 3) := by decide +kernel
theorem dL_law_283 : decode cL_law 283 = .ok (.iconst 0, 1) := by decide +kernel
theorem dL_law_284 : decode cL_law 284 = .ok (.ireturn, 1) := by decide +kernel
theorem dL_law_285 : decode cL_law 285 = .ok (.aload_n 1, 1) := by decide +kernel
theorem dL_law_286 : decode cL_law 286 = .ok (.aload_n 0, 1) := by decide +kernel
theorem dL_law_287 : decode cL_law 287 = .ok (.iload_n 3, 1) := by decide +kernel
theorem dL_law_288 : decode cL_law 288 = .ok (.iconst 1, 1) := by decide +kernel
theorem dL_law_289 : decode cL_law 289 = .ok (.iadd, 1) := by decide +kernel
theorem dL_law_290 : decode cL_law 290 = .ok (.iaload, 1) := by decide +kernel
theorem dL_law_291 : decode cL_law 291 = .ok (.aload_n 0, 1) := by decide +kernel
theorem dL_law_292 : decode cL_law 292 = .ok (.iload_n 3, 1) := by decide +kernel
theorem dL_law_293 : decode cL_law 293 = .ok (.iconst 2, 1) := by decide +kernel
theorem dL_law_294 : decode cL_law 294 = .ok (.iadd, 1) := by decide +kernel
theorem dL_law_295 : decode cL_law 295 = .ok (.iaload, 1) := by decide +kernel
theorem dL_law_296 : decode cL_law 296 = .ok (.aload_n 0, 1) := by decide +kernel
theorem dL_law_297 : decode cL_law 297 = .ok (.iload_n 3, 1) := by decide +kernel
theorem dL_law_298 : decode cL_law 298 = .ok (.iconst 3, 1) := by decide +kernel
theorem dL_law_299 : decode cL_law 299 = .ok (.iadd, 1) := by decide +kernel
theorem dL_law_300 : decode cL_law 300 = .ok (.iaload, 1) := by decide +kernel
theorem dL_law_301 : decode cL_law 301 = .ok (.invokevirtual 36, 3) := by decide +kernel
theorem dL_law_304 : decode cL_law 304 = .ok (.aload_n 2, 1) := by decide +kernel
theorem dL_law_305 : decode cL_law 305 = .ok (.aload_n 0, 1) := by decide +kernel
theorem dL_law_306 : decode cL_law 306 = .ok (.iload_n 3, 1) := by decide +kernel
theorem dL_law_307 : decode cL_law 307 = .ok (.iconst 1, 1) := by decide +kernel
theorem dL_law_308 : decode cL_law 308 = .ok (.iadd, 1) := by decide +kernel
theorem dL_law_309 : decode cL_law 309 = .ok (.iaload, 1) := by decide +kernel
theorem dL_law_310 : decode cL_law 310 = .ok (.aload_n 0, 1) := by decide +kernel
theorem dL_law_311 : decode cL_law 311 = .ok (.iload_n 3, 1) := by decide +kernel
theorem dL_law_312 : decode cL_law 312 = .ok (.iconst 2, 1) := by decide +kernel
theorem dL_law_313 : decode cL_law 313 = .ok (.iadd, 1) := by decide +kernel
theorem dL_law_314 : decode cL_law 314 = .ok (.iaload, 1) := by decide +kernel
theorem dL_law_315 : decode cL_law 315 = .ok (.aload_n 0, 1) := by decide +kernel
theorem dL_law_316 : decode cL_law 316 = .ok (.iload_n 3, 1) := by decide +kernel
theorem dL_law_317 : decode cL_law 317 = .ok (.iconst 3, 1) := by decide +kernel
theorem dL_law_318 : decode cL_law 318 = .ok (.iadd, 1) := by decide +kernel
theorem dL_law_319 : decode cL_law 319 = .ok (.iaload, 1) := by decide +kernel
theorem dL_law_320 : decode cL_law 320 = .ok (.invokevirtual 40, 3) := by decide +kernel
theorem dL_law_323 : decode cL_law 323 = .ok (.if_icmp .eq 702, 3) := by decide +kernel
theorem dL_law_326 : decode cL_law 326 = .ok (.iconst 0, 1) := by decide +kernel
theorem dL_law_327 : decode cL_law 327 = .ok (.ireturn, 1) := by decide +kernel
theorem dL_law_328 : decode cL_law 328 = .ok (.aload_n 1, 1) := by decide +kernel
theorem dL_law_329 : decode cL_law 329 = .ok (.aload_n 0, 1) := by decide +kernel
theorem dL_law_330 : decode cL_law 330 = .ok (.iload_n 3, 1) := by decide +kernel
theorem dL_law_331 : decode cL_law 331 = .ok (.iconst 1, 1) := by decide +kernel
theorem dL_law_332 : decode cL_law 332 = .ok (.iadd, 1) := by decide +kernel
theorem dL_law_333 : decode cL_law 333 = .ok (.iaload, 1) := by decide +kernel
theorem dL_law_334 : decode cL_law 334 = .ok (.invokevirtual 41, 3) := by decide +kernel
theorem dL_law_337 : decode cL_law 337 = .ok (.aload_n 2, 1) := by decide +kernel
theorem dL_law_338 : decode cL_law 338 = .ok (.aload_n 0, 1) := by decide +kernel
theorem dL_law_339 : decode cL_law 339 = .ok (.iload_n 3, 1) := by decide +kernel
theorem dL_law_340 : decode cL_law 340 = .ok (.iconst 1, 1) := by decide +kernel
theorem dL_law_341 : decode cL_law 341 = .ok (.iadd, 1) := by decide +kernel
theorem dL_law_342 : decode cL_law 342 = .ok (.iaload, 1) := by decide +kernel
theorem dL_law_343 : decode cL_law 343 = .ok (.invokevirtual 44, 3) := by decide +kernel
theorem dL_law_346 : decode cL_law 346 = .ok (.if_icmp .eq 679, 3) := by decide +kernel
theorem dL_law_349 : decode cL_law 349 = .ok (.iconst 0, 1) := by decide +kernel
theorem dL_law_350 : decode cL_law 350 = .ok (.ireturn, 1) := by decide +kernel
theorem dL_law_351 : decode cL_law 351 = .ok (.aload_n 1, 1) := by decide +kernel
theorem dL_law_352 : decode cL_law 352 = .ok (.aload_n 0, 1) := by decide +kernel
theorem dL_law_353 : decode cL_law 353 = .ok (.iload_n 3, 1) := by decide +kernel
theorem dL_law_354 : decode cL_law 354 = .ok (.iconst 1, 1) := by decide +kernel
theorem dL_law_355 : decode cL_law 355 = .ok (.iadd, 1) := by decide +kernel
theorem dL_law_356 : decode cL_law 356 = .ok (.iaload, 1) := by decide +kernel
theorem dL_law_357 : decode cL_law 357 = .ok (.aload_n 0, 1) := by decide +kernel
theorem dL_law_358 : decode cL_law 358 = .ok (.iload_n 3, 1) := by decide +kernel
theorem dL_law_359 : decode cL_law 359 = .ok (.iconst 2, 1) := by decide +kernel
theorem dL_law_360 : decode cL_law 360 = .ok (.iadd, 1) := by decide +kernel
theorem dL_law_361 : decode cL_law 361 = .ok (.iaload, 1) := by decide +kernel
theorem dL_law_362 : decode cL_law 362 = .ok (.invokevirtual 45, 3) := by decide +kernel
theorem dL_law_365 : decode cL_law 365 = .ok (.aload_n 2, 1) := by decide +kernel
theorem dL_law_366 : decode cL_law 366 = .ok (.aload_n 0, 1) := by decide +kernel
theorem dL_law_367 : decode cL_law 367 = .ok (.iload_n 3, 1) := by decide +kernel
theorem dL_law_368 : decode cL_law 368 = .ok (.iconst 1, 1) := by decide +kernel
theorem dL_law_369 : decode cL_law 369 = .ok (.iadd, 1) := by decide +kernel
theorem dL_law_370 : decode cL_law 370 = .ok (.iaload, 1) := by decide +kernel
theorem dL_law_371 : decode cL_law 371 = .ok (.aload_n 0, 1) := by decide +kernel
theorem dL_law_372 : decode cL_law 372 = .ok (.iload_n 3, 1) := by decide +kernel
theorem dL_law_373 : decode cL_law 373 = .ok (.iconst 2, 1) := by decide +kernel
theorem dL_law_374 : decode cL_law 374 = .ok (.iadd, 1) := by decide +kernel
theorem dL_law_375 : decode cL_law 375 = .ok (.iaload, 1) := by decide +kernel
theorem dL_law_376 : decode cL_law 376 = .ok (.invokevirtual 48, 3) := by decide +kernel
theorem dL_law_379 : decode cL_law 379 = .ok (.if_icmp .eq 646, 3) := by decide +kernel
theorem dL_law_382 : decode cL_law 382 = .ok (.iconst 0, 1) := by decide +kernel
theorem dL_law_383 : decode cL_law 383 = .ok (.ireturn, 1) := by decide +kernel
theorem dL_law_384 : decode cL_law 384 = .ok (.aload_n 1, 1) := by decide +kernel
theorem dL_law_385 : decode cL_law 385 = .ok (.aload_n 0, 1) := by decide +kernel
theorem dL_law_386 : decode cL_law 386 = .ok (.iload_n 3, 1) := by decide +kernel
theorem dL_law_387 : decode cL_law 387 = .ok (.iconst 1, 1) := by decide +kernel
theorem dL_law_388 : decode cL_law 388 = .ok (.iadd, 1) := by decide +kernel
theorem dL_law_389 : decode cL_law 389 = .ok (.iaload, 1) := by decide +kernel
theorem dL_law_390 : decode cL_law 390 = .ok (.aload_n 0, 1) := by decide +kernel
theorem dL_law_391 : decode cL_law 391 = .ok (.iload_n 3, 1) := by decide +kernel
theorem dL_law_392 : decode cL_law 392 = .ok (.iconst 2, 1) := by decide +kernel
theorem dL_law_393 : decode cL_law 393 = .ok (.iadd, 1) := by decide +kernel
theorem dL_law_394 : decode cL_law 394 = .ok (.iaload, 1) := by decide +kernel
theorem dL_law_395 : decode cL_law 395 = .ok (.invokevirtual 49, 3) := by decide +kernel
theorem dL_law_398 : decode cL_law 398 = .ok (.aload_n 2, 1) := by decide +kernel
theorem dL_law_399 : decode cL_law 399 = .ok (.aload_n 0, 1) := by decide +kernel
theorem dL_law_400 : decode cL_law 400 = .ok (.iload_n 3, 1) := by decide +kernel
theorem dL_law_401 : decode cL_law 401 = .ok (.iconst 1, 1) := by decide +kernel
theorem dL_law_402 : decode cL_law 402 = .ok (.iadd, 1) := by decide +kernel
theorem dL_law_403 : decode cL_law 403 = .ok (.iaload, 1) := by decide +kernel
theorem dL_law_404 : decode cL_law 404 = .ok (.aload_n 0, 1) := by decide +kernel
theorem dL_law_405 : decode cL_law 405 = .ok (.iload_n 3, 1) := by decide +kernel
theorem dL_law_406 : decode cL_law 406 = .ok (.iconst 2, 1) := by decide +kernel
theorem dL_law_407 : decode cL_law 407 = .ok (.iadd, 1) := by decide +kernel
theorem dL_law_408 : decode cL_law 408 = .ok (.iaload, 1) := by decide +kernel
theorem dL_law_409 : decode cL_law 409 = .ok (.invokevirtual 52, 3) := by decide +kernel
theorem dL_law_412 : decode cL_law 412 = .ok (.if_icmp .eq 613, 3) := by decide +kernel
theorem dL_law_415 : decode cL_law 415 = .ok (.iconst 0, 1) := by decide +kernel
theorem dL_law_416 : decode cL_law 416 = .ok (.ireturn, 1) := by decide +kernel
theorem dL_law_417 : decode cL_law 417 = .ok (.aload_n 1, 1) := by decide +kernel
theorem dL_law_418 : decode cL_law 418 = .ok (.aload_n 0, 1) := by decide +kernel
theorem dL_law_419 : decode cL_law 419 = .ok (.iload_n 3, 1) := by decide +kernel
theorem dL_law_420 : decode cL_law 420 = .ok (.iconst 1, 1) := by decide +kernel
theorem dL_law_421 : decode cL_law 421 = .ok (.iadd, 1) := by decide +kernel
theorem dL_law_422 : decode cL_law 422 = .ok (.iaload, 1) := by decide +kernel
theorem dL_law_423 : decode cL_law 423 = .ok (.aload_n 0, 1) := by decide +kernel
theorem dL_law_424 : decode cL_law 424 = .ok (.iload_n 3, 1) := by decide +kernel
theorem dL_law_425 : decode cL_law 425 = .ok (.iconst 2, 1) := by decide +kernel
theorem dL_law_426 : decode cL_law 426 = .ok (.iadd, 1) := by decide +kernel
theorem dL_law_427 : decode cL_law 427 = .ok (.iaload, 1) := by decide +kernel
theorem dL_law_428 : decode cL_law 428 = .ok (.invokevirtual 53, 3) := by decide +kernel
theorem dL_law_431 : decode cL_law 431 = .ok (.aload_n 2, 1) := by decide +kernel
theorem dL_law_432 : decode cL_law 432 = .ok (.aload_n 0, 1) := by decide +kernel
theorem dL_law_433 : decode cL_law 433 = .ok (.iload_n 3, 1) := by decide +kernel
theorem dL_law_434 : decode cL_law 434 = .ok (.iconst 1, 1) := by decide +kernel
theorem dL_law_435 : decode cL_law 435 = .ok (.iadd, 1) := by decide +kernel
theorem dL_law_436 : decode cL_law 436 = .ok (.iaload, 1) := by decide +kernel
theorem dL_law_437 : decode cL_law 437 = .ok (.aload_n 0, 1) := by decide +kernel
theorem dL_law_438 : decode cL_law 438 = .ok (.iload_n 3, 1) := by decide +kernel
theorem dL_law_439 : decode cL_law 439 = .ok (.iconst 2, 1) := by decide +kernel
theorem dL_law_440 : decode cL_law 440 = .ok (.iadd, 1) := by decide +kernel
theorem dL_law_441 : decode cL_law 441 = .ok (.iaload, 1) := by decide +kernel
theorem dL_law_442 : decode cL_law 442 = .ok (.invokevirtual 56, 3) := by decide +kernel
theorem dL_law_445 : decode cL_law 445 = .ok (.if_icmp .eq 580, 3) := by decide +kernel
theorem dL_law_448 : decode cL_law 448 = .ok (.iconst 0, 1) := by decide +kernel
theorem dL_law_449 : decode cL_law 449 = .ok (.ireturn, 1) := by decide +kernel
theorem dL_law_450 : decode cL_law 450 = .ok (.aload_n 1, 1) := by decide +kernel
theorem dL_law_451 : decode cL_law 451 = .ok (.aload_n 0, 1) := by decide +kernel
theorem dL_law_452 : decode cL_law 452 = .ok (.iload_n 3, 1) := by decide +kernel
theorem dL_law_453 : decode cL_law 453 = .ok (.iconst 1, 1) := by decide +kernel
theorem dL_law_454 : decode cL_law 454 = .ok (.iadd, 1) := by decide +kernel
theorem dL_law_455 : decode cL_law 455 = .ok (.iaload, 1) := by decide +kernel
theorem dL_law_456 : decode cL_law 456 = .ok (.invokevirtual 57, 3) := by decide +kernel
theorem dL_law_459 : decode cL_law 459 = .ok (.aload_n 2, 1) := by decide +kernel
theorem dL_law_460 : decode cL_law 460 = .ok (.aload_n 0, 1) := by decide +kernel
theorem dL_law_461 : decode cL_law 461 = .ok (.iload_n 3, 1) := by decide +kernel
theorem dL_law_462 : decode cL_law 462 = .ok (.iconst 1, 1) := by decide +kernel
theorem dL_law_463 : decode cL_law 463 = .ok (.iadd, 1) := by decide +kernel
theorem dL_law_464 : decode cL_law 464 = .ok (.iaload, 1) := by decide +kernel
theorem dL_law_465 : decode cL_law 465 = .ok (.invokevirtual 60, 3) := by decide +kernel
theorem dL_law_468 : decode cL_law 468 = .ok (.if_icmp .eq 557, 3) := by decide +kernel
theorem dL_law_471 : decode cL_law 471 = .ok (.iconst 0, 1) := by decide +kernel
theorem dL_law_472 : decode cL_law 472 = .ok (.ireturn, 1) := by decide +kernel
theorem dL_law_473 : decode cL_law 473 = .ok (.aload_n 1, 1) := by decide +kernel
theorem dL_law_474 : decode cL_law 474 = .ok (.aload_n 0, 1) := by decide +kernel
theorem dL_law_475 : decode cL_law 475 = .ok (.iload_n 3, 1) := by decide +kernel
theorem dL_law_476 : decode cL_law 476 = .ok (.iconst 1, 1) := by decide +kernel
theorem dL_law_477 : decode cL_law 477 = .ok (.iadd, 1) := by decide +kernel
theorem dL_law_478 : decode cL_law 478 = .ok (.iaload, 1) := by decide +kernel
theorem dL_law_479 : decode cL_law 479 = .ok (.aload_n 0, 1) := by decide +kernel
theorem dL_law_480 : decode cL_law 480 = .ok (.iload_n 3, 1) := by decide +kernel
theorem dL_law_481 : decode cL_law 481 = .ok (.iconst 2, 1) := by decide +kernel
theorem dL_law_482 : decode cL_law 482 = .ok (.iadd, 1) := by decide +kernel
theorem dL_law_483 : decode cL_law 483 = .ok (.iaload, 1) := by decide +kernel
theorem dL_law_484 : decode cL_law 484 = .ok (.ifCond .eq 7, 3) := by decide +kernel
theorem dL_law_487 : decode cL_law 487 = .ok (.iconst 1, 1) := by decide +kernel
theorem dL_law_488 : decode cL_law 488 = .ok (.goto 4, 3) := by decide +kernel
theorem dL_law_491 : decode cL_law 491 = .ok (.iconst 0, 1) := by decide +kernel
theorem dL_law_492 : decode cL_law 492 = .ok (.invokevirtual 61, 3) := by decide +kernel
theorem dL_law_495 : decode cL_law 495 = .ok (.aload_n 2, 1) := by decide +kernel
theorem dL_law_496 : decode cL_law 496 = .ok (.aload_n 0, 1) := by decide +kernel
theorem dL_law_497 : decode cL_law 497 = .ok (.iload_n 3, 1) := by decide +kernel
theorem dL_law_498 : decode cL_law 498 = .ok (.iconst 1, 1) := by decide +kernel
theorem dL_law_499 : decode cL_law 499 = .ok (.iadd, 1) := by decide +kernel
theorem dL_law_500 : decode cL_law 500 = .ok (.iaload, 1) := by decide +kernel
theorem dL_law_501 : decode cL_law 501 = .ok (.aload_n 0, 1) := by decide +kernel
theorem dL_law_502 : decode cL_law 502 = .ok (.iload_n 3, 1) := by decide +kernel
theorem dL_law_503 : decode cL_law 503 = .ok (.iconst 2, 1) := by decide +kernel
theorem dL_law_504 : decode cL_law 504 = .ok (.iadd, 1) := by decide +kernel
theorem dL_law_505 : decode cL_law 505 = .ok (.iaload, 1) := by decide +kernel
theorem dL_law_506 : decode cL_law 506 = .ok (.ifCond .eq 7, 3) := by decide +kernel
theorem dL_law_509 : decode cL_law 509 = .ok (.iconst 1, 1) := by decide +kernel
theorem dL_law_510 : decode cL_law 510 = .ok (.goto 4, 3) := by decide +kernel
theorem dL_law_513 : decode cL_law 513 = .ok (.iconst 0, 1) := by decide +kernel
theorem dL_law_514 : decode cL_law 514 = .ok (.invokevirtual 65, 3) := by decide +kernel
theorem dL_law_517 : decode cL_law 517 = .ok (.if_icmp .eq 508, 3) := by decide +kernel
theorem dL_law_520 : decode cL_law 520 = .ok (.iconst 0, 1) := by decide +kernel
theorem dL_law_521 : decode cL_law 521 = .ok (.ireturn, 1) := by decide +kernel
theorem dL_law_522 : decode cL_law 522 = .ok (.aload_n 1, 1) := by decide +kernel
theorem dL_law_523 : decode cL_law 523 = .ok (.aload_n 0, 1) := by decide +kernel
theorem dL_law_524 : decode cL_law 524 = .ok (.iload_n 3, 1) := by decide +kernel
theorem dL_law_525 : decode cL_law 525 = .ok (.iconst 1, 1) := by decide +kernel
theorem dL_law_526 : decode cL_law 526 = .ok (.iadd, 1) := by decide +kernel
theorem dL_law_527 : decode cL_law 527 = .ok (.iaload, 1) := by decide +kernel
theorem dL_law_528 : decode cL_law 528 = .ok (.invokevirtual 66, 3) := by decide +kernel
theorem dL_law_531 : decode cL_law 531 = .ok (.aload_n 2, 1) := by decide +kernel
theorem dL_law_532 : decode cL_law 532 = .ok (.aload_n 0, 1) := by decide +kernel
theorem dL_law_533 : decode cL_law 533 = .ok (.iload_n 3, 1) := by decide +kernel
theorem dL_law_534 : decode cL_law 534 = .ok (.iconst 1, 1) := by decide +kernel
theorem dL_law_535 : decode cL_law 535 = .ok (.iadd, 1) := by decide +kernel
theorem dL_law_536 : decode cL_law 536 = .ok (.iaload, 1) := by decide +kernel
theorem dL_law_537 : decode cL_law 537 = .ok (.invokevirtual 69, 3) := by decide +kernel
theorem dL_law_540 : decode cL_law 540 = .ok (.if_icmp .eq 485, 3) := by decide +kernel
theorem dL_law_543 : decode cL_law 543 = .ok (.iconst 0, 1) := by decide +kernel
theorem dL_law_544 : decode cL_law 544 = .ok (.ireturn, 1) := by decide +kernel
theorem dL_law_545 : decode cL_law 545 = .ok (.aload_n 1, 1) := by decide +kernel
theorem dL_law_546 : decode cL_law 546 = .ok (.aload_n 0, 1) := by decide +kernel
theorem dL_law_547 : decode cL_law 547 = .ok (.iload_n 3, 1) := by decide +kernel
theorem dL_law_548 : decode cL_law 548 = .ok (.iconst 1, 1) := by decide +kernel
theorem dL_law_549 : decode cL_law 549 = .ok (.iadd, 1) := by decide +kernel
theorem dL_law_550 : decode cL_law 550 = .ok (.iaload, 1) := by decide +kernel
theorem dL_law_551 : decode cL_law 551 = .ok (.invokevirtual 70, 3) := by decide +kernel
theorem dL_law_554 : decode cL_law 554 = .ok (.aload_n 2, 1) := by decide +kernel
theorem dL_law_555 : decode cL_law 555 = .ok (.aload_n 0, 1) := by decide +kernel
theorem dL_law_556 : decode cL_law 556 = .ok (.iload_n 3, 1) := by decide +kernel
theorem dL_law_557 : decode cL_law 557 = .ok (.iconst 1, 1) := by decide +kernel
theorem dL_law_558 : decode cL_law 558 = .ok (.iadd, 1) := by decide +kernel
theorem dL_law_559 : decode cL_law 559 = .ok (.iaload, 1) := by decide +kernel
theorem dL_law_560 : decode cL_law 560 = .ok (.invokevirtual 73, 3) := by decide +kernel
theorem dL_law_563 : decode cL_law 563 = .ok (.if_icmp .eq 462, 3) := by decide +kernel
theorem dL_law_566 : decode cL_law 566 = .ok (.iconst 0, 1) := by decide +kernel
theorem dL_law_567 : decode cL_law 567 = .ok (.ireturn, 1) := by decide +kernel
theorem dL_law_568 : decode cL_law 568 = .ok (.aload_n 1, 1) := by decide +kernel
theorem dL_law_569 : decode cL_law 569 = .ok (.aload_n 0, 1) := by decide +kernel
theorem dL_law_570 : decode cL_law 570 = .ok (.iload_n 3, 1) := by decide +kernel
theorem dL_law_571 : decode cL_law 571 = .ok (.iconst 1, 1) := by decide +kernel
theorem dL_law_572 : decode cL_law 572 = .ok (.iadd, 1) := by decide +kernel
theorem dL_law_573 : decode cL_law 573 = .ok (.iaload, 1) := by decide +kernel
theorem dL_law_574 : decode cL_law 574 = .ok (.invokevirtual 74, 3) := by decide +kernel
theorem dL_law_577 : decode cL_law 577 = .ok (.aload_n 2, 1) := by decide +kernel
theorem dL_law_578 : decode cL_law 578 = .ok (.aload_n 0, 1) := by decide +kernel
theorem dL_law_579 : decode cL_law 579 = .ok (.iload_n 3, 1) := by decide +kernel
theorem dL_law_580 : decode cL_law 580 = .ok (.iconst 1, 1) := by decide +kernel
theorem dL_law_581 : decode cL_law 581 = .ok (.iadd, 1) := by decide +kernel
theorem dL_law_582 : decode cL_law 582 = .ok (.iaload, 1) := by decide +kernel
theorem dL_law_583 : decode cL_law 583 = .ok (.invokevirtual 77, 3) := by decide +kernel
theorem dL_law_586 : decode cL_law 586 = .ok (.if_icmp .eq 439, 3) := by decide +kernel
theorem dL_law_589 : decode cL_law 589 = .ok (.iconst 0, 1) := by decide +kernel
theorem dL_law_590 : decode cL_law 590 = .ok (.ireturn, 1) := by decide +kernel
theorem dL_law_591 : decode cL_law 591 = .ok (.aload_n 1, 1) := by decide +kernel
theorem dL_law_592 : decode cL_law 592 = .ok (.aload_n 0, 1) := by decide +kernel
theorem dL_law_593 : decode cL_law 593 = .ok (.iload_n 3, 1) := by decide +kernel
theorem dL_law_594 : decode cL_law 594 = .ok (.iconst 1, 1) := by decide +kernel
theorem dL_law_595 : decode cL_law 595 = .ok (.iadd, 1) := by decide +kernel
theorem dL_law_596 : decode cL_law 596 = .ok (.iaload, 1) := by decide +kernel
theorem dL_law_597 : decode cL_law 597 = .ok (.invokevirtual 78, 3) := by decide +kernel
theorem dL_law_600 : decode cL_law 600 = .ok (.aload_n 2, 1) := by decide +kernel
theorem dL_law_601 : decode cL_law 601 = .ok (.aload_n 0, 1) := by decide +kernel
theorem dL_law_602 : decode cL_law 602 = .ok (.iload_n 3, 1) := by decide +kernel
theorem dL_law_603 : decode cL_law 603 = .ok (.iconst 1, 1) := by decide +kernel
theorem dL_law_604 : decode cL_law 604 = .ok (.iadd, 1) := by decide +kernel
theorem dL_law_605 : decode cL_law 605 = .ok (.iaload, 1) := by decide +kernel
theorem dL_law_606 : decode cL_law 606 = .ok (.invokevirtual 81, 3) := by decide +kernel
theorem dL_law_609 : decode cL_law 609 = .ok (.if_icmp .eq 416, 3) := by decide +kernel
theorem dL_law_612 : decode cL_law 612 = .ok (.iconst 0, 1) := by decide +kernel
theorem dL_law_613 : decode cL_law 613 = .ok (.ireturn, 1) := by decide +kernel
theorem dL_law_614 : decode cL_law 614 = .ok (.aload_n 1, 1) := by decide +kernel
theorem dL_law_615 : decode cL_law 615 = .ok (.aload_n 0, 1) := by decide +kernel
theorem dL_law_616 : decode cL_law 616 = .ok (.iload_n 3, 1) := by decide +kernel
theorem dL_law_617 : decode cL_law 617 = .ok (.iconst 1, 1) := by decide +kernel
theorem dL_law_618 : decode cL_law 618 = .ok (.iadd, 1) := by decide +kernel
theorem dL_law_619 : decode cL_law 619 = .ok (.iaload, 1) := by decide +kernel
theorem dL_law_620 : decode cL_law 620 = .ok (.aload_n 0, 1) := by decide +kernel
theorem dL_law_621 : decode cL_law 621 = .ok (.iload_n 3, 1) := by decide +kernel
theorem dL_law_622 : decode cL_law 622 = .ok (.iconst 2, 1) := by decide +kernel
theorem dL_law_623 : decode cL_law 623 = .ok (.iadd, 1) := by decide +kernel
theorem dL_law_624 : decode cL_law 624 = .ok (.iaload, 1) := by decide +kernel
theorem dL_law_625 : decode cL_law 625 = .ok (.invokevirtual 82, 3) := by decide +kernel
theorem dL_law_628 : decode cL_law 628 = .ok (.aload_n 2, 1) := by decide +kernel
theorem dL_law_629 : decode cL_law 629 = .ok (.aload_n 0, 1) := by decide +kernel
theorem dL_law_630 : decode cL_law 630 = .ok (.iload_n 3, 1) := by decide +kernel
theorem dL_law_631 : decode cL_law 631 = .ok (.iconst 1, 1) := by decide +kernel
theorem dL_law_632 : decode cL_law 632 = .ok (.iadd, 1) := by decide +kernel
theorem dL_law_633 : decode cL_law 633 = .ok (.iaload, 1) := by decide +kernel
theorem dL_law_634 : decode cL_law 634 = .ok (.aload_n 0, 1) := by decide +kernel
theorem dL_law_635 : decode cL_law 635 = .ok (.iload_n 3, 1) := by decide +kernel
theorem dL_law_636 : decode cL_law 636 = .ok (.iconst 2, 1) := by decide +kernel
theorem dL_law_637 : decode cL_law 637 = .ok (.iadd, 1) := by decide +kernel
theorem dL_law_638 : decode cL_law 638 = .ok (.iaload, 1) := by decide +kernel
theorem dL_law_639 : decode cL_law 639 = .ok (.invokevirtual 85, 3) := by decide +kernel
theorem dL_law_642 : decode cL_law 642 = .ok (.if_icmp .eq 383, 3) := by decide +kernel
theorem dL_law_645 : decode cL_law 645 = .ok (.iconst 0, 1) := by decide +kernel
theorem dL_law_646 : decode cL_law 646 = .ok (.ireturn, 1) := by decide +kernel
theorem dL_law_647 : decode cL_law 647 = .ok (.aload_n 1, 1) := by decide +kernel
theorem dL_law_648 : decode cL_law 648 = .ok (.aload_n 0, 1) := by decide +kernel
theorem dL_law_649 : decode cL_law 649 = .ok (.iload_n 3, 1) := by decide +kernel
theorem dL_law_650 : decode cL_law 650 = .ok (.iconst 1, 1) := by decide +kernel
theorem dL_law_651 : decode cL_law 651 = .ok (.iadd, 1) := by decide +kernel
theorem dL_law_652 : decode cL_law 652 = .ok (.iaload, 1) := by decide +kernel
theorem dL_law_653 : decode cL_law 653 = .ok (.aload_n 0, 1) := by decide +kernel
theorem dL_law_654 : decode cL_law 654 = .ok (.iload_n 3, 1) := by decide +kernel
theorem dL_law_655 : decode cL_law 655 = .ok (.iconst 2, 1) := by decide +kernel
theorem dL_law_656 : decode cL_law 656 = .ok (.iadd, 1) := by decide +kernel
theorem dL_law_657 : decode cL_law 657 = .ok (.iaload, 1) := by decide +kernel
theorem dL_law_658 : decode cL_law 658 = .ok (.aload_n 0, 1) := by decide +kernel
theorem dL_law_659 : decode cL_law 659 = .ok (.iload_n 3, 1) := by decide +kernel
theorem dL_law_660 : decode cL_law 660 = .ok (.iconst 3, 1) := by decide +kernel
theorem dL_law_661 : decode cL_law 661 = .ok (.iadd, 1) := by decide +kernel
theorem dL_law_662 : decode cL_law 662 = .ok (.iaload, 1) := by decide +kernel
theorem dL_law_663 : decode cL_law 663 = .ok (.invokevirtual 86, 3) := by decide +kernel
theorem dL_law_666 : decode cL_law 666 = .ok (.aload_n 2, 1) := by decide +kernel
theorem dL_law_667 : decode cL_law 667 = .ok (.aload_n 0, 1) := by decide +kernel
theorem dL_law_668 : decode cL_law 668 = .ok (.iload_n 3, 1) := by decide +kernel
theorem dL_law_669 : decode cL_law 669 = .ok (.iconst 1, 1) := by decide +kernel
theorem dL_law_670 : decode cL_law 670 = .ok (.iadd, 1) := by decide +kernel
theorem dL_law_671 : decode cL_law 671 = .ok (.iaload, 1) := by decide +kernel
theorem dL_law_672 : decode cL_law 672 = .ok (.aload_n 0, 1) := by decide +kernel
theorem dL_law_673 : decode cL_law 673 = .ok (.iload_n 3, 1) := by decide +kernel
theorem dL_law_674 : decode cL_law 674 = .ok (.iconst 2, 1) := by decide +kernel
theorem dL_law_675 : decode cL_law 675 = .ok (.iadd, 1) := by decide +kernel
theorem dL_law_676 : decode cL_law 676 = .ok (.iaload, 1) := by decide +kernel
theorem dL_law_677 : decode cL_law 677 = .ok (.aload_n 0, 1) := by decide +kernel
theorem dL_law_678 : decode cL_law 678 = .ok (.iload_n 3, 1) := by decide +kernel
theorem dL_law_679 : decode cL_law 679 = .ok (.iconst 3, 1) := by decide +kernel
theorem dL_law_680 : decode cL_law 680 = .ok (.iadd, 1) := by decide +kernel
theorem dL_law_681 : decode cL_law 681 = .ok (.iaload, 1) := by decide +kernel
theorem dL_law_682 : decode cL_law 682 = .ok (.invokevirtual 89, 3) := by decide +kernel
theorem dL_law_685 : decode cL_law 685 = .ok (.if_icmp .eq 340, 3) := by decide +kernel
theorem dL_law_688 : decode cL_law 688 = .ok (.iconst 0, 1) := by decide +kernel
theorem dL_law_689 : decode cL_law 689 = .ok (.ireturn, 1) := by decide +kernel
theorem dL_law_690 : decode cL_law 690 = .ok (.aload_n 1, 1) := by decide +kernel
theorem dL_law_691 : decode cL_law 691 = .ok (.invokevirtual 90, 3) := by decide +kernel
theorem dL_law_694 : decode cL_law 694 = .ok (.aload_n 2, 1) := by decide +kernel
theorem dL_law_695 : decode cL_law 695 = .ok (.invokevirtual 93, 3) := by decide +kernel
theorem dL_law_698 : decode cL_law 698 = .ok (.if_icmp .eq 327, 3) := by decide +kernel
theorem dL_law_701 : decode cL_law 701 = .ok (.iconst 0, 1) := by decide +kernel
theorem dL_law_702 : decode cL_law 702 = .ok (.ireturn, 1) := by decide +kernel
theorem dL_law_703 : decode cL_law 703 = .ok (.aload_n 1, 1) := by decide +kernel
theorem dL_law_704 : decode cL_law 704 = .ok (.aload_n 0, 1) := by decide +kernel
theorem dL_law_705 : decode cL_law 705 = .ok (.iload_n 3, 1) := by decide +kernel
theorem dL_law_706 : decode cL_law 706 = .ok (.iconst 1, 1) := by decide +kernel
theorem dL_law_707 : decode cL_law 707 = .ok (.iadd, 1) := by decide +kernel
theorem dL_law_708 : decode cL_law 708 = .ok (.iaload, 1) := by decide +kernel
theorem dL_law_709 : decode cL_law 709 = .ok (.aload_n 0, 1) := by decide +kernel
theorem dL_law_710 : decode cL_law 710 = .ok (.iload_n 3, 1) := by decide +kernel
theorem dL_law_711 : decode cL_law 711 = .ok (.iconst 2, 1) := by decide +kernel
theorem dL_law_712 : decode cL_law 712 = .ok (.iadd, 1) := by decide +kernel
theorem dL_law_713 : decode cL_law 713 = .ok (.iaload, 1) := by decide +kernel
theorem dL_law_714 : decode cL_law 714 = .ok (.invokevirtual 94, 3) := by decide +kernel
theorem dL_law_717 : decode cL_law 717 = .ok (.aload_n 2, 1) := by decide +kernel
theorem dL_law_718 : decode cL_law 718 = .ok (.aload_n 0, 1) := by decide +kernel
theorem dL_law_719 : decode cL_law 719 = .ok (.iload_n 3, 1) := by decide +kernel
theorem dL_law_720 : decode cL_law 720 = .ok (.iconst 1, 1) := by decide +kernel
theorem dL_law_721 : decode cL_law 721 = .ok (.iadd, 1) := by decide +kernel
theorem dL_law_722 : decode cL_law 722 = .ok (.iaload, 1) := by decide +kernel
theorem dL_law_723 : decode cL_law 723 = .ok (.aload_n 0, 1) := by decide +kernel
theorem dL_law_724 : decode cL_law 724 = .ok (.iload_n 3, 1) := by decide +kernel
theorem dL_law_725 : decode cL_law 725 = .ok (.iconst 2, 1) := by decide +kernel
theorem dL_law_726 : decode cL_law 726 = .ok (.iadd, 1) := by decide +kernel
theorem dL_law_727 : decode cL_law 727 = .ok (.iaload, 1) := by decide +kernel
theorem dL_law_728 : decode cL_law 728 = .ok (.invokevirtual 97, 3) := by decide +kernel
theorem dL_law_731 : decode cL_law 731 = .ok (.if_icmp .eq 294, 3) := by decide +kernel
theorem dL_law_734 : decode cL_law 734 = .ok (.iconst 0, 1) := by decide +kernel
theorem dL_law_735 : decode cL_law 735 = .ok (.ireturn, 1) := by decide +kernel
theorem dL_law_736 : decode cL_law 736 = .ok (.aload_n 1, 1) := by decide +kernel
theorem dL_law_737 : decode cL_law 737 = .ok (.aload_n 0, 1) := by decide +kernel
theorem dL_law_738 : decode cL_law 738 = .ok (.iload_n 3, 1) := by decide +kernel
theorem dL_law_739 : decode cL_law 739 = .ok (.iconst 1, 1) := by decide +kernel
theorem dL_law_740 : decode cL_law 740 = .ok (.iadd, 1) := by decide +kernel
theorem dL_law_741 : decode cL_law 741 = .ok (.iaload, 1) := by decide +kernel
theorem dL_law_742 : decode cL_law 742 = .ok (.invokevirtual 98, 3) := by decide +kernel
theorem dL_law_745 : decode cL_law 745 = .ok (.aload_n 2, 1) := by decide +kernel
theorem dL_law_746 : decode cL_law 746 = .ok (.aload_n 0, 1) := by decide +kernel
theorem dL_law_747 : decode cL_law 747 = .ok (.iload_n 3, 1) := by decide +kernel
theorem dL_law_748 : decode cL_law 748 = .ok (.iconst 1, 1) := by decide +kernel
theorem dL_law_749 : decode cL_law 749 = .ok (.iadd, 1) := by decide +kernel
theorem dL_law_750 : decode cL_law 750 = .ok (.iaload, 1) := by decide +kernel
theorem dL_law_751 : decode cL_law 751 = .ok (.invokevirtual 101, 3) := by decide +kernel
theorem dL_law_754 : decode cL_law 754 = .ok (.if_icmp .eq 271, 3) := by decide +kernel
theorem dL_law_757 : decode cL_law 757 = .ok (.iconst 0, 1) := by decide +kernel
theorem dL_law_758 : decode cL_law 758 = .ok (.ireturn, 1) := by decide +kernel
theorem dL_law_759 : decode cL_law 759 = .ok (.aload_n 1, 1) := by decide +kernel
theorem dL_law_760 : decode cL_law 760 = .ok (.invokevirtual 102, 3) := by decide +kernel
theorem dL_law_763 : decode cL_law 763 = .ok (.aload_n 2, 1) := by decide +kernel
theorem dL_law_764 : decode cL_law 764 = .ok (.invokevirtual 105, 3) := by decide +kernel
theorem dL_law_767 : decode cL_law 767 = .ok (.if_icmp .eq 258, 3) := by decide +kernel
theorem dL_law_770 : decode cL_law 770 = .ok (.iconst 0, 1) := by decide +kernel
theorem dL_law_771 : decode cL_law 771 = .ok (.ireturn, 1) := by decide +kernel
theorem dL_law_772 : decode cL_law 772 = .ok (.aload_n 1, 1) := by decide +kernel
theorem dL_law_773 : decode cL_law 773 = .ok (.invokevirtual 106, 3) := by decide +kernel
theorem dL_law_776 : decode cL_law 776 = .ok (.aload_n 2, 1) := by decide +kernel
theorem dL_law_777 : decode cL_law 777 = .ok (.invokevirtual 109, 3) := by decide +kernel
theorem dL_law_780 : decode cL_law 780 = .ok (.if_icmp .eq 245, 3) := by decide +kernel
theorem dL_law_783 : decode cL_law 783 = .ok (.iconst 0, 1) := by decide +kernel
theorem dL_law_784 : decode cL_law 784 = .ok (.ireturn, 1) := by decide +kernel
theorem dL_law_785 : decode cL_law 785 = .ok (.aload_n 1, 1) := by decide +kernel
theorem dL_law_786 : decode cL_law 786 = .ok (.aload_n 0, 1) := by decide +kernel
theorem dL_law_787 : decode cL_law 787 = .ok (.iload_n 3, 1) := by decide +kernel
theorem dL_law_788 : decode cL_law 788 = .ok (.iconst 1, 1) := by decide +kernel
theorem dL_law_789 : decode cL_law 789 = .ok (.iadd, 1) := by decide +kernel
theorem dL_law_790 : decode cL_law 790 = .ok (.iaload, 1) := by decide +kernel
theorem dL_law_791 : decode cL_law 791 = .ok (.invokevirtual 110, 3) := by decide +kernel
theorem dL_law_794 : decode cL_law 794 = .ok (.aload_n 2, 1) := by decide +kernel
theorem dL_law_795 : decode cL_law 795 = .ok (.aload_n 0, 1) := by decide +kernel
theorem dL_law_796 : decode cL_law 796 = .ok (.iload_n 3, 1) := by decide +kernel
theorem dL_law_797 : decode cL_law 797 = .ok (.iconst 1, 1) := by decide +kernel
theorem dL_law_798 : decode cL_law 798 = .ok (.iadd, 1) := by decide +kernel
theorem dL_law_799 : decode cL_law 799 = .ok (.iaload, 1) := by decide +kernel
theorem dL_law_800 : decode cL_law 800 = .ok (.invokevirtual 113, 3) := by decide +kernel
theorem dL_law_803 : decode cL_law 803 = .ok (.if_icmp .eq 222, 3) := by decide +kernel
theorem dL_law_806 : decode cL_law 806 = .ok (.iconst 0, 1) := by decide +kernel
theorem dL_law_807 : decode cL_law 807 = .ok (.ireturn, 1) := by decide +kernel
theorem dL_law_808 : decode cL_law 808 = .ok (.aload_n 1, 1) := by decide +kernel
theorem dL_law_809 : decode cL_law 809 = .ok (.aload_n 0, 1) := by decide +kernel
theorem dL_law_810 : decode cL_law 810 = .ok (.iload_n 3, 1) := by decide +kernel
theorem dL_law_811 : decode cL_law 811 = .ok (.iconst 1, 1) := by decide +kernel
theorem dL_law_812 : decode cL_law 812 = .ok (.iadd, 1) := by decide +kernel
theorem dL_law_813 : decode cL_law 813 = .ok (.iaload, 1) := by decide +kernel
theorem dL_law_814 : decode cL_law 814 = .ok (.invokevirtual 114, 3) := by decide +kernel
theorem dL_law_817 : decode cL_law 817 = .ok (.aload_n 2, 1) := by decide +kernel
theorem dL_law_818 : decode cL_law 818 = .ok (.aload_n 0, 1) := by decide +kernel
theorem dL_law_819 : decode cL_law 819 = .ok (.iload_n 3, 1) := by decide +kernel
theorem dL_law_820 : decode cL_law 820 = .ok (.iconst 1, 1) := by decide +kernel
theorem dL_law_821 : decode cL_law 821 = .ok (.iadd, 1) := by decide +kernel
theorem dL_law_822 : decode cL_law 822 = .ok (.iaload, 1) := by decide +kernel
theorem dL_law_823 : decode cL_law 823 = .ok (.invokevirtual 117, 3) := by decide +kernel
theorem dL_law_826 : decode cL_law 826 = .ok (.if_icmp .eq 199, 3) := by decide +kernel
theorem dL_law_829 : decode cL_law 829 = .ok (.iconst 0, 1) := by decide +kernel
theorem dL_law_830 : decode cL_law 830 = .ok (.ireturn, 1) := by decide +kernel
theorem dL_law_831 : decode cL_law 831 = .ok (.aload_n 1, 1) := by decide +kernel
theorem dL_law_832 : decode cL_law 832 = .ok (.aload_n 0, 1) := by decide +kernel
theorem dL_law_833 : decode cL_law 833 = .ok (.iload_n 3, 1) := by decide +kernel
theorem dL_law_834 : decode cL_law 834 = .ok (.iconst 1, 1) := by decide +kernel
theorem dL_law_835 : decode cL_law 835 = .ok (.iadd, 1) := by decide +kernel
theorem dL_law_836 : decode cL_law 836 = .ok (.iaload, 1) := by decide +kernel
theorem dL_law_837 : decode cL_law 837 = .ok (.aload_n 0, 1) := by decide +kernel
theorem dL_law_838 : decode cL_law 838 = .ok (.iload_n 3, 1) := by decide +kernel
theorem dL_law_839 : decode cL_law 839 = .ok (.iconst 2, 1) := by decide +kernel
theorem dL_law_840 : decode cL_law 840 = .ok (.iadd, 1) := by decide +kernel
theorem dL_law_841 : decode cL_law 841 = .ok (.iaload, 1) := by decide +kernel
theorem dL_law_842 : decode cL_law 842 = .ok (.invokevirtual 118, 3) := by decide +kernel
theorem dL_law_845 : decode cL_law 845 = .ok (.aload_n 2, 1) := by decide +kernel
theorem dL_law_846 : decode cL_law 846 = .ok (.aload_n 0, 1) := by decide +kernel
theorem dL_law_847 : decode cL_law 847 = .ok (.iload_n 3, 1) := by decide +kernel
theorem dL_law_848 : decode cL_law 848 = .ok (.iconst 1, 1) := by decide +kernel
theorem dL_law_849 : decode cL_law 849 = .ok (.iadd, 1) := by decide +kernel
theorem dL_law_850 : decode cL_law 850 = .ok (.iaload, 1) := by decide +kernel
theorem dL_law_851 : decode cL_law 851 = .ok (.aload_n 0, 1) := by decide +kernel
theorem dL_law_852 : decode cL_law 852 = .ok (.iload_n 3, 1) := by decide +kernel
theorem dL_law_853 : decode cL_law 853 = .ok (.iconst 2, 1) := by decide +kernel
theorem dL_law_854 : decode cL_law 854 = .ok (.iadd, 1) := by decide +kernel
theorem dL_law_855 : decode cL_law 855 = .ok (.iaload, 1) := by decide +kernel
theorem dL_law_856 : decode cL_law 856 = .ok (.invokevirtual 121, 3) := by decide +kernel
theorem dL_law_859 : decode cL_law 859 = .ok (.if_icmp .eq 166, 3) := by decide +kernel
theorem dL_law_862 : decode cL_law 862 = .ok (.iconst 0, 1) := by decide +kernel
theorem dL_law_863 : decode cL_law 863 = .ok (.ireturn, 1) := by decide +kernel
theorem dL_law_864 : decode cL_law 864 = .ok (.aload_n 1, 1) := by decide +kernel
theorem dL_law_865 : decode cL_law 865 = .ok (.aload_n 0, 1) := by decide +kernel
theorem dL_law_866 : decode cL_law 866 = .ok (.iload_n 3, 1) := by decide +kernel
theorem dL_law_867 : decode cL_law 867 = .ok (.iconst 1, 1) := by decide +kernel
theorem dL_law_868 : decode cL_law 868 = .ok (.iadd, 1) := by decide +kernel
theorem dL_law_869 : decode cL_law 869 = .ok (.iaload, 1) := by decide +kernel
theorem dL_law_870 : decode cL_law 870 = .ok (.invokevirtual 122, 3) := by decide +kernel
theorem dL_law_873 : decode cL_law 873 = .ok (.aload_n 2, 1) := by decide +kernel
theorem dL_law_874 : decode cL_law 874 = .ok (.aload_n 0, 1) := by decide +kernel
theorem dL_law_875 : decode cL_law 875 = .ok (.iload_n 3, 1) := by decide +kernel
theorem dL_law_876 : decode cL_law 876 = .ok (.iconst 1, 1) := by decide +kernel
theorem dL_law_877 : decode cL_law 877 = .ok (.iadd, 1) := by decide +kernel
theorem dL_law_878 : decode cL_law 878 = .ok (.iaload, 1) := by decide +kernel
theorem dL_law_879 : decode cL_law 879 = .ok (.invokevirtual 125, 3) := by decide +kernel
theorem dL_law_882 : decode cL_law 882 = .ok (.if_icmp .eq 143, 3) := by decide +kernel
theorem dL_law_885 : decode cL_law 885 = .ok (.iconst 0, 1) := by decide +kernel
theorem dL_law_886 : decode cL_law 886 = .ok (.ireturn, 1) := by decide +kernel
theorem dL_law_887 : decode cL_law 887 = .ok (.aload_n 1, 1) := by decide +kernel
theorem dL_law_888 : decode cL_law 888 = .ok (.aload_n 0, 1) := by decide +kernel
theorem dL_law_889 : decode cL_law 889 = .ok (.iload_n 3, 1) := by decide +kernel
theorem dL_law_890 : decode cL_law 890 = .ok (.iconst 1, 1) := by decide +kernel
theorem dL_law_891 : decode cL_law 891 = .ok (.iadd, 1) := by decide +kernel
theorem dL_law_892 : decode cL_law 892 = .ok (.iaload, 1) := by decide +kernel
theorem dL_law_893 : decode cL_law 893 = .ok (.aload_n 0, 1) := by decide +kernel
theorem dL_law_894 : decode cL_law 894 = .ok (.iload_n 3, 1) := by decide +kernel
theorem dL_law_895 : decode cL_law 895 = .ok (.iconst 2, 1) := by decide +kernel
theorem dL_law_896 : decode cL_law 896 = .ok (.iadd, 1) := by decide +kernel
theorem dL_law_897 : decode cL_law 897 = .ok (.iaload, 1) := by decide +kernel
theorem dL_law_898 : decode cL_law 898 = .ok (.aload_n 0, 1) := by decide +kernel
theorem dL_law_899 : decode cL_law 899 = .ok (.iload_n 3, 1) := by decide +kernel
theorem dL_law_900 : decode cL_law 900 = .ok (.iconst 3, 1) := by decide +kernel
theorem dL_law_901 : decode cL_law 901 = .ok (.iadd, 1) := by decide +kernel
theorem dL_law_902 : decode cL_law 902 = .ok (.iaload, 1) := by decide +kernel
theorem dL_law_903 : decode cL_law 903 = .ok (.invokevirtual 126, 3) := by decide +kernel
theorem dL_law_906 : decode cL_law 906 = .ok (.aload_n 2, 1) := by decide +kernel
theorem dL_law_907 : decode cL_law 907 = .ok (.aload_n 0, 1) := by decide +kernel
theorem dL_law_908 : decode cL_law 908 = .ok (.iload_n 3, 1) := by decide +kernel
theorem dL_law_909 : decode cL_law 909 = .ok (.iconst 1, 1) := by decide +kernel
theorem dL_law_910 : decode cL_law 910 = .ok (.iadd, 1) := by decide +kernel
theorem dL_law_911 : decode cL_law 911 = .ok (.iaload, 1) := by decide +kernel
theorem dL_law_912 : decode cL_law 912 = .ok (.aload_n 0, 1) := by decide +kernel
theorem dL_law_913 : decode cL_law 913 = .ok (.iload_n 3, 1) := by decide +kernel
theorem dL_law_914 : decode cL_law 914 = .ok (.iconst 2, 1) := by decide +kernel
theorem dL_law_915 : decode cL_law 915 = .ok (.iadd, 1) := by decide +kernel
theorem dL_law_916 : decode cL_law 916 = .ok (.iaload, 1) := by decide +kernel
theorem dL_law_917 : decode cL_law 917 = .ok (.aload_n 0, 1) := by decide +kernel
theorem dL_law_918 : decode cL_law 918 = .ok (.iload_n 3, 1) := by decide +kernel
theorem dL_law_919 : decode cL_law 919 = .ok (.iconst 3, 1) := by decide +kernel
theorem dL_law_920 : decode cL_law 920 = .ok (.iadd, 1) := by decide +kernel
theorem dL_law_921 : decode cL_law 921 = .ok (.iaload, 1) := by decide +kernel
theorem dL_law_922 : decode cL_law 922 = .ok (.invokevirtual 129, 3) := by decide +kernel
theorem dL_law_925 : decode cL_law 925 = .ok (.if_icmp .eq 100, 3) := by decide +kernel
theorem dL_law_928 : decode cL_law 928 = .ok (.iconst 0, 1) := by decide +kernel
theorem dL_law_929 : decode cL_law 929 = .ok (.ireturn, 1) := by decide +kernel
theorem dL_law_930 : decode cL_law 930 = .ok (.aload_n 1, 1) := by decide +kernel
theorem dL_law_931 : decode cL_law 931 = .ok (.invokevirtual 130, 3) := by decide +kernel
theorem dL_law_934 : decode cL_law 934 = .ok (.aload_n 2, 1) := by decide +kernel
theorem dL_law_935 : decode cL_law 935 = .ok (.invokevirtual 133, 3) := by decide +kernel
theorem dL_law_938 : decode cL_law 938 = .ok (.if_icmp .eq 87, 3) := by decide +kernel
theorem dL_law_941 : decode cL_law 941 = .ok (.iconst 0, 1) := by decide +kernel
theorem dL_law_942 : decode cL_law 942 = .ok (.ireturn, 1) := by decide +kernel
theorem dL_law_943 : decode cL_law 943 = .ok (.aload_n 1, 1) := by decide +kernel
theorem dL_law_944 : decode cL_law 944 = .ok (.invokevirtual 134, 3) := by decide +kernel
theorem dL_law_947 : decode cL_law 947 = .ok (.aload_n 2, 1) := by decide +kernel
theorem dL_law_948 : decode cL_law 948 = .ok (.invokevirtual 137, 3) := by decide +kernel
theorem dL_law_951 : decode cL_law 951 = .ok (.if_icmp .eq 74, 3) := by decide +kernel
theorem dL_law_954 : decode cL_law 954 = .ok (.iconst 0, 1) := by decide +kernel
theorem dL_law_955 : decode cL_law 955 = .ok (.ireturn, 1) := by decide +kernel
theorem dL_law_956 : decode cL_law 956 = .ok (.aload_n 1, 1) := by decide +kernel
theorem dL_law_957 : decode cL_law 957 = .ok (.aload_n 0, 1) := by decide +kernel
theorem dL_law_958 : decode cL_law 958 = .ok (.iload_n 3, 1) := by decide +kernel
theorem dL_law_959 : decode cL_law 959 = .ok (.iconst 1, 1) := by decide +kernel
theorem dL_law_960 : decode cL_law 960 = .ok (.iadd, 1) := by decide +kernel
theorem dL_law_961 : decode cL_law 961 = .ok (.iaload, 1) := by decide +kernel
theorem dL_law_962 : decode cL_law 962 = .ok (.invokevirtual 138, 3) := by decide +kernel
theorem dL_law_965 : decode cL_law 965 = .ok (.aload_n 2, 1) := by decide +kernel
theorem dL_law_966 : decode cL_law 966 = .ok (.aload_n 0, 1) := by decide +kernel
theorem dL_law_967 : decode cL_law 967 = .ok (.iload_n 3, 1) := by decide +kernel
theorem dL_law_968 : decode cL_law 968 = .ok (.iconst 1, 1) := by decide +kernel
theorem dL_law_969 : decode cL_law 969 = .ok (.iadd, 1) := by decide +kernel
theorem dL_law_970 : decode cL_law 970 = .ok (.iaload, 1) := by decide +kernel
theorem dL_law_971 : decode cL_law 971 = .ok (.invokevirtual 141, 3) := by decide +kernel
theorem dL_law_974 : decode cL_law 974 = .ok (.if_icmp .eq 51, 3) := by decide +kernel
theorem dL_law_977 : decode cL_law 977 = .ok (.iconst 0, 1) := by decide +kernel
theorem dL_law_978 : decode cL_law 978 = .ok (.ireturn, 1) := by decide +kernel
theorem dL_law_979 : decode cL_law 979 = .ok (.aload_n 1, 1) := by decide +kernel
theorem dL_law_980 : decode cL_law 980 = .ok (.aload_n 0, 1) := by decide +kernel
theorem dL_law_981 : decode cL_law 981 = .ok (.iload_n 3, 1) := by decide +kernel
theorem dL_law_982 : decode cL_law 982 = .ok (.iconst 1, 1) := by decide +kernel
theorem dL_law_983 : decode cL_law 983 = .ok (.iadd, 1) := by decide +kernel
theorem dL_law_984 : decode cL_law 984 = .ok (.iaload, 1) := by decide +kernel
theorem dL_law_985 : decode cL_law 985 = .ok (.invokevirtual 142, 3) := by decide +kernel
theorem dL_law_988 : decode cL_law 988 = .ok (.aload_n 2, 1) := by decide +kernel
theorem dL_law_989 : decode cL_law 989 = .ok (.aload_n 0, 1) := by decide +kernel
theorem dL_law_990 : decode cL_law 990 = .ok (.iload_n 3, 1) := by decide +kernel
theorem dL_law_991 : decode cL_law 991 = .ok (.iconst 1, 1) := by decide +kernel
theorem dL_law_992 : decode cL_law 992 = .ok (.iadd, 1) := by decide +kernel
theorem dL_law_993 : decode cL_law 993 = .ok (.iaload, 1) := by decide +kernel
theorem dL_law_994 : decode cL_law 994 = .ok (.invokevirtual 145, 3) := by decide +kernel
theorem dL_law_997 : decode cL_law 997 = .ok (.if_icmp .eq 28, 3) := by decide +kernel
theorem dL_law_1000 : decode cL_law 1000 = .ok (.iconst 0, 1) := by decide +kernel
theorem dL_law_1001 : decode cL_law 1001 = .ok (.ireturn, 1) := by decide +kernel
theorem dL_law_1002 : decode cL_law 1002 = .ok (.aload_n 1, 1) := by decide +kernel
theorem dL_law_1003 : decode cL_law 1003 = .ok (.aload_n 0, 1) := by decide +kernel
theorem dL_law_1004 : decode cL_law 1004 = .ok (.iload_n 3, 1) := by decide +kernel
theorem dL_law_1005 : decode cL_law 1005 = .ok (.iconst 1, 1) := by decide +kernel
theorem dL_law_1006 : decode cL_law 1006 = .ok (.iadd, 1) := by decide +kernel
theorem dL_law_1007 : decode cL_law 1007 = .ok (.iaload, 1) := by decide +kernel
theorem dL_law_1008 : decode cL_law 1008 = .ok (.invokevirtual 146, 3) := by decide +kernel
theorem dL_law_1011 : decode cL_law 1011 = .ok (.aload_n 2, 1) := by decide +kernel
theorem dL_law_1012 : decode cL_law 1012 = .ok (.aload_n 0, 1) := by decide +kernel
theorem dL_law_1013 : decode cL_law 1013 = .ok (.iload_n 3, 1) := by decide +kernel
theorem dL_law_1014 : decode cL_law 1014 = .ok (.iconst 1, 1) := by decide +kernel
theorem dL_law_1015 : decode cL_law 1015 = .ok (.iadd, 1) := by decide +kernel
theorem dL_law_1016 : decode cL_law 1016 = .ok (.iaload, 1) := by decide +kernel
theorem dL_law_1017 : decode cL_law 1017 = .ok (.invokevirtual 149, 3) := by decide +kernel
theorem dL_law_1020 : decode cL_law 1020 = .ok (.if_icmp .eq 5, 3) := by decide +kernel
theorem dL_law_1023 : decode cL_law 1023 = .ok (.iconst 0, 1) := by decide +kernel
theorem dL_law_1024 : decode cL_law 1024 = .ok (.ireturn, 1) := by decide +kernel
theorem dL_law_1025 : decode cL_law 1025 = .ok (.iinc 3 4, 3) := by decide +kernel
theorem dL_law_1028 : decode cL_law 1028 = .ok (.goto (-1010), 3) := by decide +kernel
theorem dL_law_1031 : decode cL_law 1031 = .ok (.iconst 1, 1) := by decide +kernel
theorem dL_law_1032 : decode cL_law 1032 = .ok (.ireturn, 1) := by decide +kernel
end
