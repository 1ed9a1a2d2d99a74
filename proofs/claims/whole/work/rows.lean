section
-- ===== PART A: goes FIRST, ahead of the names: the tables' words, and 'selects' of the private methods out of them =====
/-- a private method of a class that the tables say can be made, by its rows of tables_1 -/
def lw_okq (q : MethodName × Nat) : Prop := (q.1.cls ≠ "java/lang/invoke/MethodHandle" ∧ q.1.cls ≠ "java/lang/invoke/VarHandle") ∧ Cond.instantiable q.1.cls q.2 ∈ tables_1 ∧ Cond.privateMethod q.1 ∈ tables_1 ∧ Cond.instanceMethod q.1 ∈ tables_1
theorem lw_p0 : lw_okq (⟨"SugarStamps$Reader", "readLine", "()Z"⟩, 6) := ⟨⟨by decide +kernel, by decide +kernel⟩, List.mem_of_getElem? (i := 123) (by decide +kernel), List.mem_of_getElem? (i := 342) (by decide +kernel), List.mem_of_getElem? (i := 343) (by decide +kernel)⟩
theorem lw_p1 : lw_okq (⟨"SugarStamps$Reader", "takeToken", "()V"⟩, 6) := ⟨⟨by decide +kernel, by decide +kernel⟩, List.mem_of_getElem? (i := 123) (by decide +kernel), List.mem_of_getElem? (i := 346) (by decide +kernel), List.mem_of_getElem? (i := 347) (by decide +kernel)⟩
theorem lw_p2 : lw_okq (⟨"SugarStamps$Reader", "tokenIs", "(Ljava/lang/String;)Z"⟩, 6) := ⟨⟨by decide +kernel, by decide +kernel⟩, List.mem_of_getElem? (i := 123) (by decide +kernel), List.mem_of_getElem? (i := 361) (by decide +kernel), List.mem_of_getElem? (i := 362) (by decide +kernel)⟩
theorem lw_p3 : lw_okq (⟨"SugarStamps$Reader", "readOffice", "()Z"⟩, 6) := ⟨⟨by decide +kernel, by decide +kernel⟩, List.mem_of_getElem? (i := 123) (by decide +kernel), List.mem_of_getElem? (i := 413) (by decide +kernel), List.mem_of_getElem? (i := 414) (by decide +kernel)⟩
theorem lw_p4 : lw_okq (⟨"SugarStamps$Reader", "readNumber", "(II)I"⟩, 6) := ⟨⟨by decide +kernel, by decide +kernel⟩, List.mem_of_getElem? (i := 123) (by decide +kernel), List.mem_of_getElem? (i := 417) (by decide +kernel), List.mem_of_getElem? (i := 418) (by decide +kernel)⟩
theorem lw_p5 : lw_okq (⟨"SugarStamps$Reader", "refuseToken", "()Z"⟩, 6) := ⟨⟨by decide +kernel, by decide +kernel⟩, List.mem_of_getElem? (i := 123) (by decide +kernel), List.mem_of_getElem? (i := 421) (by decide +kernel), List.mem_of_getElem? (i := 422) (by decide +kernel)⟩
theorem lw_p6 : lw_okq (⟨"SugarStamps$Reader", "readKind", "(I)Z"⟩, 6) := ⟨⟨by decide +kernel, by decide +kernel⟩, List.mem_of_getElem? (i := 123) (by decide +kernel), List.mem_of_getElem? (i := 427) (by decide +kernel), List.mem_of_getElem? (i := 428) (by decide +kernel)⟩
theorem lw_p7 : lw_okq (⟨"SugarStamps$Reader", "readTrail", "()Z"⟩, 6) := ⟨⟨by decide +kernel, by decide +kernel⟩, List.mem_of_getElem? (i := 123) (by decide +kernel), List.mem_of_getElem? (i := 435) (by decide +kernel), List.mem_of_getElem? (i := 436) (by decide +kernel)⟩
theorem lw_p8 : lw_okq (⟨"SugarStamps$Reader", "readDeskUnlike", "(I)I"⟩, 6) := ⟨⟨by decide +kernel, by decide +kernel⟩, List.mem_of_getElem? (i := 123) (by decide +kernel), List.mem_of_getElem? (i := 439) (by decide +kernel), List.mem_of_getElem? (i := 440) (by decide +kernel)⟩
theorem lw_p9 : lw_okq (⟨"SugarStamps$Reader", "readFile", "()Z"⟩, 6) := ⟨⟨by decide +kernel, by decide +kernel⟩, List.mem_of_getElem? (i := 123) (by decide +kernel), List.mem_of_getElem? (i := 448) (by decide +kernel), List.mem_of_getElem? (i := 449) (by decide +kernel)⟩
theorem lw_p10 : lw_okq (⟨"SugarStamps$Reader", "readFade", "()Z"⟩, 6) := ⟨⟨by decide +kernel, by decide +kernel⟩, List.mem_of_getElem? (i := 123) (by decide +kernel), List.mem_of_getElem? (i := 457) (by decide +kernel), List.mem_of_getElem? (i := 458) (by decide +kernel)⟩
theorem lw_p11 : lw_okq (⟨"SugarStamps$Reader", "readWinter", "()Z"⟩, 6) := ⟨⟨by decide +kernel, by decide +kernel⟩, List.mem_of_getElem? (i := 123) (by decide +kernel), List.mem_of_getElem? (i := 462) (by decide +kernel), List.mem_of_getElem? (i := 463) (by decide +kernel)⟩
theorem lw_p12 : lw_okq (⟨"SugarStamps", "isDesk", "(I)Z"⟩, 9) := ⟨⟨by decide +kernel, by decide +kernel⟩, List.mem_of_getElem? (i := 19) (by decide +kernel), List.mem_of_getElem? (i := 485) (by decide +kernel), List.mem_of_getElem? (i := 486) (by decide +kernel)⟩
theorem lw_p13 : lw_okq (⟨"SugarStamps", "isTrail", "(I)Z"⟩, 9) := ⟨⟨by decide +kernel, by decide +kernel⟩, List.mem_of_getElem? (i := 19) (by decide +kernel), List.mem_of_getElem? (i := 505) (by decide +kernel), List.mem_of_getElem? (i := 506) (by decide +kernel)⟩
theorem lw_p14 : lw_okq (⟨"SugarStamps", "isFile", "(I)Z"⟩, 9) := ⟨⟨by decide +kernel, by decide +kernel⟩, List.mem_of_getElem? (i := 19) (by decide +kernel), List.mem_of_getElem? (i := 513) (by decide +kernel), List.mem_of_getElem? (i := 514) (by decide +kernel)⟩
theorem lw_p15 : lw_okq (⟨"SugarStamps$Course", "findSweetest", "(LSugarStamps$Told;)V"⟩, 11) := ⟨⟨by decide +kernel, by decide +kernel⟩, List.mem_of_getElem? (i := 153) (by decide +kernel), List.mem_of_getElem? (i := 551) (by decide +kernel), List.mem_of_getElem? (i := 552) (by decide +kernel)⟩
def lw_privs_1 : List (MethodName × Nat) := [(⟨"SugarStamps$Reader", "readLine", "()Z"⟩, 6), (⟨"SugarStamps$Reader", "takeToken", "()V"⟩, 6), (⟨"SugarStamps$Reader", "tokenIs", "(Ljava/lang/String;)Z"⟩, 6), (⟨"SugarStamps$Reader", "readOffice", "()Z"⟩, 6), (⟨"SugarStamps$Reader", "readNumber", "(II)I"⟩, 6), (⟨"SugarStamps$Reader", "refuseToken", "()Z"⟩, 6), (⟨"SugarStamps$Reader", "readKind", "(I)Z"⟩, 6), (⟨"SugarStamps$Reader", "readTrail", "()Z"⟩, 6), (⟨"SugarStamps$Reader", "readDeskUnlike", "(I)I"⟩, 6), (⟨"SugarStamps$Reader", "readFile", "()Z"⟩, 6), (⟨"SugarStamps$Reader", "readFade", "()Z"⟩, 6), (⟨"SugarStamps$Reader", "readWinter", "()Z"⟩, 6), (⟨"SugarStamps", "isDesk", "(I)Z"⟩, 9), (⟨"SugarStamps", "isTrail", "(I)Z"⟩, 9), (⟨"SugarStamps", "isFile", "(I)Z"⟩, 9), (⟨"SugarStamps$Course", "findSweetest", "(LSugarStamps$Told;)V"⟩, 11)]
theorem lw_r1 : ∀ q ∈ lw_privs_1, lw_okq q := List.forall_mem_cons.mpr ⟨lw_p0, List.forall_mem_cons.mpr ⟨lw_p1, List.forall_mem_cons.mpr ⟨lw_p2, List.forall_mem_cons.mpr ⟨lw_p3, List.forall_mem_cons.mpr ⟨lw_p4, List.forall_mem_cons.mpr ⟨lw_p5, List.forall_mem_cons.mpr ⟨lw_p6, List.forall_mem_cons.mpr ⟨lw_p7, List.forall_mem_cons.mpr ⟨lw_p8, List.forall_mem_cons.mpr ⟨lw_p9, List.forall_mem_cons.mpr ⟨lw_p10, List.forall_mem_cons.mpr ⟨lw_p11, List.forall_mem_cons.mpr ⟨lw_p12, List.forall_mem_cons.mpr ⟨lw_p13, List.forall_mem_cons.mpr ⟨lw_p14, List.forall_mem_cons.mpr ⟨lw_p15, fun _ h => absurd h List.not_mem_nil⟩⟩⟩⟩⟩⟩⟩⟩⟩⟩⟩⟩⟩⟩⟩⟩
theorem lw_p16 : lw_okq (⟨"SugarStamps$Course", "wayFrom", "(IILSugarStamps$Told;)I"⟩, 11) := ⟨⟨by decide +kernel, by decide +kernel⟩, List.mem_of_getElem? (i := 153) (by decide +kernel), List.mem_of_getElem? (i := 563) (by decide +kernel), List.mem_of_getElem? (i := 564) (by decide +kernel)⟩
theorem lw_p17 : lw_okq (⟨"SugarStamps$Course", "leaveScent", "(LSugarStamps$Told;)V"⟩, 11) := ⟨⟨by decide +kernel, by decide +kernel⟩, List.mem_of_getElem? (i := 153) (by decide +kernel), List.mem_of_getElem? (i := 568) (by decide +kernel), List.mem_of_getElem? (i := 569) (by decide +kernel)⟩
theorem lw_p18 : lw_okq (⟨"SugarStamps$Course", "fadeScents", "(LSugarStamps$Told;)V"⟩, 11) := ⟨⟨by decide +kernel, by decide +kernel⟩, List.mem_of_getElem? (i := 153) (by decide +kernel), List.mem_of_getElem? (i := 573) (by decide +kernel), List.mem_of_getElem? (i := 574) (by decide +kernel)⟩
theorem lw_p19 : lw_okq (⟨"SugarStamps$Course", "arrive", "(LSugarStamps$Told;)V"⟩, 11) := ⟨⟨by decide +kernel, by decide +kernel⟩, List.mem_of_getElem? (i := 153) (by decide +kernel), List.mem_of_getElem? (i := 578) (by decide +kernel), List.mem_of_getElem? (i := 579) (by decide +kernel)⟩
theorem lw_p20 : lw_okq (⟨"SugarStamps$Foresight", "mayBeInTime", "(II)Z"⟩, 7) := ⟨⟨by decide +kernel, by decide +kernel⟩, List.mem_of_getElem? (i := 220) (by decide +kernel), List.mem_of_getElem? (i := 665) (by decide +kernel), List.mem_of_getElem? (i := 666) (by decide +kernel)⟩
theorem lw_p21 : lw_okq (⟨"SugarStamps$Foresight", "stepOver", "(IIIZ)V"⟩, 7) := ⟨⟨by decide +kernel, by decide +kernel⟩, List.mem_of_getElem? (i := 220) (by decide +kernel), List.mem_of_getElem? (i := 674) (by decide +kernel), List.mem_of_getElem? (i := 675) (by decide +kernel)⟩
theorem lw_p22 : lw_okq (⟨"SugarStamps$Foresight", "spreads", "(IIIII)Z"⟩, 7) := ⟨⟨by decide +kernel, by decide +kernel⟩, List.mem_of_getElem? (i := 220) (by decide +kernel), List.mem_of_getElem? (i := 679) (by decide +kernel), List.mem_of_getElem? (i := 680) (by decide +kernel)⟩
theorem lw_p23 : lw_okq (⟨"SugarStamps$Foresight", "giveShares", "(I)V"⟩, 7) := ⟨⟨by decide +kernel, by decide +kernel⟩, List.mem_of_getElem? (i := 220) (by decide +kernel), List.mem_of_getElem? (i := 683) (by decide +kernel), List.mem_of_getElem? (i := 684) (by decide +kernel)⟩
theorem lw_p24 : lw_okq (⟨"SugarStamps$Foresight", "agreesWith", "(LSugarStamps$Sightings;I)Z"⟩, 7) := ⟨⟨by decide +kernel, by decide +kernel⟩, List.mem_of_getElem? (i := 220) (by decide +kernel), List.mem_of_getElem? (i := 741) (by decide +kernel), List.mem_of_getElem? (i := 742) (by decide +kernel)⟩
theorem lw_p25 : lw_okq (⟨"SugarStampsModel", "clear", "(I)V"⟩, 25) := ⟨⟨by decide +kernel, by decide +kernel⟩, List.mem_of_getElem? (i := 774) (by decide +kernel), List.mem_of_getElem? (i := 780) (by decide +kernel), List.mem_of_getElem? (i := 781) (by decide +kernel)⟩
theorem lw_p26 : lw_okq (⟨"SugarStampsModel", "begin", "()V"⟩, 25) := ⟨⟨by decide +kernel, by decide +kernel⟩, List.mem_of_getElem? (i := 774) (by decide +kernel), List.mem_of_getElem? (i := 784) (by decide +kernel), List.mem_of_getElem? (i := 785) (by decide +kernel)⟩
theorem lw_p27 : lw_okq (⟨"SugarStampsModel", "copy", "(II)V"⟩, 25) := ⟨⟨by decide +kernel, by decide +kernel⟩, List.mem_of_getElem? (i := 774) (by decide +kernel), List.mem_of_getElem? (i := 788) (by decide +kernel), List.mem_of_getElem? (i := 789) (by decide +kernel)⟩
theorem lw_p28 : lw_okq (⟨"SugarStampsModel", "token", "()V"⟩, 25) := ⟨⟨by decide +kernel, by decide +kernel⟩, List.mem_of_getElem? (i := 774) (by decide +kernel), List.mem_of_getElem? (i := 885) (by decide +kernel), List.mem_of_getElem? (i := 886) (by decide +kernel)⟩
theorem lw_p29 : lw_okq (⟨"SugarStampsModel", "readsLine", "()Z"⟩, 25) := ⟨⟨by decide +kernel, by decide +kernel⟩, List.mem_of_getElem? (i := 774) (by decide +kernel), List.mem_of_getElem? (i := 892) (by decide +kernel), List.mem_of_getElem? (i := 893) (by decide +kernel)⟩
theorem lw_p30 : lw_okq (⟨"SugarStampsModel", "wordOf", "()I"⟩, 25) := ⟨⟨by decide +kernel, by decide +kernel⟩, List.mem_of_getElem? (i := 774) (by decide +kernel), List.mem_of_getElem? (i := 896) (by decide +kernel), List.mem_of_getElem? (i := 897) (by decide +kernel)⟩
theorem lw_p31 : lw_okq (⟨"SugarStampsModel", "deskWord", "()I"⟩, 25) := ⟨⟨by decide +kernel, by decide +kernel⟩, List.mem_of_getElem? (i := 774) (by decide +kernel), List.mem_of_getElem? (i := 900) (by decide +kernel), List.mem_of_getElem? (i := 901) (by decide +kernel)⟩
def lw_privs_2 : List (MethodName × Nat) := [(⟨"SugarStamps$Course", "wayFrom", "(IILSugarStamps$Told;)I"⟩, 11), (⟨"SugarStamps$Course", "leaveScent", "(LSugarStamps$Told;)V"⟩, 11), (⟨"SugarStamps$Course", "fadeScents", "(LSugarStamps$Told;)V"⟩, 11), (⟨"SugarStamps$Course", "arrive", "(LSugarStamps$Told;)V"⟩, 11), (⟨"SugarStamps$Foresight", "mayBeInTime", "(II)Z"⟩, 7), (⟨"SugarStamps$Foresight", "stepOver", "(IIIZ)V"⟩, 7), (⟨"SugarStamps$Foresight", "spreads", "(IIIII)Z"⟩, 7), (⟨"SugarStamps$Foresight", "giveShares", "(I)V"⟩, 7), (⟨"SugarStamps$Foresight", "agreesWith", "(LSugarStamps$Sightings;I)Z"⟩, 7), (⟨"SugarStampsModel", "clear", "(I)V"⟩, 25), (⟨"SugarStampsModel", "begin", "()V"⟩, 25), (⟨"SugarStampsModel", "copy", "(II)V"⟩, 25), (⟨"SugarStampsModel", "token", "()V"⟩, 25), (⟨"SugarStampsModel", "readsLine", "()Z"⟩, 25), (⟨"SugarStampsModel", "wordOf", "()I"⟩, 25), (⟨"SugarStampsModel", "deskWord", "()I"⟩, 25)]
theorem lw_r2 : ∀ q ∈ lw_privs_2, lw_okq q := List.forall_mem_cons.mpr ⟨lw_p16, List.forall_mem_cons.mpr ⟨lw_p17, List.forall_mem_cons.mpr ⟨lw_p18, List.forall_mem_cons.mpr ⟨lw_p19, List.forall_mem_cons.mpr ⟨lw_p20, List.forall_mem_cons.mpr ⟨lw_p21, List.forall_mem_cons.mpr ⟨lw_p22, List.forall_mem_cons.mpr ⟨lw_p23, List.forall_mem_cons.mpr ⟨lw_p24, List.forall_mem_cons.mpr ⟨lw_p25, List.forall_mem_cons.mpr ⟨lw_p26, List.forall_mem_cons.mpr ⟨lw_p27, List.forall_mem_cons.mpr ⟨lw_p28, List.forall_mem_cons.mpr ⟨lw_p29, List.forall_mem_cons.mpr ⟨lw_p30, List.forall_mem_cons.mpr ⟨lw_p31, fun _ h => absurd h List.not_mem_nil⟩⟩⟩⟩⟩⟩⟩⟩⟩⟩⟩⟩⟩⟩⟩⟩
theorem lw_p32 : lw_okq (⟨"SugarStampsModel", "isWord", "(II)Z"⟩, 25) := ⟨⟨by decide +kernel, by decide +kernel⟩, List.mem_of_getElem? (i := 774) (by decide +kernel), List.mem_of_getElem? (i := 905) (by decide +kernel), List.mem_of_getElem? (i := 906) (by decide +kernel)⟩
theorem lw_p33 : lw_okq (⟨"SugarStampsModel", "readsRest", "(I)Z"⟩, 25) := ⟨⟨by decide +kernel, by decide +kernel⟩, List.mem_of_getElem? (i := 774) (by decide +kernel), List.mem_of_getElem? (i := 917) (by decide +kernel), List.mem_of_getElem? (i := 918) (by decide +kernel)⟩
theorem lw_p34 : lw_okq (⟨"SugarStampsModel", "reads", "(IIII)Z"⟩, 25) := ⟨⟨by decide +kernel, by decide +kernel⟩, List.mem_of_getElem? (i := 774) (by decide +kernel), List.mem_of_getElem? (i := 921) (by decide +kernel), List.mem_of_getElem? (i := 922) (by decide +kernel)⟩
theorem lw_p35 : lw_okq (⟨"SugarStampsModel", "tell", "(I)V"⟩, 25) := ⟨⟨by decide +kernel, by decide +kernel⟩, List.mem_of_getElem? (i := 774) (by decide +kernel), List.mem_of_getElem? (i := 930) (by decide +kernel), List.mem_of_getElem? (i := 931) (by decide +kernel)⟩
theorem lw_p36 : lw_okq (⟨"SugarStampsModel", "isDesk", "(I)Z"⟩, 25) := ⟨⟨by decide +kernel, by decide +kernel⟩, List.mem_of_getElem? (i := 774) (by decide +kernel), List.mem_of_getElem? (i := 938) (by decide +kernel), List.mem_of_getElem? (i := 939) (by decide +kernel)⟩
theorem lw_p37 : lw_okq (⟨"SugarStampsModel", "isOf", "(II)Z"⟩, 25) := ⟨⟨by decide +kernel, by decide +kernel⟩, List.mem_of_getElem? (i := 774) (by decide +kernel), List.mem_of_getElem? (i := 942) (by decide +kernel), List.mem_of_getElem? (i := 943) (by decide +kernel)⟩
theorem lw_p38 : lw_okq (⟨"SugarStampsModel", "isTrail", "(I)Z"⟩, 25) := ⟨⟨by decide +kernel, by decide +kernel⟩, List.mem_of_getElem? (i := 774) (by decide +kernel), List.mem_of_getElem? (i := 950) (by decide +kernel), List.mem_of_getElem? (i := 951) (by decide +kernel)⟩
theorem lw_p39 : lw_okq (⟨"SugarStampsModel", "isFile", "(I)Z"⟩, 25) := ⟨⟨by decide +kernel, by decide +kernel⟩, List.mem_of_getElem? (i := 774) (by decide +kernel), List.mem_of_getElem? (i := 958) (by decide +kernel), List.mem_of_getElem? (i := 959) (by decide +kernel)⟩
theorem lw_p40 : lw_okq (⟨"SugarStampsModel", "sweetAt", "(II)I"⟩, 25) := ⟨⟨by decide +kernel, by decide +kernel⟩, List.mem_of_getElem? (i := 774) (by decide +kernel), List.mem_of_getElem? (i := 967) (by decide +kernel), List.mem_of_getElem? (i := 968) (by decide +kernel)⟩
theorem lw_p41 : lw_okq (⟨"SugarStampsModel", "minute", "(I)V"⟩, 25) := ⟨⟨by decide +kernel, by decide +kernel⟩, List.mem_of_getElem? (i := 774) (by decide +kernel), List.mem_of_getElem? (i := 976) (by decide +kernel), List.mem_of_getElem? (i := 977) (by decide +kernel)⟩
theorem lw_p42 : lw_okq (⟨"SugarStampsModel", "layCarried", "(I)V"⟩, 25) := ⟨⟨by decide +kernel, by decide +kernel⟩, List.mem_of_getElem? (i := 774) (by decide +kernel), List.mem_of_getElem? (i := 980) (by decide +kernel), List.mem_of_getElem? (i := 981) (by decide +kernel)⟩
theorem lw_p43 : lw_okq (⟨"SugarStampsModel", "sweetest", "(II)I"⟩, 25) := ⟨⟨by decide +kernel, by decide +kernel⟩, List.mem_of_getElem? (i := 774) (by decide +kernel), List.mem_of_getElem? (i := 984) (by decide +kernel), List.mem_of_getElem? (i := 985) (by decide +kernel)⟩
theorem lw_p44 : lw_okq (⟨"SugarStampsModel", "strongest", "(III)I"⟩, 25) := ⟨⟨by decide +kernel, by decide +kernel⟩, List.mem_of_getElem? (i := 774) (by decide +kernel), List.mem_of_getElem? (i := 988) (by decide +kernel), List.mem_of_getElem? (i := 989) (by decide +kernel)⟩
theorem lw_p45 : lw_okq (⟨"SugarStampsModel", "arrive", "(III)V"⟩, 25) := ⟨⟨by decide +kernel, by decide +kernel⟩, List.mem_of_getElem? (i := 774) (by decide +kernel), List.mem_of_getElem? (i := 992) (by decide +kernel), List.mem_of_getElem? (i := 993) (by decide +kernel)⟩
theorem lw_p46 : lw_okq (⟨"SugarStampsModel", "tryFor", "(I)V"⟩, 25) := ⟨⟨by decide +kernel, by decide +kernel⟩, List.mem_of_getElem? (i := 774) (by decide +kernel), List.mem_of_getElem? (i := 1030) (by decide +kernel), List.mem_of_getElem? (i := 1031) (by decide +kernel)⟩
theorem lw_p47 : lw_okq (⟨"SugarStampsModel", "filedIn", "(II)I"⟩, 25) := ⟨⟨by decide +kernel, by decide +kernel⟩, List.mem_of_getElem? (i := 774) (by decide +kernel), List.mem_of_getElem? (i := 1038) (by decide +kernel), List.mem_of_getElem? (i := 1039) (by decide +kernel)⟩
def lw_privs_3 : List (MethodName × Nat) := [(⟨"SugarStampsModel", "isWord", "(II)Z"⟩, 25), (⟨"SugarStampsModel", "readsRest", "(I)Z"⟩, 25), (⟨"SugarStampsModel", "reads", "(IIII)Z"⟩, 25), (⟨"SugarStampsModel", "tell", "(I)V"⟩, 25), (⟨"SugarStampsModel", "isDesk", "(I)Z"⟩, 25), (⟨"SugarStampsModel", "isOf", "(II)Z"⟩, 25), (⟨"SugarStampsModel", "isTrail", "(I)Z"⟩, 25), (⟨"SugarStampsModel", "isFile", "(I)Z"⟩, 25), (⟨"SugarStampsModel", "sweetAt", "(II)I"⟩, 25), (⟨"SugarStampsModel", "minute", "(I)V"⟩, 25), (⟨"SugarStampsModel", "layCarried", "(I)V"⟩, 25), (⟨"SugarStampsModel", "sweetest", "(II)I"⟩, 25), (⟨"SugarStampsModel", "strongest", "(III)I"⟩, 25), (⟨"SugarStampsModel", "arrive", "(III)V"⟩, 25), (⟨"SugarStampsModel", "tryFor", "(I)V"⟩, 25), (⟨"SugarStampsModel", "filedIn", "(II)I"⟩, 25)]
theorem lw_r3 : ∀ q ∈ lw_privs_3, lw_okq q := List.forall_mem_cons.mpr ⟨lw_p32, List.forall_mem_cons.mpr ⟨lw_p33, List.forall_mem_cons.mpr ⟨lw_p34, List.forall_mem_cons.mpr ⟨lw_p35, List.forall_mem_cons.mpr ⟨lw_p36, List.forall_mem_cons.mpr ⟨lw_p37, List.forall_mem_cons.mpr ⟨lw_p38, List.forall_mem_cons.mpr ⟨lw_p39, List.forall_mem_cons.mpr ⟨lw_p40, List.forall_mem_cons.mpr ⟨lw_p41, List.forall_mem_cons.mpr ⟨lw_p42, List.forall_mem_cons.mpr ⟨lw_p43, List.forall_mem_cons.mpr ⟨lw_p44, List.forall_mem_cons.mpr ⟨lw_p45, List.forall_mem_cons.mpr ⟨lw_p46, List.forall_mem_cons.mpr ⟨lw_p47, fun _ h => absurd h List.not_mem_nil⟩⟩⟩⟩⟩⟩⟩⟩⟩⟩⟩⟩⟩⟩⟩⟩
theorem lw_p48 : lw_okq (⟨"SugarStampsModel", "filedSet", "(I)I"⟩, 25) := ⟨⟨by decide +kernel, by decide +kernel⟩, List.mem_of_getElem? (i := 774) (by decide +kernel), List.mem_of_getElem? (i := 1054) (by decide +kernel), List.mem_of_getElem? (i := 1055) (by decide +kernel)⟩
theorem lw_p49 : lw_okq (⟨"SugarStampsModel", "gives", "(III)I"⟩, 25) := ⟨⟨by decide +kernel, by decide +kernel⟩, List.mem_of_getElem? (i := 774) (by decide +kernel), List.mem_of_getElem? (i := 1058) (by decide +kernel), List.mem_of_getElem? (i := 1059) (by decide +kernel)⟩
theorem lw_p50 : lw_okq (⟨"SugarStampsModel", "harmOf", "(II)I"⟩, 25) := ⟨⟨by decide +kernel, by decide +kernel⟩, List.mem_of_getElem? (i := 774) (by decide +kernel), List.mem_of_getElem? (i := 1081) (by decide +kernel), List.mem_of_getElem? (i := 1082) (by decide +kernel)⟩
theorem lw_p51 : lw_okq (⟨"SugarStampsModel", "filedBy", "(II)I"⟩, 25) := ⟨⟨by decide +kernel, by decide +kernel⟩, List.mem_of_getElem? (i := 774) (by decide +kernel), List.mem_of_getElem? (i := 1085) (by decide +kernel), List.mem_of_getElem? (i := 1086) (by decide +kernel)⟩
theorem lw_p52 : lw_okq (⟨"SugarStampsModel", "isSoBy", "(II)Z"⟩, 25) := ⟨⟨by decide +kernel, by decide +kernel⟩, List.mem_of_getElem? (i := 774) (by decide +kernel), List.mem_of_getElem? (i := 1105) (by decide +kernel), List.mem_of_getElem? (i := 1106) (by decide +kernel)⟩
def lw_privs_4 : List (MethodName × Nat) := [(⟨"SugarStampsModel", "filedSet", "(I)I"⟩, 25), (⟨"SugarStampsModel", "gives", "(III)I"⟩, 25), (⟨"SugarStampsModel", "harmOf", "(II)I"⟩, 25), (⟨"SugarStampsModel", "filedBy", "(II)I"⟩, 25), (⟨"SugarStampsModel", "isSoBy", "(II)Z"⟩, 25)]
theorem lw_r4 : ∀ q ∈ lw_privs_4, lw_okq q := List.forall_mem_cons.mpr ⟨lw_p48, List.forall_mem_cons.mpr ⟨lw_p49, List.forall_mem_cons.mpr ⟨lw_p50, List.forall_mem_cons.mpr ⟨lw_p51, List.forall_mem_cons.mpr ⟨lw_p52, fun _ h => absurd h List.not_mem_nil⟩⟩⟩⟩⟩
def lw_privs : List (MethodName × Nat) := lw_privs_1 ++ (lw_privs_2 ++ (lw_privs_3 ++ (lw_privs_4)))
def lw_tbl : List Cond := k2_sels lw_privs ++ tables_1
theorem lw_privs_ok : ∀ q ∈ lw_privs, lw_okq q := by
  show ∀ q ∈ lw_privs_1 ++ (lw_privs_2 ++ (lw_privs_3 ++ (lw_privs_4))), lw_okq q
  exact List.forall_mem_append.mpr ⟨lw_r1, List.forall_mem_append.mpr ⟨lw_r2, List.forall_mem_append.mpr ⟨lw_r3, lw_r4⟩⟩⟩
-- ===== end of PART A; then your names; then what follows =====
end
section
def RX0 : String := "SugarStamps$Course"
def TX0 : u_T := fun k => match k with
  | 0 => ("SugarStamps$Course", "winter", "I", false)
  | 1 => ("SugarStamps$Course", "gone", "I", false)
  | 2 => ("SugarStamps$Course", "queen", "I", false)
  | 3 => ("SugarStamps$Course", "filedFiles", "I", false)
  | 4 => ("SugarStamps$Course", "scent", "[I", true)
  | 5 => ("SugarStamps$Course", "at", "[I", true)
  | 6 => ("SugarStamps$Course", "sweetness", "[I", true)
  | 7 => ("SugarStamps$Course", "cameBy", "[I", true)
  | 8 => ("SugarStamps$Course", "filedIn", "[I", true)
  | 9 => ("SugarStamps$Course", "carriedBy", "[I", true)
  | _ => ("SugarStamps$Course", "sweetest", "[I", true)
def tyX0 : Nat → FieldType := fun k => match k with
  | 0 => .int
  | 1 => .int
  | 2 => .int
  | 3 => .int
  | 4 => .array .int
  | 5 => .array .int
  | 6 => .array .int
  | 7 => .array .int
  | 8 => .array .int
  | 9 => .array .int
  | _ => .array .int
theorem nmX0 : ∀ a, a < 11 → ∀ b, b < 11 → a ≠ b → (TX0 a).2.1 ≠ (TX0 b).2.1 := by decide +kernel
theorem tyX0_ok : ∀ k, k < 11 → parseFieldDescriptor (TX0 k).2.2.1 = some (tyX0 k) := by decide +kernel
abbrev cX0_init : ByteArray := prog_2_method_1_code
def yX0_init : MethodName := ⟨RX0, "<init>", "()V"⟩
abbrev cX0_begin : ByteArray := prog_2_method_2_code
def yX0_begin : MethodName := ⟨RX0, "begin", "(LSugarStamps$Told;)V"⟩
abbrev cX0_takeFrom : ByteArray := prog_2_method_3_code
def yX0_takeFrom : MethodName := ⟨RX0, "takeFrom", "(LSugarStamps$Course;)V"⟩
abbrev cX0_run : ByteArray := prog_2_method_4_code
def yX0_run : MethodName := ⟨RX0, "run", "(LSugarStamps$Told;I)V"⟩
abbrev cX0_runUntilFiled : ByteArray := prog_2_method_5_code
def yX0_runUntilFiled : MethodName := ⟨RX0, "runUntilFiled", "(LSugarStamps$Told;II)Z"⟩
abbrev cX0_passMinute : ByteArray := prog_2_method_6_code
def yX0_passMinute : MethodName := ⟨RX0, "passMinute", "(LSugarStamps$Told;)Z"⟩
abbrev cX0_choose : ByteArray := prog_2_method_7_code
def yX0_choose : MethodName := ⟨RX0, "choose", "(LSugarStamps$Told;)Z"⟩
abbrev cX0_letsGo : ByteArray := prog_2_method_8_code
def yX0_letsGo : MethodName := ⟨RX0, "letsGo", "(ILSugarStamps$Told;)Z"⟩
abbrev cX0_findSweetest : ByteArray := prog_2_method_9_code
def yX0_findSweetest : MethodName := ⟨RX0, "findSweetest", "(LSugarStamps$Told;)V"⟩
abbrev cX0_wayFrom : ByteArray := prog_2_method_10_code
def yX0_wayFrom : MethodName := ⟨RX0, "wayFrom", "(IILSugarStamps$Told;)I"⟩
abbrev cX0_leaveScent : ByteArray := prog_2_method_11_code
def yX0_leaveScent : MethodName := ⟨RX0, "leaveScent", "(LSugarStamps$Told;)V"⟩
abbrev cX0_fadeScents : ByteArray := prog_2_method_12_code
def yX0_fadeScents : MethodName := ⟨RX0, "fadeScents", "(LSugarStamps$Told;)V"⟩
abbrev cX0_arrive : ByteArray := prog_2_method_13_code
def yX0_arrive : MethodName := ⟨RX0, "arrive", "(LSugarStamps$Told;)V"⟩
abbrev cX0_isFiled : ByteArray := prog_2_method_14_code
def yX0_isFiled : MethodName := ⟨RX0, "isFiled", "(I)Z"⟩
abbrev cX0_filesAt : ByteArray := prog_2_method_15_code
def yX0_filesAt : MethodName := ⟨RX0, "filesAt", "(II)I"⟩
abbrev cX0_halveScents : ByteArray := prog_2_method_16_code
def yX0_halveScents : MethodName := ⟨RX0, "halveScents", "(I)I"⟩
def RX1 : String := "SugarStamps$Crumbs"
def TX1 : u_T := fun k => match k with
  | _ => ("SugarStamps$Crumbs", "at", "[I", true)
def tyX1 : Nat → FieldType := fun k => match k with
  | _ => .array .int
theorem nmX1 : ∀ a, a < 1 → ∀ b, b < 1 → a ≠ b → (TX1 a).2.1 ≠ (TX1 b).2.1 := by decide +kernel
theorem tyX1_ok : ∀ k, k < 1 → parseFieldDescriptor (TX1 k).2.2.1 = some (tyX1 k) := by decide +kernel
abbrev cX1_init : ByteArray := prog_3_method_1_code
def yX1_init : MethodName := ⟨RX1, "<init>", "()V"⟩
abbrev cX1_clear : ByteArray := prog_3_method_2_code
def yX1_clear : MethodName := ⟨RX1, "clear", "()V"⟩
abbrev cX1_sum : ByteArray := prog_3_method_3_code
def yX1_sum : MethodName := ⟨RX1, "sum", "()I"⟩
abbrev cX1_commonDivisor : ByteArray := prog_3_method_4_code
def yX1_commonDivisor : MethodName := ⟨RX1, "commonDivisor", "(II)I"⟩
def RX2 : String := "SugarStamps$Foresight"
def TX2 : u_T := fun k => match k with
  | 0 => ("SugarStamps$Foresight", "told", "LSugarStamps$Told;", true)
  | 1 => ("SugarStamps$Foresight", "now", "LSugarStamps$Course;", true)
  | 2 => ("SugarStamps$Foresight", "trial", "LSugarStamps$Course;", true)
  | 3 => ("SugarStamps$Foresight", "member", "[I", true)
  | 4 => ("SugarStamps$Foresight", "share", "[I", true)
  | 5 => ("SugarStamps$Foresight", "smear", "[I", true)
  | _ => ("SugarStamps$Foresight", "steps", "[I", true)
def tyX2 : Nat → FieldType := fun k => match k with
  | 0 => .object "SugarStamps$Told"
  | 1 => .object "SugarStamps$Course"
  | 2 => .object "SugarStamps$Course"
  | 3 => .array .int
  | 4 => .array .int
  | 5 => .array .int
  | _ => .array .int
theorem nmX2 : ∀ a, a < 7 → ∀ b, b < 7 → a ≠ b → (TX2 a).2.1 ≠ (TX2 b).2.1 := by decide +kernel
theorem tyX2_ok : ∀ k, k < 7 → parseFieldDescriptor (TX2 k).2.2.1 = some (tyX2 k) := by decide +kernel
abbrev cX2_init : ByteArray := prog_4_method_1_code
def yX2_init : MethodName := ⟨RX2, "<init>", "(LSugarStamps$Told;LSugarStamps$Course;)V"⟩
abbrev cX2_inMinutes : ByteArray := prog_4_method_2_code
def yX2_inMinutes : MethodName := ⟨RX2, "inMinutes", "(I)LSugarStamps$Course;"⟩
abbrev cX2_minuteOfFiling : ByteArray := prog_4_method_3_code
def yX2_minuteOfFiling : MethodName := ⟨RX2, "minuteOfFiling", "(I)I"⟩
abbrev cX2_leastHoney : ByteArray := prog_4_method_4_code
def yX2_leastHoney : MethodName := ⟨RX2, "leastHoney", "(II)I"⟩
abbrev cX2_mayBeInTime : ByteArray := prog_4_method_5_code
def yX2_mayBeInTime : MethodName := ⟨RX2, "mayBeInTime", "(II)Z"⟩
abbrev cX2_spreads : ByteArray := prog_4_method_6_code
def yX2_spreads : MethodName := ⟨RX2, "spreads", "(IIIII)Z"⟩
abbrev cX2_giveShares : ByteArray := prog_4_method_7_code
def yX2_giveShares : MethodName := ⟨RX2, "giveShares", "(I)V"⟩
abbrev cX2_findSmear : ByteArray := prog_4_method_8_code
def yX2_findSmear : MethodName := ⟨RX2, "findSmear", "(II)V"⟩
abbrev cX2_fewestTrails : ByteArray := prog_4_method_9_code
def yX2_fewestTrails : MethodName := ⟨RX2, "fewestTrails", "(IIZ)I"⟩
abbrev cX2_stepOver : ByteArray := prog_4_method_10_code
def yX2_stepOver : MethodName := ⟨RX2, "stepOver", "(IIIZ)V"⟩
abbrev cX2_filesFiled : ByteArray := prog_4_method_11_code
def yX2_filesFiled : MethodName := ⟨RX2, "filesFiled", "(II)I"⟩
abbrev cX2_worstDesk : ByteArray := prog_4_method_12_code
def yX2_worstDesk : MethodName := ⟨RX2, "worstDesk", "(I)I"⟩
abbrev cX2_stampsBy : ByteArray := prog_4_method_13_code
def yX2_stampsBy : MethodName := ⟨RX2, "stampsBy", "(LSugarStamps$Sightings;I)I"⟩
abbrev cX2_agreesWith : ByteArray := prog_4_method_14_code
def yX2_agreesWith : MethodName := ⟨RX2, "agreesWith", "(LSugarStamps$Sightings;I)Z"⟩
def RX3 : String := "SugarStamps$Reader"
def TX3 : u_T := fun k => match k with
  | 0 => ("SugarStamps$Reader", "text", "LSugarStamps$Text;", true)
  | 1 => ("SugarStamps$Reader", "draft", "LSugarStamps$Told;", true)
  | 2 => ("SugarStamps$Reader", "faultPlace", "I", false)
  | 3 => ("SugarStamps$Reader", "lines", "I", false)
  | 4 => ("SugarStamps$Reader", "from", "I", false)
  | _ => ("SugarStamps$Reader", "to", "I", false)
def tyX3 : Nat → FieldType := fun k => match k with
  | 0 => .object "SugarStamps$Text"
  | 1 => .object "SugarStamps$Told"
  | 2 => .int
  | 3 => .int
  | 4 => .int
  | _ => .int
theorem nmX3 : ∀ a, a < 6 → ∀ b, b < 6 → a ≠ b → (TX3 a).2.1 ≠ (TX3 b).2.1 := by decide +kernel
theorem tyX3_ok : ∀ k, k < 6 → parseFieldDescriptor (TX3 k).2.2.1 = some (tyX3 k) := by decide +kernel
abbrev cX3_init : ByteArray := prog_5_method_1_code
def yX3_init : MethodName := ⟨RX3, "<init>", "(LSugarStamps$Text;)V"⟩
abbrev cX3_readOn : ByteArray := prog_5_method_2_code
def yX3_readOn : MethodName := ⟨RX3, "readOn", "(LSugarStamps$Told;)V"⟩
abbrev cX3_readLine : ByteArray := prog_5_method_3_code
def yX3_readLine : MethodName := ⟨RX3, "readLine", "()Z"⟩
abbrev cX3_readOffice : ByteArray := prog_5_method_4_code
def yX3_readOffice : MethodName := ⟨RX3, "readOffice", "()Z"⟩
abbrev cX3_readKind : ByteArray := prog_5_method_5_code
def yX3_readKind : MethodName := ⟨RX3, "readKind", "(I)Z"⟩
abbrev cX3_readTrail : ByteArray := prog_5_method_6_code
def yX3_readTrail : MethodName := ⟨RX3, "readTrail", "()Z"⟩
abbrev cX3_readFile : ByteArray := prog_5_method_7_code
def yX3_readFile : MethodName := ⟨RX3, "readFile", "()Z"⟩
abbrev cX3_readFade : ByteArray := prog_5_method_8_code
def yX3_readFade : MethodName := ⟨RX3, "readFade", "()Z"⟩
abbrev cX3_readWinter : ByteArray := prog_5_method_9_code
def yX3_readWinter : MethodName := ⟨RX3, "readWinter", "()Z"⟩
abbrev cX3_readDeskUnlike : ByteArray := prog_5_method_10_code
def yX3_readDeskUnlike : MethodName := ⟨RX3, "readDeskUnlike", "(I)I"⟩
abbrev cX3_readNumber : ByteArray := prog_5_method_11_code
def yX3_readNumber : MethodName := ⟨RX3, "readNumber", "(II)I"⟩
abbrev cX3_refuseToken : ByteArray := prog_5_method_12_code
def yX3_refuseToken : MethodName := ⟨RX3, "refuseToken", "()Z"⟩
abbrev cX3_takeToken : ByteArray := prog_5_method_13_code
def yX3_takeToken : MethodName := ⟨RX3, "takeToken", "()V"⟩
abbrev cX3_tokenIs : ByteArray := prog_5_method_14_code
def yX3_tokenIs : MethodName := ⟨RX3, "tokenIs", "(Ljava/lang/String;)Z"⟩
abbrev cX3_isLetter : ByteArray := prog_5_method_15_code
def yX3_isLetter : MethodName := ⟨RX3, "isLetter", "(I)Z"⟩
abbrev cX3_isDigit : ByteArray := prog_5_method_16_code
def yX3_isDigit : MethodName := ⟨RX3, "isDigit", "(I)Z"⟩
def RX4 : String := "SugarStamps$Sightings"
def TX4 : u_T := fun k => match k with
  | 0 => ("SugarStamps$Sightings", "count", "I", false)
  | 1 => ("SugarStamps$Sightings", "file", "[I", true)
  | 2 => ("SugarStamps$Sightings", "desk", "[I", true)
  | _ => ("SugarStamps$Sightings", "minute", "[I", true)
def tyX4 : Nat → FieldType := fun k => match k with
  | 0 => .int
  | 1 => .array .int
  | 2 => .array .int
  | _ => .array .int
theorem nmX4 : ∀ a, a < 4 → ∀ b, b < 4 → a ≠ b → (TX4 a).2.1 ≠ (TX4 b).2.1 := by decide +kernel
theorem tyX4_ok : ∀ k, k < 4 → parseFieldDescriptor (TX4 k).2.2.1 = some (tyX4 k) := by decide +kernel
abbrev cX4_init : ByteArray := prog_6_method_1_code
def yX4_init : MethodName := ⟨RX4, "<init>", "()V"⟩
abbrev cX4_add : ByteArray := prog_6_method_2_code
def yX4_add : MethodName := ⟨RX4, "add", "(III)I"⟩
abbrev cX4_clear : ByteArray := prog_6_method_3_code
def yX4_clear : MethodName := ⟨RX4, "clear", "()I"⟩
abbrev cX4_lastOf : ByteArray := prog_6_method_4_code
def yX4_lastOf : MethodName := ⟨RX4, "lastOf", "(I)I"⟩
abbrev cX4_allow : ByteArray := prog_6_method_5_code
def yX4_allow : MethodName := ⟨RX4, "allow", "(III)Z"⟩
def RX5 : String := "SugarStamps$Text"
def TX5 : u_T := fun k => match k with
  | 0 => ("SugarStamps$Text", "bytes", "[I", true)
  | _ => ("SugarStamps$Text", "length", "I", false)
def tyX5 : Nat → FieldType := fun k => match k with
  | 0 => .array .int
  | _ => .int
theorem nmX5 : ∀ a, a < 2 → ∀ b, b < 2 → a ≠ b → (TX5 a).2.1 ≠ (TX5 b).2.1 := by decide +kernel
theorem tyX5_ok : ∀ k, k < 2 → parseFieldDescriptor (TX5 k).2.2.1 = some (tyX5 k) := by decide +kernel
abbrev cX5_init : ByteArray := prog_7_method_1_code
def yX5_init : MethodName := ⟨RX5, "<init>", "()V"⟩
abbrev cX5_append : ByteArray := prog_7_method_2_code
def yX5_append : MethodName := ⟨RX5, "append", "(I)V"⟩
abbrev cX5_clear : ByteArray := prog_7_method_3_code
def yX5_clear : MethodName := ⟨RX5, "clear", "()I"⟩
abbrev cX5_at : ByteArray := prog_7_method_4_code
def yX5_at : MethodName := ⟨RX5, "at", "(I)I"⟩
def RX6 : String := "SugarStamps$Told"
def TX6 : u_T := fun k => match k with
  | 0 => ("SugarStamps$Told", "desks", "I", false)
  | 1 => ("SugarStamps$Told", "trails", "I", false)
  | 2 => ("SugarStamps$Told", "files", "I", false)
  | 3 => ("SugarStamps$Told", "fade", "I", false)
  | 4 => ("SugarStamps$Told", "winter", "I", false)
  | 5 => ("SugarStamps$Told", "kind", "[I", true)
  | 6 => ("SugarStamps$Told", "oneDesk", "[I", true)
  | 7 => ("SugarStamps$Told", "otherDesk", "[I", true)
  | 8 => ("SugarStamps$Told", "scent", "[I", true)
  | 9 => ("SugarStamps$Told", "start", "[I", true)
  | 10 => ("SugarStamps$Told", "end", "[I", true)
  | _ => ("SugarStamps$Told", "sweetness", "[I", true)
def tyX6 : Nat → FieldType := fun k => match k with
  | 0 => .int
  | 1 => .int
  | 2 => .int
  | 3 => .int
  | 4 => .int
  | 5 => .array .int
  | 6 => .array .int
  | 7 => .array .int
  | 8 => .array .int
  | 9 => .array .int
  | 10 => .array .int
  | _ => .array .int
theorem nmX6 : ∀ a, a < 12 → ∀ b, b < 12 → a ≠ b → (TX6 a).2.1 ≠ (TX6 b).2.1 := by decide +kernel
theorem tyX6_ok : ∀ k, k < 12 → parseFieldDescriptor (TX6 k).2.2.1 = some (tyX6 k) := by decide +kernel
abbrev cX6_init : ByteArray := prog_8_method_1_code
def yX6_init : MethodName := ⟨RX6, "<init>", "()V"⟩
abbrev cX6_becomeNew : ByteArray := prog_8_method_2_code
def yX6_becomeNew : MethodName := ⟨RX6, "becomeNew", "(I)V"⟩
abbrev cX6_takeFrom : ByteArray := prog_8_method_3_code
def yX6_takeFrom : MethodName := ⟨RX6, "takeFrom", "(LSugarStamps$Told;)V"⟩
abbrev cX6_addTrail : ByteArray := prog_8_method_4_code
def yX6_addTrail : MethodName := ⟨RX6, "addTrail", "(III)V"⟩
abbrev cX6_addFile : ByteArray := prog_8_method_5_code
def yX6_addFile : MethodName := ⟨RX6, "addFile", "(III)V"⟩
abbrev cX6_isOf : ByteArray := prog_8_method_6_code
def yX6_isOf : MethodName := ⟨RX6, "isOf", "(II)Z"⟩
abbrev cX6_trailsOf : ByteArray := prog_8_method_7_code
def yX6_trailsOf : MethodName := ⟨RX6, "trailsOf", "(I)I"⟩
abbrev cX6_across : ByteArray := prog_8_method_8_code
def yX6_across : MethodName := ⟨RX6, "across", "(II)I"⟩
abbrev cX6_isA : ByteArray := prog_8_method_9_code
def yX6_isA : MethodName := ⟨RX6, "isA", "(II)Z"⟩
abbrev cX6_sweetnessBehind : ByteArray := prog_8_method_10_code
def yX6_sweetnessBehind : MethodName := ⟨RX6, "sweetnessBehind", "(II)I"⟩
def RX7 : String := "SugarStamps"
def TX7 : u_T := fun k => match k with
  | 0 => ("SugarStamps", "text", "LSugarStamps$Text;", true)
  | 1 => ("SugarStamps", "told", "LSugarStamps$Told;", true)
  | 2 => ("SugarStamps", "reader", "LSugarStamps$Reader;", true)
  | 3 => ("SugarStamps", "now", "LSugarStamps$Course;", true)
  | 4 => ("SugarStamps", "kept", "[LSugarStamps$Course;", true)
  | 5 => ("SugarStamps", "isKept", "[Z", true)
  | 6 => ("SugarStamps", "foresight", "LSugarStamps$Foresight;", true)
  | 7 => ("SugarStamps", "sightings", "LSugarStamps$Sightings;", true)
  | _ => ("SugarStamps", "friday", "LSugarStamps$Crumbs;", true)
def tyX7 : Nat → FieldType := fun k => match k with
  | 0 => .object "SugarStamps$Text"
  | 1 => .object "SugarStamps$Told"
  | 2 => .object "SugarStamps$Reader"
  | 3 => .object "SugarStamps$Course"
  | 4 => .array (.object "SugarStamps$Course")
  | 5 => .array .boolean
  | 6 => .object "SugarStamps$Foresight"
  | 7 => .object "SugarStamps$Sightings"
  | _ => .object "SugarStamps$Crumbs"
theorem nmX7 : ∀ a, a < 9 → ∀ b, b < 9 → a ≠ b → (TX7 a).2.1 ≠ (TX7 b).2.1 := by decide +kernel
theorem tyX7_ok : ∀ k, k < 9 → parseFieldDescriptor (TX7 k).2.2.1 = some (tyX7 k) := by decide +kernel
abbrev cX7_init : ByteArray := prog_1_method_1_code
def yX7_init : MethodName := ⟨RX7, "<init>", "()V"⟩
abbrev cX7_write : ByteArray := prog_1_method_2_code
def yX7_write : MethodName := ⟨RX7, "write", "(JI)I"⟩
abbrev cX7_erase : ByteArray := prog_1_method_3_code
def yX7_erase : MethodName := ⟨RX7, "erase", "()I"⟩
abbrev cX7_fault : ByteArray := prog_1_method_4_code
def yX7_fault : MethodName := ⟨RX7, "fault", "()I"⟩
abbrev cX7_office : ByteArray := prog_1_method_5_code
def yX7_office : MethodName := ⟨RX7, "office", "()I"⟩
abbrev cX7_desk : ByteArray := prog_1_method_6_code
def yX7_desk : MethodName := ⟨RX7, "desk", "(II)I"⟩
abbrev cX7_trail : ByteArray := prog_1_method_7_code
def yX7_trail : MethodName := ⟨RX7, "trail", "(II)I"⟩
abbrev cX7_file : ByteArray := prog_1_method_8_code
def yX7_file : MethodName := ⟨RX7, "file", "(II)I"⟩
abbrev cX7_as : ByteArray := prog_1_method_9_code
def yX7_as : MethodName := ⟨RX7, "as", "(II)I"⟩
abbrev cX7_go : ByteArray := prog_1_method_10_code
def yX7_go : MethodName := ⟨RX7, "go", "(I)I"⟩
abbrev cX7_next : ByteArray := prog_1_method_11_code
def yX7_next : MethodName := ⟨RX7, "next", "(I)I"⟩
abbrev cX7_spill : ByteArray := prog_1_method_12_code
def yX7_spill : MethodName := ⟨RX7, "spill", "(II)I"⟩
abbrev cX7_stamp : ByteArray := prog_1_method_13_code
def yX7_stamp : MethodName := ⟨RX7, "stamp", "(II)I"⟩
abbrev cX7_rain : ByteArray := prog_1_method_14_code
def yX7_rain : MethodName := ⟨RX7, "rain", "()I"⟩
abbrev cX7_sit : ByteArray := prog_1_method_15_code
def yX7_sit : MethodName := ⟨RX7, "sit", "(I)I"⟩
abbrev cX7_keep : ByteArray := prog_1_method_16_code
def yX7_keep : MethodName := ⟨RX7, "keep", "(I)I"⟩
abbrev cX7_back : ByteArray := prog_1_method_17_code
def yX7_back : MethodName := ⟨RX7, "back", "(I)I"⟩
abbrev cX7_later : ByteArray := prog_1_method_18_code
def yX7_later : MethodName := ⟨RX7, "later", "(III)I"⟩
abbrev cX7_filed : ByteArray := prog_1_method_19_code
def yX7_filed : MethodName := ⟨RX7, "filed", "(I)I"⟩
abbrev cX7_queue : ByteArray := prog_1_method_20_code
def yX7_queue : MethodName := ⟨RX7, "queue", "(II)I"⟩
abbrev cX7_honey : ByteArray := prog_1_method_21_code
def yX7_honey : MethodName := ⟨RX7, "honey", "(III)I"⟩
abbrev cX7_smear : ByteArray := prog_1_method_22_code
def yX7_smear : MethodName := ⟨RX7, "smear", "(III)I"⟩
abbrev cX7_quiet : ByteArray := prog_1_method_23_code
def yX7_quiet : MethodName := ⟨RX7, "quiet", "(II)I"⟩
abbrev cX7_harm : ByteArray := prog_1_method_24_code
def yX7_harm : MethodName := ⟨RX7, "harm", "(II)I"⟩
abbrev cX7_worst : ByteArray := prog_1_method_25_code
def yX7_worst : MethodName := ⟨RX7, "worst", "(I)I"⟩
abbrev cX7_seen : ByteArray := prog_1_method_26_code
def yX7_seen : MethodName := ⟨RX7, "seen", "(III)I"⟩
abbrev cX7_forget : ByteArray := prog_1_method_27_code
def yX7_forget : MethodName := ⟨RX7, "forget", "()I"⟩
abbrev cX7_stamps : ByteArray := prog_1_method_28_code
def yX7_stamps : MethodName := ⟨RX7, "stamps", "(I)I"⟩
abbrev cX7_crumbs : ByteArray := prog_1_method_29_code
def yX7_crumbs : MethodName := ⟨RX7, "crumbs", "(II)I"⟩
abbrev cX7_odds : ByteArray := prog_1_method_30_code
def yX7_odds : MethodName := ⟨RX7, "odds", "(II)I"⟩
abbrev cX7_count : ByteArray := prog_1_method_31_code
def yX7_count : MethodName := ⟨RX7, "count", "(I)I"⟩
abbrev cX7_isDesk : ByteArray := prog_1_method_32_code
def yX7_isDesk : MethodName := ⟨RX7, "isDesk", "(I)Z"⟩
abbrev cX7_isTrail : ByteArray := prog_1_method_33_code
def yX7_isTrail : MethodName := ⟨RX7, "isTrail", "(I)Z"⟩
abbrev cX7_isFile : ByteArray := prog_1_method_34_code
def yX7_isFile : MethodName := ⟨RX7, "isFile", "(I)Z"⟩
def RX8 : String := "SugarStampsModel"
def TX8 : u_T := fun k => match k with
  | 0 => ("SugarStampsModel", "row", "[I", true)
  | 1 => ("SugarStampsModel", "isKept", "[Z", true)
  | 2 => ("SugarStampsModel", "text", "[I", true)
  | 3 => ("SugarStampsModel", "length", "I", false)
  | 4 => ("SugarStampsModel", "read", "[I", true)
  | 5 => ("SugarStampsModel", "readMany", "I", false)
  | 6 => ("SugarStampsModel", "desks", "I", false)
  | 7 => ("SugarStampsModel", "kinds", "[I", true)
  | 8 => ("SugarStampsModel", "from", "[I", true)
  | 9 => ("SugarStampsModel", "to", "[I", true)
  | 10 => ("SugarStampsModel", "trailMany", "I", false)
  | 11 => ("SugarStampsModel", "ends", "[I", true)
  | 12 => ("SugarStampsModel", "fileMany", "I", false)
  | 13 => ("SugarStampsModel", "fade", "I", false)
  | 14 => ("SugarStampsModel", "at", "I", false)
  | 15 => ("SugarStampsModel", "place", "I", false)
  | 16 => ("SugarStampsModel", "end", "I", false)
  | 17 => ("SugarStampsModel", "readDesks", "I", false)
  | 18 => ("SugarStampsModel", "readTrails", "I", false)
  | 19 => ("SugarStampsModel", "readFiles", "I", false)
  | 20 => ("SugarStampsModel", "carried", "[I", true)
  | 21 => ("SugarStampsModel", "fars", "[I", true)
  | 22 => ("SugarStampsModel", "sights", "[I", true)
  | 23 => ("SugarStampsModel", "seenMany", "I", false)
  | _ => ("SugarStampsModel", "crumbs", "[I", true)
def tyX8 : Nat → FieldType := fun k => match k with
  | 0 => .array .int
  | 1 => .array .boolean
  | 2 => .array .int
  | 3 => .int
  | 4 => .array .int
  | 5 => .int
  | 6 => .int
  | 7 => .array .int
  | 8 => .array .int
  | 9 => .array .int
  | 10 => .int
  | 11 => .array .int
  | 12 => .int
  | 13 => .int
  | 14 => .int
  | 15 => .int
  | 16 => .int
  | 17 => .int
  | 18 => .int
  | 19 => .int
  | 20 => .array .int
  | 21 => .array .int
  | 22 => .array .int
  | 23 => .int
  | _ => .array .int
theorem nmX8 : ∀ a, a < 25 → ∀ b, b < 25 → a ≠ b → (TX8 a).2.1 ≠ (TX8 b).2.1 := by decide +kernel
theorem tyX8_ok : ∀ k, k < 25 → parseFieldDescriptor (TX8 k).2.2.1 = some (tyX8 k) := by decide +kernel
abbrev cX8_init : ByteArray := prog_10_method_1_code
def yX8_init : MethodName := ⟨RX8, "<init>", "()V"⟩
abbrev cX8_in : ByteArray := prog_10_method_2_code
def yX8_in : MethodName := ⟨RX8, "in", "(JJJ)Z"⟩
abbrev cX8_has : ByteArray := prog_10_method_3_code
def yX8_has : MethodName := ⟨RX8, "has", "(II)Z"⟩
abbrev cX8_bits : ByteArray := prog_10_method_4_code
def yX8_bits : MethodName := ⟨RX8, "bits", "(I)I"⟩
abbrev cX8_copy : ByteArray := prog_10_method_5_code
def yX8_copy : MethodName := ⟨RX8, "copy", "(II)V"⟩
abbrev cX8_clear : ByteArray := prog_10_method_6_code
def yX8_clear : MethodName := ⟨RX8, "clear", "(I)V"⟩
abbrev cX8_begin : ByteArray := prog_10_method_7_code
def yX8_begin : MethodName := ⟨RX8, "begin", "()V"⟩
abbrev cX8_write : ByteArray := prog_10_method_8_code
def yX8_write : MethodName := ⟨RX8, "write", "(JI)I"⟩
abbrev cX8_erase : ByteArray := prog_10_method_9_code
def yX8_erase : MethodName := ⟨RX8, "erase", "()I"⟩
abbrev cX8_sort : ByteArray := prog_10_method_10_code
def yX8_sort : MethodName := ⟨RX8, "sort", "(I)I"⟩
abbrev cX8_token : ByteArray := prog_10_method_11_code
def yX8_token : MethodName := ⟨RX8, "token", "()V"⟩
abbrev cX8_isWord : ByteArray := prog_10_method_12_code
def yX8_isWord : MethodName := ⟨RX8, "isWord", "(II)Z"⟩
abbrev cX8_deskWord : ByteArray := prog_10_method_13_code
def yX8_deskWord : MethodName := ⟨RX8, "deskWord", "()I"⟩
abbrev cX8_wordOf : ByteArray := prog_10_method_14_code
def yX8_wordOf : MethodName := ⟨RX8, "wordOf", "()I"⟩
abbrev cX8_reads : ByteArray := prog_10_method_15_code
def yX8_reads : MethodName := ⟨RX8, "reads", "(IIII)Z"⟩
abbrev cX8_readsRest : ByteArray := prog_10_method_16_code
def yX8_readsRest : MethodName := ⟨RX8, "readsRest", "(I)Z"⟩
abbrev cX8_readsLine : ByteArray := prog_10_method_17_code
def yX8_readsLine : MethodName := ⟨RX8, "readsLine", "()Z"⟩
abbrev cX8_fault : ByteArray := prog_10_method_18_code
def yX8_fault : MethodName := ⟨RX8, "fault", "()I"⟩
abbrev cX8_tell : ByteArray := prog_10_method_19_code
def yX8_tell : MethodName := ⟨RX8, "tell", "(I)V"⟩
abbrev cX8_office : ByteArray := prog_10_method_20_code
def yX8_office : MethodName := ⟨RX8, "office", "()I"⟩
abbrev cX8_isDesk : ByteArray := prog_10_method_21_code
def yX8_isDesk : MethodName := ⟨RX8, "isDesk", "(I)Z"⟩
abbrev cX8_isTrail : ByteArray := prog_10_method_22_code
def yX8_isTrail : MethodName := ⟨RX8, "isTrail", "(I)Z"⟩
abbrev cX8_isFile : ByteArray := prog_10_method_23_code
def yX8_isFile : MethodName := ⟨RX8, "isFile", "(I)Z"⟩
abbrev cX8_isOf : ByteArray := prog_10_method_24_code
def yX8_isOf : MethodName := ⟨RX8, "isOf", "(II)Z"⟩
abbrev cX8_desk : ByteArray := prog_10_method_25_code
def yX8_desk : MethodName := ⟨RX8, "desk", "(II)I"⟩
abbrev cX8_trail : ByteArray := prog_10_method_26_code
def yX8_trail : MethodName := ⟨RX8, "trail", "(II)I"⟩
abbrev cX8_file : ByteArray := prog_10_method_27_code
def yX8_file : MethodName := ⟨RX8, "file", "(II)I"⟩
abbrev cX8_sweetAt : ByteArray := prog_10_method_28_code
def yX8_sweetAt : MethodName := ⟨RX8, "sweetAt", "(II)I"⟩
abbrev cX8_as : ByteArray := prog_10_method_29_code
def yX8_as : MethodName := ⟨RX8, "as", "(II)I"⟩
abbrev cX8_sweetest : ByteArray := prog_10_method_30_code
def yX8_sweetest : MethodName := ⟨RX8, "sweetest", "(II)I"⟩
abbrev cX8_strongest : ByteArray := prog_10_method_31_code
def yX8_strongest : MethodName := ⟨RX8, "strongest", "(III)I"⟩
abbrev cX8_layCarried : ByteArray := prog_10_method_32_code
def yX8_layCarried : MethodName := ⟨RX8, "layCarried", "(I)V"⟩
abbrev cX8_arrive : ByteArray := prog_10_method_33_code
def yX8_arrive : MethodName := ⟨RX8, "arrive", "(III)V"⟩
abbrev cX8_minute : ByteArray := prog_10_method_34_code
def yX8_minute : MethodName := ⟨RX8, "minute", "(I)V"⟩
abbrev cX8_go : ByteArray := prog_10_method_35_code
def yX8_go : MethodName := ⟨RX8, "go", "(I)I"⟩
abbrev cX8_next : ByteArray := prog_10_method_36_code
def yX8_next : MethodName := ⟨RX8, "next", "(I)I"⟩
abbrev cX8_spill : ByteArray := prog_10_method_37_code
def yX8_spill : MethodName := ⟨RX8, "spill", "(II)I"⟩
abbrev cX8_stamp : ByteArray := prog_10_method_38_code
def yX8_stamp : MethodName := ⟨RX8, "stamp", "(II)I"⟩
abbrev cX8_rain : ByteArray := prog_10_method_39_code
def yX8_rain : MethodName := ⟨RX8, "rain", "()I"⟩
abbrev cX8_sit : ByteArray := prog_10_method_40_code
def yX8_sit : MethodName := ⟨RX8, "sit", "(I)I"⟩
abbrev cX8_keep : ByteArray := prog_10_method_41_code
def yX8_keep : MethodName := ⟨RX8, "keep", "(I)I"⟩
abbrev cX8_back : ByteArray := prog_10_method_42_code
def yX8_back : MethodName := ⟨RX8, "back", "(I)I"⟩
abbrev cX8_tryFor : ByteArray := prog_10_method_43_code
def yX8_tryFor : MethodName := ⟨RX8, "tryFor", "(I)V"⟩
abbrev cX8_later : ByteArray := prog_10_method_44_code
def yX8_later : MethodName := ⟨RX8, "later", "(III)I"⟩
abbrev cX8_filedIn : ByteArray := prog_10_method_45_code
def yX8_filedIn : MethodName := ⟨RX8, "filedIn", "(II)I"⟩
abbrev cX8_filed : ByteArray := prog_10_method_46_code
def yX8_filed : MethodName := ⟨RX8, "filed", "(I)I"⟩
abbrev cX8_queue : ByteArray := prog_10_method_47_code
def yX8_queue : MethodName := ⟨RX8, "queue", "(II)I"⟩
abbrev cX8_filedSet : ByteArray := prog_10_method_48_code
def yX8_filedSet : MethodName := ⟨RX8, "filedSet", "(I)I"⟩
abbrev cX8_gets : ByteArray := prog_10_method_49_code
def yX8_gets : MethodName := ⟨RX8, "gets", "(III)I"⟩
abbrev cX8_gives : ByteArray := prog_10_method_50_code
def yX8_gives : MethodName := ⟨RX8, "gives", "(III)I"⟩
abbrev cX8_honey : ByteArray := prog_10_method_51_code
def yX8_honey : MethodName := ⟨RX8, "honey", "(III)I"⟩
abbrev cX8_smear : ByteArray := prog_10_method_52_code
def yX8_smear : MethodName := ⟨RX8, "smear", "(III)I"⟩
abbrev cX8_quiet : ByteArray := prog_10_method_53_code
def yX8_quiet : MethodName := ⟨RX8, "quiet", "(II)I"⟩
abbrev cX8_filedBy : ByteArray := prog_10_method_54_code
def yX8_filedBy : MethodName := ⟨RX8, "filedBy", "(II)I"⟩
abbrev cX8_harmOf : ByteArray := prog_10_method_55_code
def yX8_harmOf : MethodName := ⟨RX8, "harmOf", "(II)I"⟩
abbrev cX8_harm : ByteArray := prog_10_method_56_code
def yX8_harm : MethodName := ⟨RX8, "harm", "(II)I"⟩
abbrev cX8_worst : ByteArray := prog_10_method_57_code
def yX8_worst : MethodName := ⟨RX8, "worst", "(I)I"⟩
abbrev cX8_seen : ByteArray := prog_10_method_58_code
def yX8_seen : MethodName := ⟨RX8, "seen", "(III)I"⟩
abbrev cX8_forget : ByteArray := prog_10_method_59_code
def yX8_forget : MethodName := ⟨RX8, "forget", "()I"⟩
abbrev cX8_isSoBy : ByteArray := prog_10_method_60_code
def yX8_isSoBy : MethodName := ⟨RX8, "isSoBy", "(II)Z"⟩
abbrev cX8_stamps : ByteArray := prog_10_method_61_code
def yX8_stamps : MethodName := ⟨RX8, "stamps", "(I)I"⟩
abbrev cX8_crumbs : ByteArray := prog_10_method_62_code
def yX8_crumbs : MethodName := ⟨RX8, "crumbs", "(II)I"⟩
abbrev cX8_odds : ByteArray := prog_10_method_63_code
def yX8_odds : MethodName := ⟨RX8, "odds", "(II)I"⟩
abbrev cX8_count : ByteArray := prog_10_method_64_code
def yX8_count : MethodName := ⟨RX8, "count", "(I)I"⟩
def RJx145de : String := "java/io/Serializable"
def RJx9f9b0 : String := "java/lang/CharSequence"
def RJxb160c : String := "java/lang/Comparable"
def RJ6 : String := "java/lang/Integer"
abbrev cJ6_bitCount_0f7a4 : ByteArray := prog_11_method_49_code
def yJ6_bitCount_0f7a4 : MethodName := ⟨RJ6, "bitCount", "(I)I"⟩
def RJ9 : String := "java/lang/Math"
abbrev cJ9_max_7cf53 : ByteArray := prog_12_method_65_code
def yJ9_max_7cf53 : MethodName := ⟨RJ9, "max", "(II)I"⟩
abbrev cJ9_min_7cf53 : ByteArray := prog_12_method_69_code
def yJ9_min_7cf53 : MethodName := ⟨RJ9, "min", "(II)I"⟩
def RJ0 : String := "java/lang/String"
abbrev cJ0_length_8abf5 : ByteArray := prog_13_method_54_code
def yJ0_length_8abf5 : MethodName := ⟨RJ0, "length", "()I"⟩
abbrev cJ0_charAt_5068e : ByteArray := prog_13_method_56_code
def yJ0_charAt_5068e : MethodName := ⟨RJ0, "charAt", "(I)C"⟩
abbrev cJ0_coder_7d493 : ByteArray := prog_13_method_152_code
def yJ0_coder_7d493 : MethodName := ⟨RJ0, "coder", "()B"⟩
abbrev cJ0_isLatin1_aae02 : ByteArray := prog_13_method_154_code
def yJ0_isLatin1_aae02 : MethodName := ⟨RJ0, "isLatin1", "()Z"⟩
abbrev cJ0_checkIndex_df160 : ByteArray := prog_13_method_155_code
def yJ0_checkIndex_df160 : MethodName := ⟨RJ0, "checkIndex", "(II)V"⟩
def RJ1 : String := "java/lang/StringLatin1"
abbrev cJ1_charAt_3b067 : ByteArray := prog_14_method_2_code
def yJ1_charAt_3b067 : MethodName := ⟨RJ1, "charAt", "([BI)C"⟩
def RJ2 : String := "java/lang/StringUTF16"
abbrev cJ2_getChar_3b067 : ByteArray := prog_15_method_5_code
def yJ2_getChar_3b067 : MethodName := ⟨RJ2, "getChar", "([BI)C"⟩
abbrev cJ2_length_9d52b : ByteArray := prog_15_method_6_code
def yJ2_length_9d52b : MethodName := ⟨RJ2, "length", "([B)I"⟩
abbrev cJ2_charAt_3b067 : ByteArray := prog_15_method_83_code
def yJ2_charAt_3b067 : MethodName := ⟨RJ2, "charAt", "([BI)C"⟩
abbrev cJ2_checkIndex_2214a : ByteArray := prog_15_method_91_code
def yJ2_checkIndex_2214a : MethodName := ⟨RJ2, "checkIndex", "(I[B)V"⟩
def RJ10 : String := "java/lang/System"
def RJxfd54e : String := "java/lang/constant/Constable"
def RJx3cf43 : String := "java/lang/constant/ConstantDesc"
def RJ7 : String := "java/util/Arrays"
abbrev cJ7_fill_53178 : ByteArray := prog_17_method_103_code
def yJ7_fill_53178 : MethodName := ⟨RJ7, "fill", "([II)V"⟩
def RJ3 : String := "jdk/internal/util/Preconditions"
abbrev cJ3_checkIndex_8e157 : ByteArray := prog_18_method_11_code
def yJ3_checkIndex_8e157 : MethodName := ⟨RJ3, "checkIndex", "(IILjava/util/function/BiFunction;)I"⟩
def RL : String := "SugarStampsLaw"
abbrev cL_law : ByteArray := code
def yL_law : MethodName := ⟨RL, "law", "([I)Z"⟩
end
section
theorem dX0_init_0 : decode cX0_init 0 = .ok (.aload_n 0, 1) := by decide +kernel
theorem dX0_init_1 : decode cX0_init 1 = .ok (.invokespecial 3, 3) := by decide +kernel
theorem dX0_init_4 : decode cX0_init 4 = .ok (.aload_n 0, 1) := by decide +kernel
theorem dX0_init_5 : decode cX0_init 5 = .ok (.bipush 12, 2) := by decide +kernel
theorem dX0_init_7 : decode cX0_init 7 = .ok (.newarray .int, 2) := by decide +kernel
theorem dX0_init_9 : decode cX0_init 9 = .ok (.putfield 9, 3) := by decide +kernel
theorem dX0_init_12 : decode cX0_init 12 = .ok (.aload_n 0, 1) := by decide +kernel
theorem dX0_init_13 : decode cX0_init 13 = .ok (.bipush 6, 2) := by decide +kernel
theorem dX0_init_15 : decode cX0_init 15 = .ok (.newarray .int, 2) := by decide +kernel
theorem dX0_init_17 : decode cX0_init 17 = .ok (.putfield 15, 3) := by decide +kernel
theorem dX0_init_20 : decode cX0_init 20 = .ok (.aload_n 0, 1) := by decide +kernel
theorem dX0_init_21 : decode cX0_init 21 = .ok (.bipush 6, 2) := by decide +kernel
theorem dX0_init_23 : decode cX0_init 23 = .ok (.newarray .int, 2) := by decide +kernel
theorem dX0_init_25 : decode cX0_init 25 = .ok (.putfield 18, 3) := by decide +kernel
theorem dX0_init_28 : decode cX0_init 28 = .ok (.aload_n 0, 1) := by decide +kernel
theorem dX0_init_29 : decode cX0_init 29 = .ok (.bipush 6, 2) := by decide +kernel
theorem dX0_init_31 : decode cX0_init 31 = .ok (.newarray .int, 2) := by decide +kernel
theorem dX0_init_33 : decode cX0_init 33 = .ok (.putfield 21, 3) := by decide +kernel
theorem dX0_init_36 : decode cX0_init 36 = .ok (.aload_n 0, 1) := by decide +kernel
theorem dX0_init_37 : decode cX0_init 37 = .ok (.bipush 6, 2) := by decide +kernel
theorem dX0_init_39 : decode cX0_init 39 = .ok (.newarray .int, 2) := by decide +kernel
theorem dX0_init_41 : decode cX0_init 41 = .ok (.putfield 24, 3) := by decide +kernel
theorem dX0_init_44 : decode cX0_init 44 = .ok (.aload_n 0, 1) := by decide +kernel
theorem dX0_init_45 : decode cX0_init 45 = .ok (.bipush 6, 2) := by decide +kernel
theorem dX0_init_47 : decode cX0_init 47 = .ok (.newarray .int, 2) := by decide +kernel
theorem dX0_init_49 : decode cX0_init 49 = .ok (.putfield 27, 3) := by decide +kernel
theorem dX0_init_52 : decode cX0_init 52 = .ok (.aload_n 0, 1) := by decide +kernel
theorem dX0_init_53 : decode cX0_init 53 = .ok (.bipush 8, 2) := by decide +kernel
theorem dX0_init_55 : decode cX0_init 55 = .ok (.newarray .int, 2) := by decide +kernel
theorem dX0_init_57 : decode cX0_init 57 = .ok (.putfield 30, 3) := by decide +kernel
theorem dX0_init_60 : decode cX0_init 60 = .ok (.return_, 1) := by decide +kernel
theorem dX0_begin_0 : decode cX0_begin 0 = .ok (.aload_n 0, 1) := by decide +kernel
theorem dX0_begin_1 : decode cX0_begin 1 = .ok (.aload_n 1, 1) := by decide +kernel
theorem dX0_begin_2 : decode cX0_begin 2 = .ok (.getfield 33, 3) := by decide +kernel
theorem dX0_begin_5 : decode cX0_begin 5 = .ok (.putfield 39, 3) := by decide +kernel
theorem dX0_begin_8 : decode cX0_begin 8 = .ok (.aload_n 0, 1) := by decide +kernel
theorem dX0_begin_9 : decode cX0_begin 9 = .ok (.iconst 0, 1) := by decide +kernel
theorem dX0_begin_10 : decode cX0_begin 10 = .ok (.putfield 40, 3) := by decide +kernel
theorem dX0_begin_13 : decode cX0_begin 13 = .ok (.aload_n 0, 1) := by decide +kernel
theorem dX0_begin_14 : decode cX0_begin 14 = .ok (.iconst (-1), 1) := by decide +kernel
theorem dX0_begin_15 : decode cX0_begin 15 = .ok (.putfield 43, 3) := by decide +kernel
theorem dX0_begin_18 : decode cX0_begin 18 = .ok (.aload_n 0, 1) := by decide +kernel
theorem dX0_begin_19 : decode cX0_begin 19 = .ok (.iconst 0, 1) := by decide +kernel
theorem dX0_begin_20 : decode cX0_begin 20 = .ok (.putfield 46, 3) := by decide +kernel
theorem dX0_begin_23 : decode cX0_begin 23 = .ok (.aload_n 1, 1) := by decide +kernel
theorem dX0_begin_24 : decode cX0_begin 24 = .ok (.getfield 49, 3) := by decide +kernel
theorem dX0_begin_27 : decode cX0_begin 27 = .ok (.iconst 0, 1) := by decide +kernel
theorem dX0_begin_28 : decode cX0_begin 28 = .ok (.aload_n 0, 1) := by decide +kernel
theorem dX0_begin_29 : decode cX0_begin 29 = .ok (.getfield 9, 3) := by decide +kernel
theorem dX0_begin_32 : decode cX0_begin 32 = .ok (.iconst 0, 1) := by decide +kernel
theorem dX0_begin_33 : decode cX0_begin 33 = .ok (.bipush 12, 2) := by decide +kernel
theorem dX0_begin_35 : decode cX0_begin 35 = .ok (.invokestatic 50, 3) := by decide +kernel
theorem dX0_begin_38 : decode cX0_begin 38 = .ok (.aload_n 1, 1) := by decide +kernel
theorem dX0_begin_39 : decode cX0_begin 39 = .ok (.getfield 56, 3) := by decide +kernel
theorem dX0_begin_42 : decode cX0_begin 42 = .ok (.iconst 0, 1) := by decide +kernel
theorem dX0_begin_43 : decode cX0_begin 43 = .ok (.aload_n 0, 1) := by decide +kernel
theorem dX0_begin_44 : decode cX0_begin 44 = .ok (.getfield 15, 3) := by decide +kernel
theorem dX0_begin_47 : decode cX0_begin 47 = .ok (.iconst 0, 1) := by decide +kernel
theorem dX0_begin_48 : decode cX0_begin 48 = .ok (.bipush 6, 2) := by decide +kernel
theorem dX0_begin_50 : decode cX0_begin 50 = .ok (.invokestatic 50, 3) := by decide +kernel
theorem dX0_begin_53 : decode cX0_begin 53 = .ok (.aload_n 1, 1) := by decide +kernel
theorem dX0_begin_54 : decode cX0_begin 54 = .ok (.getfield 59, 3) := by decide +kernel
theorem dX0_begin_57 : decode cX0_begin 57 = .ok (.iconst 0, 1) := by decide +kernel
theorem dX0_begin_58 : decode cX0_begin 58 = .ok (.aload_n 0, 1) := by decide +kernel
theorem dX0_begin_59 : decode cX0_begin 59 = .ok (.getfield 18, 3) := by decide +kernel
theorem dX0_begin_62 : decode cX0_begin 62 = .ok (.iconst 0, 1) := by decide +kernel
theorem dX0_begin_63 : decode cX0_begin 63 = .ok (.bipush 6, 2) := by decide +kernel
theorem dX0_begin_65 : decode cX0_begin 65 = .ok (.invokestatic 50, 3) := by decide +kernel
theorem dX0_begin_68 : decode cX0_begin 68 = .ok (.aload_n 0, 1) := by decide +kernel
theorem dX0_begin_69 : decode cX0_begin 69 = .ok (.getfield 21, 3) := by decide +kernel
theorem dX0_begin_72 : decode cX0_begin 72 = .ok (.iconst (-1), 1) := by decide +kernel
theorem dX0_begin_73 : decode cX0_begin 73 = .ok (.invokestatic 60, 3) := by decide +kernel
theorem dX0_begin_76 : decode cX0_begin 76 = .ok (.aload_n 0, 1) := by decide +kernel
theorem dX0_begin_77 : decode cX0_begin 77 = .ok (.getfield 24, 3) := by decide +kernel
theorem dX0_begin_80 : decode cX0_begin 80 = .ok (.iconst (-1), 1) := by decide +kernel
theorem dX0_begin_81 : decode cX0_begin 81 = .ok (.invokestatic 60, 3) := by decide +kernel
theorem dX0_begin_84 : decode cX0_begin 84 = .ok (.return_, 1) := by decide +kernel
theorem dX0_takeFrom_0 : decode cX0_takeFrom 0 = .ok (.aload_n 0, 1) := by decide +kernel
theorem dX0_takeFrom_1 : decode cX0_takeFrom 1 = .ok (.aload_n 1, 1) := by decide +kernel
theorem dX0_takeFrom_2 : decode cX0_takeFrom 2 = .ok (.getfield 39, 3) := by decide +kernel
theorem dX0_takeFrom_5 : decode cX0_takeFrom 5 = .ok (.putfield 39, 3) := by decide +kernel
theorem dX0_takeFrom_8 : decode cX0_takeFrom 8 = .ok (.aload_n 0, 1) := by decide +kernel
theorem dX0_takeFrom_9 : decode cX0_takeFrom 9 = .ok (.aload_n 1, 1) := by decide +kernel
theorem dX0_takeFrom_10 : decode cX0_takeFrom 10 = .ok (.getfield 40, 3) := by decide +kernel
theorem dX0_takeFrom_13 : decode cX0_takeFrom 13 = .ok (.putfield 40, 3) := by decide +kernel
theorem dX0_takeFrom_16 : decode cX0_takeFrom 16 = .ok (.aload_n 0, 1) := by decide +kernel
theorem dX0_takeFrom_17 : decode cX0_takeFrom 17 = .ok (.aload_n 1, 1) := by decide +kernel
theorem dX0_takeFrom_18 : decode cX0_takeFrom 18 = .ok (.getfield 43, 3) := by decide +kernel
theorem dX0_takeFrom_21 : decode cX0_takeFrom 21 = .ok (.putfield 43, 3) := by decide +kernel
theorem dX0_takeFrom_24 : decode cX0_takeFrom 24 = .ok (.aload_n 0, 1) := by decide +kernel
theorem dX0_takeFrom_25 : decode cX0_takeFrom 25 = .ok (.aload_n 1, 1) := by decide +kernel
theorem dX0_takeFrom_26 : decode cX0_takeFrom 26 = .ok (.getfield 46, 3) := by decide +kernel
theorem dX0_takeFrom_29 : decode cX0_takeFrom 29 = .ok (.putfield 46, 3) := by decide +kernel
theorem dX0_takeFrom_32 : decode cX0_takeFrom 32 = .ok (.aload_n 1, 1) := by decide +kernel
theorem dX0_takeFrom_33 : decode cX0_takeFrom 33 = .ok (.getfield 9, 3) := by decide +kernel
theorem dX0_takeFrom_36 : decode cX0_takeFrom 36 = .ok (.iconst 0, 1) := by decide +kernel
theorem dX0_takeFrom_37 : decode cX0_takeFrom 37 = .ok (.aload_n 0, 1) := by decide +kernel
theorem dX0_takeFrom_38 : decode cX0_takeFrom 38 = .ok (.getfield 9, 3) := by decide +kernel
theorem dX0_takeFrom_41 : decode cX0_takeFrom 41 = .ok (.iconst 0, 1) := by decide +kernel
theorem dX0_takeFrom_42 : decode cX0_takeFrom 42 = .ok (.bipush 12, 2) := by decide +kernel
theorem dX0_takeFrom_44 : decode cX0_takeFrom 44 = .ok (.invokestatic 50, 3) := by decide +kernel
theorem dX0_takeFrom_47 : decode cX0_takeFrom 47 = .ok (.aload_n 1, 1) := by decide +kernel
theorem dX0_takeFrom_48 : decode cX0_takeFrom 48 = .ok (.getfield 15, 3) := by decide +kernel
theorem dX0_takeFrom_51 : decode cX0_takeFrom 51 = .ok (.iconst 0, 1) := by decide +kernel
theorem dX0_takeFrom_52 : decode cX0_takeFrom 52 = .ok (.aload_n 0, 1) := by decide +kernel
theorem dX0_takeFrom_53 : decode cX0_takeFrom 53 = .ok (.getfield 15, 3) := by decide +kernel
theorem dX0_takeFrom_56 : decode cX0_takeFrom 56 = .ok (.iconst 0, 1) := by decide +kernel
theorem dX0_takeFrom_57 : decode cX0_takeFrom 57 = .ok (.bipush 6, 2) := by decide +kernel
theorem dX0_takeFrom_59 : decode cX0_takeFrom 59 = .ok (.invokestatic 50, 3) := by decide +kernel
theorem dX0_takeFrom_62 : decode cX0_takeFrom 62 = .ok (.aload_n 1, 1) := by decide +kernel
theorem dX0_takeFrom_63 : decode cX0_takeFrom 63 = .ok (.getfield 18, 3) := by decide +kernel
theorem dX0_takeFrom_66 : decode cX0_takeFrom 66 = .ok (.iconst 0, 1) := by decide +kernel
theorem dX0_takeFrom_67 : decode cX0_takeFrom 67 = .ok (.aload_n 0, 1) := by decide +kernel
theorem dX0_takeFrom_68 : decode cX0_takeFrom 68 = .ok (.getfield 18, 3) := by decide +kernel
theorem dX0_takeFrom_71 : decode cX0_takeFrom 71 = .ok (.iconst 0, 1) := by decide +kernel
theorem dX0_takeFrom_72 : decode cX0_takeFrom 72 = .ok (.bipush 6, 2) := by decide +kernel
theorem dX0_takeFrom_74 : decode cX0_takeFrom 74 = .ok (.invokestatic 50, 3) := by decide +kernel
theorem dX0_takeFrom_77 : decode cX0_takeFrom 77 = .ok (.aload_n 1, 1) := by decide +kernel
theorem dX0_takeFrom_78 : decode cX0_takeFrom 78 = .ok (.getfield 21, 3) := by decide +kernel
theorem dX0_takeFrom_81 : decode cX0_takeFrom 81 = .ok (.iconst 0, 1) := by decide +kernel
theorem dX0_takeFrom_82 : decode cX0_takeFrom 82 = .ok (.aload_n 0, 1) := by decide +kernel
theorem dX0_takeFrom_83 : decode cX0_takeFrom 83 = .ok (.getfield 21, 3) := by decide +kernel
theorem dX0_takeFrom_86 : decode cX0_takeFrom 86 = .ok (.iconst 0, 1) := by decide +kernel
theorem dX0_takeFrom_87 : decode cX0_takeFrom 87 = .ok (.bipush 6, 2) := by decide +kernel
theorem dX0_takeFrom_89 : decode cX0_takeFrom 89 = .ok (.invokestatic 50, 3) := by decide +kernel
theorem dX0_takeFrom_92 : decode cX0_takeFrom 92 = .ok (.aload_n 1, 1) := by decide +kernel
theorem dX0_takeFrom_93 : decode cX0_takeFrom 93 = .ok (.getfield 24, 3) := by decide +kernel
theorem dX0_takeFrom_96 : decode cX0_takeFrom 96 = .ok (.iconst 0, 1) := by decide +kernel
theorem dX0_takeFrom_97 : decode cX0_takeFrom 97 = .ok (.aload_n 0, 1) := by decide +kernel
theorem dX0_takeFrom_98 : decode cX0_takeFrom 98 = .ok (.getfield 24, 3) := by decide +kernel
theorem dX0_takeFrom_101 : decode cX0_takeFrom 101 = .ok (.iconst 0, 1) := by decide +kernel
theorem dX0_takeFrom_102 : decode cX0_takeFrom 102 = .ok (.bipush 6, 2) := by decide +kernel
theorem dX0_takeFrom_104 : decode cX0_takeFrom 104 = .ok (.invokestatic 50, 3) := by decide +kernel
theorem dX0_takeFrom_107 : decode cX0_takeFrom 107 = .ok (.return_, 1) := by decide +kernel
theorem dX0_run_0 : decode cX0_run 0 = .ok (.iconst 0, 1) := by decide +kernel
theorem dX0_run_1 : decode cX0_run 1 = .ok (.istore_n 3, 1) := by decide +kernel
theorem dX0_run_2 : decode cX0_run 2 = .ok (.iload_n 3, 1) := by decide +kernel
theorem dX0_run_3 : decode cX0_run 3 = .ok (.iload_n 2, 1) := by decide +kernel
theorem dX0_run_4 : decode cX0_run 4 = .ok (.if_icmp .ge 15, 3) := by decide +kernel
theorem dX0_run_7 : decode cX0_run 7 = .ok (.aload_n 0, 1) := by decide +kernel
theorem dX0_run_8 : decode cX0_run 8 = .ok (.aload_n 1, 1) := by decide +kernel
theorem dX0_run_9 : decode cX0_run 9 = .ok (.invokevirtual 66, 3) := by decide +kernel
theorem dX0_run_12 : decode cX0_run 12 = .ok (.pop, 1) := by decide +kernel
theorem dX0_run_13 : decode cX0_run 13 = .ok (.iinc 3 1, 3) := by decide +kernel
theorem dX0_run_16 : decode cX0_run 16 = .ok (.goto (-14), 3) := by decide +kernel
theorem dX0_run_19 : decode cX0_run 19 = .ok (.return_, 1) := by decide +kernel
theorem dX0_runUntilFiled_0 : decode cX0_runUntilFiled 0 = .ok (.iconst 0, 1) := by decide +kernel
theorem dX0_runUntilFiled_1 : decode cX0_runUntilFiled 1 = .ok (.istore 4, 2) := by decide +kernel
theorem dX0_runUntilFiled_3 : decode cX0_runUntilFiled 3 = .ok (.iload 4, 2) := by decide +kernel
theorem dX0_runUntilFiled_5 : decode cX0_runUntilFiled 5 = .ok (.iload_n 3, 1) := by decide +kernel
theorem dX0_runUntilFiled_6 : decode cX0_runUntilFiled 6 = .ok (.if_icmp .ge 48, 3) := by decide +kernel
theorem dX0_runUntilFiled_9 : decode cX0_runUntilFiled 9 = .ok (.aload_n 0, 1) := by decide +kernel
theorem dX0_runUntilFiled_10 : decode cX0_runUntilFiled 10 = .ok (.getfield 46, 3) := by decide +kernel
theorem dX0_runUntilFiled_13 : decode cX0_runUntilFiled 13 = .ok (.iload_n 2, 1) := by decide +kernel
theorem dX0_runUntilFiled_14 : decode cX0_runUntilFiled 14 = .ok (.iand, 1) := by decide +kernel
theorem dX0_runUntilFiled_15 : decode cX0_runUntilFiled 15 = .ok (.iload_n 2, 1) := by decide +kernel
theorem dX0_runUntilFiled_16 : decode cX0_runUntilFiled 16 = .ok (.if_icmp .eq 38, 3) := by decide +kernel
theorem dX0_runUntilFiled_19 : decode cX0_runUntilFiled 19 = .ok (.aload_n 0, 1) := by decide +kernel
theorem dX0_runUntilFiled_20 : decode cX0_runUntilFiled 20 = .ok (.getfield 39, 3) := by decide +kernel
theorem dX0_runUntilFiled_23 : decode cX0_runUntilFiled 23 = .ok (.ifCond .le 7, 3) := by decide +kernel
theorem dX0_runUntilFiled_26 : decode cX0_runUntilFiled 26 = .ok (.iconst 1, 1) := by decide +kernel
theorem dX0_runUntilFiled_27 : decode cX0_runUntilFiled 27 = .ok (.goto 4, 3) := by decide +kernel
theorem dX0_runUntilFiled_30 : decode cX0_runUntilFiled 30 = .ok (.iconst 0, 1) := by decide +kernel
theorem dX0_runUntilFiled_31 : decode cX0_runUntilFiled 31 = .ok (.istore 5, 2) := by decide +kernel
theorem dX0_runUntilFiled_33 : decode cX0_runUntilFiled 33 = .ok (.aload_n 0, 1) := by decide +kernel
theorem dX0_runUntilFiled_34 : decode cX0_runUntilFiled 34 = .ok (.aload_n 1, 1) := by decide +kernel
theorem dX0_runUntilFiled_35 : decode cX0_runUntilFiled 35 = .ok (.invokevirtual 66, 3) := by decide +kernel
theorem dX0_runUntilFiled_38 : decode cX0_runUntilFiled 38 = .ok (.ifCond .ne 10, 3) := by decide +kernel
theorem dX0_runUntilFiled_41 : decode cX0_runUntilFiled 41 = .ok (.iload 5, 2) := by decide +kernel
theorem dX0_runUntilFiled_43 : decode cX0_runUntilFiled 43 = .ok (.ifCond .ne 5, 3) := by decide +kernel
theorem dX0_runUntilFiled_46 : decode cX0_runUntilFiled 46 = .ok (.iconst 0, 1) := by decide +kernel
theorem dX0_runUntilFiled_47 : decode cX0_runUntilFiled 47 = .ok (.ireturn, 1) := by decide +kernel
theorem dX0_runUntilFiled_48 : decode cX0_runUntilFiled 48 = .ok (.iinc 4 1, 3) := by decide +kernel
theorem dX0_runUntilFiled_51 : decode cX0_runUntilFiled 51 = .ok (.goto (-48), 3) := by decide +kernel
theorem dX0_runUntilFiled_54 : decode cX0_runUntilFiled 54 = .ok (.aload_n 0, 1) := by decide +kernel
theorem dX0_runUntilFiled_55 : decode cX0_runUntilFiled 55 = .ok (.getfield 46, 3) := by decide +kernel
theorem dX0_runUntilFiled_58 : decode cX0_runUntilFiled 58 = .ok (.iload_n 2, 1) := by decide +kernel
theorem dX0_runUntilFiled_59 : decode cX0_runUntilFiled 59 = .ok (.iand, 1) := by decide +kernel
theorem dX0_runUntilFiled_60 : decode cX0_runUntilFiled 60 = .ok (.iload_n 2, 1) := by decide +kernel
theorem dX0_runUntilFiled_61 : decode cX0_runUntilFiled 61 = .ok (.if_icmp .ne 7, 3) := by decide +kernel
theorem dX0_runUntilFiled_64 : decode cX0_runUntilFiled 64 = .ok (.iconst 1, 1) := by decide +kernel
theorem dX0_runUntilFiled_65 : decode cX0_runUntilFiled 65 = .ok (.goto 4, 3) := by decide +kernel
theorem dX0_runUntilFiled_68 : decode cX0_runUntilFiled 68 = .ok (.iconst 0, 1) := by decide +kernel
theorem dX0_runUntilFiled_69 : decode cX0_runUntilFiled 69 = .ok (.ireturn, 1) := by decide +kernel
theorem dX0_passMinute_0 : decode cX0_passMinute 0 = .ok (.aload_n 0, 1) := by decide +kernel
theorem dX0_passMinute_1 : decode cX0_passMinute 1 = .ok (.aload_n 1, 1) := by decide +kernel
theorem dX0_passMinute_2 : decode cX0_passMinute 2 = .ok (.invokevirtual 70, 3) := by decide +kernel
theorem dX0_passMinute_5 : decode cX0_passMinute 5 = .ok (.istore_n 2, 1) := by decide +kernel
theorem dX0_passMinute_6 : decode cX0_passMinute 6 = .ok (.aload_n 0, 1) := by decide +kernel
theorem dX0_passMinute_7 : decode cX0_passMinute 7 = .ok (.getfield 39, 3) := by decide +kernel
theorem dX0_passMinute_10 : decode cX0_passMinute 10 = .ok (.ifCond .le 13, 3) := by decide +kernel
theorem dX0_passMinute_13 : decode cX0_passMinute 13 = .ok (.aload_n 0, 1) := by decide +kernel
theorem dX0_passMinute_14 : decode cX0_passMinute 14 = .ok (.dup, 1) := by decide +kernel
theorem dX0_passMinute_15 : decode cX0_passMinute 15 = .ok (.getfield 39, 3) := by decide +kernel
theorem dX0_passMinute_18 : decode cX0_passMinute 18 = .ok (.iconst 1, 1) := by decide +kernel
theorem dX0_passMinute_19 : decode cX0_passMinute 19 = .ok (.isub, 1) := by decide +kernel
theorem dX0_passMinute_20 : decode cX0_passMinute 20 = .ok (.putfield 39, 3) := by decide +kernel
theorem dX0_passMinute_23 : decode cX0_passMinute 23 = .ok (.iload_n 2, 1) := by decide +kernel
theorem dX0_passMinute_24 : decode cX0_passMinute 24 = .ok (.ifCond .eq 8, 3) := by decide +kernel
theorem dX0_passMinute_27 : decode cX0_passMinute 27 = .ok (.aload_n 0, 1) := by decide +kernel
theorem dX0_passMinute_28 : decode cX0_passMinute 28 = .ok (.aload_n 1, 1) := by decide +kernel
theorem dX0_passMinute_29 : decode cX0_passMinute 29 = .ok (.invokevirtual 73, 3) := by decide +kernel
theorem dX0_passMinute_32 : decode cX0_passMinute 32 = .ok (.aload_n 0, 1) := by decide +kernel
theorem dX0_passMinute_33 : decode cX0_passMinute 33 = .ok (.aload_n 1, 1) := by decide +kernel
theorem dX0_passMinute_34 : decode cX0_passMinute 34 = .ok (.invokevirtual 77, 3) := by decide +kernel
theorem dX0_passMinute_37 : decode cX0_passMinute 37 = .ok (.iload_n 2, 1) := by decide +kernel
theorem dX0_passMinute_38 : decode cX0_passMinute 38 = .ok (.ifCond .eq 8, 3) := by decide +kernel
theorem dX0_passMinute_41 : decode cX0_passMinute 41 = .ok (.aload_n 0, 1) := by decide +kernel
theorem dX0_passMinute_42 : decode cX0_passMinute 42 = .ok (.aload_n 1, 1) := by decide +kernel
theorem dX0_passMinute_43 : decode cX0_passMinute 43 = .ok (.invokevirtual 80, 3) := by decide +kernel
theorem dX0_passMinute_46 : decode cX0_passMinute 46 = .ok (.aload_n 0, 1) := by decide +kernel
theorem dX0_passMinute_47 : decode cX0_passMinute 47 = .ok (.dup, 1) := by decide +kernel
theorem dX0_passMinute_48 : decode cX0_passMinute 48 = .ok (.getfield 40, 3) := by decide +kernel
theorem dX0_passMinute_51 : decode cX0_passMinute 51 = .ok (.iconst 1, 1) := by decide +kernel
theorem dX0_passMinute_52 : decode cX0_passMinute 52 = .ok (.iadd, 1) := by decide +kernel
theorem dX0_passMinute_53 : decode cX0_passMinute 53 = .ok (.putfield 40, 3) := by decide +kernel
theorem dX0_passMinute_56 : decode cX0_passMinute 56 = .ok (.iload_n 2, 1) := by decide +kernel
theorem dX0_passMinute_57 : decode cX0_passMinute 57 = .ok (.ireturn, 1) := by decide +kernel
theorem dX0_choose_0 : decode cX0_choose 0 = .ok (.aload_n 0, 1) := by decide +kernel
theorem dX0_choose_1 : decode cX0_choose 1 = .ok (.getfield 27, 3) := by decide +kernel
theorem dX0_choose_4 : decode cX0_choose 4 = .ok (.iconst (-1), 1) := by decide +kernel
theorem dX0_choose_5 : decode cX0_choose 5 = .ok (.invokestatic 60, 3) := by decide +kernel
theorem dX0_choose_8 : decode cX0_choose 8 = .ok (.aload_n 0, 1) := by decide +kernel
theorem dX0_choose_9 : decode cX0_choose 9 = .ok (.getfield 39, 3) := by decide +kernel
theorem dX0_choose_12 : decode cX0_choose 12 = .ok (.ifCond .le 5, 3) := by decide +kernel
theorem dX0_choose_15 : decode cX0_choose 15 = .ok (.iconst 0, 1) := by decide +kernel
theorem dX0_choose_16 : decode cX0_choose 16 = .ok (.ireturn, 1) := by decide +kernel
theorem dX0_choose_17 : decode cX0_choose 17 = .ok (.aload_n 0, 1) := by decide +kernel
theorem dX0_choose_18 : decode cX0_choose 18 = .ok (.aload_n 1, 1) := by decide +kernel
theorem dX0_choose_19 : decode cX0_choose 19 = .ok (.invokevirtual 83, 3) := by decide +kernel
theorem dX0_choose_22 : decode cX0_choose 22 = .ok (.iconst 0, 1) := by decide +kernel
theorem dX0_choose_23 : decode cX0_choose 23 = .ok (.istore_n 2, 1) := by decide +kernel
theorem dX0_choose_24 : decode cX0_choose 24 = .ok (.iconst 0, 1) := by decide +kernel
theorem dX0_choose_25 : decode cX0_choose 25 = .ok (.istore_n 3, 1) := by decide +kernel
theorem dX0_choose_26 : decode cX0_choose 26 = .ok (.iload_n 3, 1) := by decide +kernel
theorem dX0_choose_27 : decode cX0_choose 27 = .ok (.aload_n 1, 1) := by decide +kernel
theorem dX0_choose_28 : decode cX0_choose 28 = .ok (.getfield 86, 3) := by decide +kernel
theorem dX0_choose_31 : decode cX0_choose 31 = .ok (.if_icmp .ge 68, 3) := by decide +kernel
theorem dX0_choose_34 : decode cX0_choose 34 = .ok (.aload_n 0, 1) := by decide +kernel
theorem dX0_choose_35 : decode cX0_choose 35 = .ok (.getfield 30, 3) := by decide +kernel
theorem dX0_choose_38 : decode cX0_choose 38 = .ok (.iload_n 3, 1) := by decide +kernel
theorem dX0_choose_39 : decode cX0_choose 39 = .ok (.iaload, 1) := by decide +kernel
theorem dX0_choose_40 : decode cX0_choose 40 = .ok (.istore 4, 2) := by decide +kernel
theorem dX0_choose_42 : decode cX0_choose 42 = .ok (.iload 4, 2) := by decide +kernel
theorem dX0_choose_44 : decode cX0_choose 44 = .ok (.iconst (-1), 1) := by decide +kernel
theorem dX0_choose_45 : decode cX0_choose 45 = .ok (.if_icmp .eq 48, 3) := by decide +kernel
theorem dX0_choose_48 : decode cX0_choose 48 = .ok (.aload_n 0, 1) := by decide +kernel
theorem dX0_choose_49 : decode cX0_choose 49 = .ok (.iload_n 3, 1) := by decide +kernel
theorem dX0_choose_50 : decode cX0_choose 50 = .ok (.aload_n 1, 1) := by decide +kernel
theorem dX0_choose_51 : decode cX0_choose 51 = .ok (.invokevirtual 89, 3) := by decide +kernel
theorem dX0_choose_54 : decode cX0_choose 54 = .ok (.ifCond .ne 6, 3) := by decide +kernel
theorem dX0_choose_57 : decode cX0_choose 57 = .ok (.goto 36, 3) := by decide +kernel
theorem dX0_choose_60 : decode cX0_choose 60 = .ok (.aload_n 0, 1) := by decide +kernel
theorem dX0_choose_61 : decode cX0_choose 61 = .ok (.getfield 27, 3) := by decide +kernel
theorem dX0_choose_64 : decode cX0_choose 64 = .ok (.iload 4, 2) := by decide +kernel
theorem dX0_choose_66 : decode cX0_choose 66 = .ok (.aload_n 0, 1) := by decide +kernel
theorem dX0_choose_67 : decode cX0_choose 67 = .ok (.iload_n 3, 1) := by decide +kernel
theorem dX0_choose_68 : decode cX0_choose 68 = .ok (.aload_n 0, 1) := by decide +kernel
theorem dX0_choose_69 : decode cX0_choose 69 = .ok (.getfield 21, 3) := by decide +kernel
theorem dX0_choose_72 : decode cX0_choose 72 = .ok (.iload 4, 2) := by decide +kernel
theorem dX0_choose_74 : decode cX0_choose 74 = .ok (.iaload, 1) := by decide +kernel
theorem dX0_choose_75 : decode cX0_choose 75 = .ok (.aload_n 1, 1) := by decide +kernel
theorem dX0_choose_76 : decode cX0_choose 76 = .ok (.invokevirtual 93, 3) := by decide +kernel
theorem dX0_choose_79 : decode cX0_choose 79 = .ok (.iastore, 1) := by decide +kernel
theorem dX0_choose_80 : decode cX0_choose 80 = .ok (.aload_n 0, 1) := by decide +kernel
theorem dX0_choose_81 : decode cX0_choose 81 = .ok (.getfield 27, 3) := by decide +kernel
theorem dX0_choose_84 : decode cX0_choose 84 = .ok (.iload 4, 2) := by decide +kernel
theorem dX0_choose_86 : decode cX0_choose 86 = .ok (.iaload, 1) := by decide +kernel
theorem dX0_choose_87 : decode cX0_choose 87 = .ok (.iconst (-1), 1) := by decide +kernel
theorem dX0_choose_88 : decode cX0_choose 88 = .ok (.if_icmp .eq 5, 3) := by decide +kernel
theorem dX0_choose_91 : decode cX0_choose 91 = .ok (.iconst 1, 1) := by decide +kernel
theorem dX0_choose_92 : decode cX0_choose 92 = .ok (.istore_n 2, 1) := by decide +kernel
theorem dX0_choose_93 : decode cX0_choose 93 = .ok (.iinc 3 1, 3) := by decide +kernel
theorem dX0_choose_96 : decode cX0_choose 96 = .ok (.goto (-70), 3) := by decide +kernel
theorem dX0_choose_99 : decode cX0_choose 99 = .ok (.iload_n 2, 1) := by decide +kernel
theorem dX0_choose_100 : decode cX0_choose 100 = .ok (.ireturn, 1) := by decide +kernel
theorem dX0_letsGo_0 : decode cX0_letsGo 0 = .ok (.iload_n 1, 1) := by decide +kernel
theorem dX0_letsGo_1 : decode cX0_letsGo 1 = .ok (.aload_n 0, 1) := by decide +kernel
theorem dX0_letsGo_2 : decode cX0_letsGo 2 = .ok (.getfield 43, 3) := by decide +kernel
theorem dX0_letsGo_5 : decode cX0_letsGo 5 = .ok (.if_icmp .eq 17, 3) := by decide +kernel
theorem dX0_letsGo_8 : decode cX0_letsGo 8 = .ok (.aload_n 2, 1) := by decide +kernel
theorem dX0_letsGo_9 : decode cX0_letsGo 9 = .ok (.getfield 97, 3) := by decide +kernel
theorem dX0_letsGo_12 : decode cX0_letsGo 12 = .ok (.iload_n 1, 1) := by decide +kernel
theorem dX0_letsGo_13 : decode cX0_letsGo 13 = .ok (.iaload, 1) := by decide +kernel
theorem dX0_letsGo_14 : decode cX0_letsGo 14 = .ok (.iconst 3, 1) := by decide +kernel
theorem dX0_letsGo_15 : decode cX0_letsGo 15 = .ok (.if_icmp .eq 7, 3) := by decide +kernel
theorem dX0_letsGo_18 : decode cX0_letsGo 18 = .ok (.iconst 1, 1) := by decide +kernel
theorem dX0_letsGo_19 : decode cX0_letsGo 19 = .ok (.goto 4, 3) := by decide +kernel
theorem dX0_letsGo_22 : decode cX0_letsGo 22 = .ok (.iconst 0, 1) := by decide +kernel
theorem dX0_letsGo_23 : decode cX0_letsGo 23 = .ok (.ireturn, 1) := by decide +kernel
theorem dX0_findSweetest_0 : decode cX0_findSweetest 0 = .ok (.aload_n 0, 1) := by decide +kernel
theorem dX0_findSweetest_1 : decode cX0_findSweetest 1 = .ok (.getfield 30, 3) := by decide +kernel
theorem dX0_findSweetest_4 : decode cX0_findSweetest 4 = .ok (.iconst (-1), 1) := by decide +kernel
theorem dX0_findSweetest_5 : decode cX0_findSweetest 5 = .ok (.invokestatic 60, 3) := by decide +kernel
theorem dX0_findSweetest_8 : decode cX0_findSweetest 8 = .ok (.iconst 0, 1) := by decide +kernel
theorem dX0_findSweetest_9 : decode cX0_findSweetest 9 = .ok (.istore_n 2, 1) := by decide +kernel
theorem dX0_findSweetest_10 : decode cX0_findSweetest 10 = .ok (.iload_n 2, 1) := by decide +kernel
theorem dX0_findSweetest_11 : decode cX0_findSweetest 11 = .ok (.aload_n 1, 1) := by decide +kernel
theorem dX0_findSweetest_12 : decode cX0_findSweetest 12 = .ok (.getfield 100, 3) := by decide +kernel
theorem dX0_findSweetest_15 : decode cX0_findSweetest 15 = .ok (.if_icmp .ge 73, 3) := by decide +kernel
theorem dX0_findSweetest_18 : decode cX0_findSweetest 18 = .ok (.aload_n 0, 1) := by decide +kernel
theorem dX0_findSweetest_19 : decode cX0_findSweetest 19 = .ok (.iload_n 2, 1) := by decide +kernel
theorem dX0_findSweetest_20 : decode cX0_findSweetest 20 = .ok (.invokevirtual 103, 3) := by decide +kernel
theorem dX0_findSweetest_23 : decode cX0_findSweetest 23 = .ok (.ifCond .ne 59, 3) := by decide +kernel
theorem dX0_findSweetest_26 : decode cX0_findSweetest 26 = .ok (.aload_n 0, 1) := by decide +kernel
theorem dX0_findSweetest_27 : decode cX0_findSweetest 27 = .ok (.getfield 18, 3) := by decide +kernel
theorem dX0_findSweetest_30 : decode cX0_findSweetest 30 = .ok (.iload_n 2, 1) := by decide +kernel
theorem dX0_findSweetest_31 : decode cX0_findSweetest 31 = .ok (.iaload, 1) := by decide +kernel
theorem dX0_findSweetest_32 : decode cX0_findSweetest 32 = .ok (.ifCond .ne 6, 3) := by decide +kernel
theorem dX0_findSweetest_35 : decode cX0_findSweetest 35 = .ok (.goto 47, 3) := by decide +kernel
theorem dX0_findSweetest_38 : decode cX0_findSweetest 38 = .ok (.aload_n 0, 1) := by decide +kernel
theorem dX0_findSweetest_39 : decode cX0_findSweetest 39 = .ok (.getfield 30, 3) := by decide +kernel
theorem dX0_findSweetest_42 : decode cX0_findSweetest 42 = .ok (.aload_n 0, 1) := by decide +kernel
theorem dX0_findSweetest_43 : decode cX0_findSweetest 43 = .ok (.getfield 15, 3) := by decide +kernel
theorem dX0_findSweetest_46 : decode cX0_findSweetest 46 = .ok (.iload_n 2, 1) := by decide +kernel
theorem dX0_findSweetest_47 : decode cX0_findSweetest 47 = .ok (.iaload, 1) := by decide +kernel
theorem dX0_findSweetest_48 : decode cX0_findSweetest 48 = .ok (.iaload, 1) := by decide +kernel
theorem dX0_findSweetest_49 : decode cX0_findSweetest 49 = .ok (.istore_n 3, 1) := by decide +kernel
theorem dX0_findSweetest_50 : decode cX0_findSweetest 50 = .ok (.iload_n 3, 1) := by decide +kernel
theorem dX0_findSweetest_51 : decode cX0_findSweetest 51 = .ok (.iconst (-1), 1) := by decide +kernel
theorem dX0_findSweetest_52 : decode cX0_findSweetest 52 = .ok (.if_icmp .eq 18, 3) := by decide +kernel
theorem dX0_findSweetest_55 : decode cX0_findSweetest 55 = .ok (.aload_n 0, 1) := by decide +kernel
theorem dX0_findSweetest_56 : decode cX0_findSweetest 56 = .ok (.getfield 18, 3) := by decide +kernel
theorem dX0_findSweetest_59 : decode cX0_findSweetest 59 = .ok (.iload_n 2, 1) := by decide +kernel
theorem dX0_findSweetest_60 : decode cX0_findSweetest 60 = .ok (.iaload, 1) := by decide +kernel
theorem dX0_findSweetest_61 : decode cX0_findSweetest 61 = .ok (.aload_n 0, 1) := by decide +kernel
theorem dX0_findSweetest_62 : decode cX0_findSweetest 62 = .ok (.getfield 18, 3) := by decide +kernel
theorem dX0_findSweetest_65 : decode cX0_findSweetest 65 = .ok (.iload_n 3, 1) := by decide +kernel
theorem dX0_findSweetest_66 : decode cX0_findSweetest 66 = .ok (.iaload, 1) := by decide +kernel
theorem dX0_findSweetest_67 : decode cX0_findSweetest 67 = .ok (.if_icmp .le 15, 3) := by decide +kernel
theorem dX0_findSweetest_70 : decode cX0_findSweetest 70 = .ok (.aload_n 0, 1) := by decide +kernel
theorem dX0_findSweetest_71 : decode cX0_findSweetest 71 = .ok (.getfield 30, 3) := by decide +kernel
theorem dX0_findSweetest_74 : decode cX0_findSweetest 74 = .ok (.aload_n 0, 1) := by decide +kernel
theorem dX0_findSweetest_75 : decode cX0_findSweetest 75 = .ok (.getfield 15, 3) := by decide +kernel
theorem dX0_findSweetest_78 : decode cX0_findSweetest 78 = .ok (.iload_n 2, 1) := by decide +kernel
theorem dX0_findSweetest_79 : decode cX0_findSweetest 79 = .ok (.iaload, 1) := by decide +kernel
theorem dX0_findSweetest_80 : decode cX0_findSweetest 80 = .ok (.iload_n 2, 1) := by decide +kernel
theorem dX0_findSweetest_81 : decode cX0_findSweetest 81 = .ok (.iastore, 1) := by decide +kernel
theorem dX0_findSweetest_82 : decode cX0_findSweetest 82 = .ok (.iinc 2 1, 3) := by decide +kernel
theorem dX0_findSweetest_85 : decode cX0_findSweetest 85 = .ok (.goto (-75), 3) := by decide +kernel
theorem dX0_findSweetest_88 : decode cX0_findSweetest 88 = .ok (.return_, 1) := by decide +kernel
theorem dX0_wayFrom_0 : decode cX0_wayFrom 0 = .ok (.iconst (-1), 1) := by decide +kernel
theorem dX0_wayFrom_1 : decode cX0_wayFrom 1 = .ok (.istore 4, 2) := by decide +kernel
theorem dX0_wayFrom_3 : decode cX0_wayFrom 3 = .ok (.iconst 0, 1) := by decide +kernel
theorem dX0_wayFrom_4 : decode cX0_wayFrom 4 = .ok (.istore 5, 2) := by decide +kernel
theorem dX0_wayFrom_6 : decode cX0_wayFrom 6 = .ok (.iload 5, 2) := by decide +kernel
theorem dX0_wayFrom_8 : decode cX0_wayFrom 8 = .ok (.aload_n 3, 1) := by decide +kernel
theorem dX0_wayFrom_9 : decode cX0_wayFrom 9 = .ok (.getfield 107, 3) := by decide +kernel
theorem dX0_wayFrom_12 : decode cX0_wayFrom 12 = .ok (.if_icmp .ge 55, 3) := by decide +kernel
theorem dX0_wayFrom_15 : decode cX0_wayFrom 15 = .ok (.iload 5, 2) := by decide +kernel
theorem dX0_wayFrom_17 : decode cX0_wayFrom 17 = .ok (.iload_n 2, 1) := by decide +kernel
theorem dX0_wayFrom_18 : decode cX0_wayFrom 18 = .ok (.if_icmp .eq 43, 3) := by decide +kernel
theorem dX0_wayFrom_21 : decode cX0_wayFrom 21 = .ok (.aload_n 3, 1) := by decide +kernel
theorem dX0_wayFrom_22 : decode cX0_wayFrom 22 = .ok (.iload 5, 2) := by decide +kernel
theorem dX0_wayFrom_24 : decode cX0_wayFrom 24 = .ok (.iload_n 1, 1) := by decide +kernel
theorem dX0_wayFrom_25 : decode cX0_wayFrom 25 = .ok (.invokevirtual 110, 3) := by decide +kernel
theorem dX0_wayFrom_28 : decode cX0_wayFrom 28 = .ok (.ifCond .ne 6, 3) := by decide +kernel
theorem dX0_wayFrom_31 : decode cX0_wayFrom 31 = .ok (.goto 30, 3) := by decide +kernel
theorem dX0_wayFrom_34 : decode cX0_wayFrom 34 = .ok (.iload 4, 2) := by decide +kernel
theorem dX0_wayFrom_36 : decode cX0_wayFrom 36 = .ok (.iconst (-1), 1) := by decide +kernel
theorem dX0_wayFrom_37 : decode cX0_wayFrom 37 = .ok (.if_icmp .eq 20, 3) := by decide +kernel
theorem dX0_wayFrom_40 : decode cX0_wayFrom 40 = .ok (.aload_n 0, 1) := by decide +kernel
theorem dX0_wayFrom_41 : decode cX0_wayFrom 41 = .ok (.getfield 9, 3) := by decide +kernel
theorem dX0_wayFrom_44 : decode cX0_wayFrom 44 = .ok (.iload 5, 2) := by decide +kernel
theorem dX0_wayFrom_46 : decode cX0_wayFrom 46 = .ok (.iaload, 1) := by decide +kernel
theorem dX0_wayFrom_47 : decode cX0_wayFrom 47 = .ok (.aload_n 0, 1) := by decide +kernel
theorem dX0_wayFrom_48 : decode cX0_wayFrom 48 = .ok (.getfield 9, 3) := by decide +kernel
theorem dX0_wayFrom_51 : decode cX0_wayFrom 51 = .ok (.iload 4, 2) := by decide +kernel
theorem dX0_wayFrom_53 : decode cX0_wayFrom 53 = .ok (.iaload, 1) := by decide +kernel
theorem dX0_wayFrom_54 : decode cX0_wayFrom 54 = .ok (.if_icmp .le 7, 3) := by decide +kernel
theorem dX0_wayFrom_57 : decode cX0_wayFrom 57 = .ok (.iload 5, 2) := by decide +kernel
theorem dX0_wayFrom_59 : decode cX0_wayFrom 59 = .ok (.istore 4, 2) := by decide +kernel
theorem dX0_wayFrom_61 : decode cX0_wayFrom 61 = .ok (.iinc 5 1, 3) := by decide +kernel
theorem dX0_wayFrom_64 : decode cX0_wayFrom 64 = .ok (.goto (-58), 3) := by decide +kernel
theorem dX0_wayFrom_67 : decode cX0_wayFrom 67 = .ok (.iload 4, 2) := by decide +kernel
theorem dX0_wayFrom_69 : decode cX0_wayFrom 69 = .ok (.iconst (-1), 1) := by decide +kernel
theorem dX0_wayFrom_70 : decode cX0_wayFrom 70 = .ok (.if_icmp .ne 7, 3) := by decide +kernel
theorem dX0_wayFrom_73 : decode cX0_wayFrom 73 = .ok (.iload_n 2, 1) := by decide +kernel
theorem dX0_wayFrom_74 : decode cX0_wayFrom 74 = .ok (.goto 5, 3) := by decide +kernel
theorem dX0_wayFrom_77 : decode cX0_wayFrom 77 = .ok (.iload 4, 2) := by decide +kernel
theorem dX0_wayFrom_79 : decode cX0_wayFrom 79 = .ok (.ireturn, 1) := by decide +kernel
theorem dX0_leaveScent_0 : decode cX0_leaveScent 0 = .ok (.iconst 0, 1) := by decide +kernel
theorem dX0_leaveScent_1 : decode cX0_leaveScent 1 = .ok (.istore_n 2, 1) := by decide +kernel
theorem dX0_leaveScent_2 : decode cX0_leaveScent 2 = .ok (.iload_n 2, 1) := by decide +kernel
theorem dX0_leaveScent_3 : decode cX0_leaveScent 3 = .ok (.aload_n 1, 1) := by decide +kernel
theorem dX0_leaveScent_4 : decode cX0_leaveScent 4 = .ok (.getfield 100, 3) := by decide +kernel
theorem dX0_leaveScent_7 : decode cX0_leaveScent 7 = .ok (.if_icmp .ge 45, 3) := by decide +kernel
theorem dX0_leaveScent_10 : decode cX0_leaveScent 10 = .ok (.aload_n 0, 1) := by decide +kernel
theorem dX0_leaveScent_11 : decode cX0_leaveScent 11 = .ok (.getfield 27, 3) := by decide +kernel
theorem dX0_leaveScent_14 : decode cX0_leaveScent 14 = .ok (.iload_n 2, 1) := by decide +kernel
theorem dX0_leaveScent_15 : decode cX0_leaveScent 15 = .ok (.iaload, 1) := by decide +kernel
theorem dX0_leaveScent_16 : decode cX0_leaveScent 16 = .ok (.istore_n 3, 1) := by decide +kernel
theorem dX0_leaveScent_17 : decode cX0_leaveScent 17 = .ok (.iload_n 3, 1) := by decide +kernel
theorem dX0_leaveScent_18 : decode cX0_leaveScent 18 = .ok (.iconst (-1), 1) := by decide +kernel
theorem dX0_leaveScent_19 : decode cX0_leaveScent 19 = .ok (.if_icmp .eq 27, 3) := by decide +kernel
theorem dX0_leaveScent_22 : decode cX0_leaveScent 22 = .ok (.aload_n 0, 1) := by decide +kernel
theorem dX0_leaveScent_23 : decode cX0_leaveScent 23 = .ok (.getfield 9, 3) := by decide +kernel
theorem dX0_leaveScent_26 : decode cX0_leaveScent 26 = .ok (.iload_n 3, 1) := by decide +kernel
theorem dX0_leaveScent_27 : decode cX0_leaveScent 27 = .ok (.bipush 99, 2) := by decide +kernel
theorem dX0_leaveScent_29 : decode cX0_leaveScent 29 = .ok (.aload_n 0, 1) := by decide +kernel
theorem dX0_leaveScent_30 : decode cX0_leaveScent 30 = .ok (.getfield 9, 3) := by decide +kernel
theorem dX0_leaveScent_33 : decode cX0_leaveScent 33 = .ok (.iload_n 3, 1) := by decide +kernel
theorem dX0_leaveScent_34 : decode cX0_leaveScent 34 = .ok (.iaload, 1) := by decide +kernel
theorem dX0_leaveScent_35 : decode cX0_leaveScent 35 = .ok (.aload_n 0, 1) := by decide +kernel
theorem dX0_leaveScent_36 : decode cX0_leaveScent 36 = .ok (.getfield 18, 3) := by decide +kernel
theorem dX0_leaveScent_39 : decode cX0_leaveScent 39 = .ok (.iload_n 2, 1) := by decide +kernel
theorem dX0_leaveScent_40 : decode cX0_leaveScent 40 = .ok (.iaload, 1) := by decide +kernel
theorem dX0_leaveScent_41 : decode cX0_leaveScent 41 = .ok (.iadd, 1) := by decide +kernel
theorem dX0_leaveScent_42 : decode cX0_leaveScent 42 = .ok (.invokestatic 114, 3) := by decide +kernel
theorem dX0_leaveScent_45 : decode cX0_leaveScent 45 = .ok (.iastore, 1) := by decide +kernel
theorem dX0_leaveScent_46 : decode cX0_leaveScent 46 = .ok (.iinc 2 1, 3) := by decide +kernel
theorem dX0_leaveScent_49 : decode cX0_leaveScent 49 = .ok (.goto (-47), 3) := by decide +kernel
theorem dX0_leaveScent_52 : decode cX0_leaveScent 52 = .ok (.return_, 1) := by decide +kernel
theorem dX0_fadeScents_0 : decode cX0_fadeScents 0 = .ok (.iconst 0, 1) := by decide +kernel
theorem dX0_fadeScents_1 : decode cX0_fadeScents 1 = .ok (.istore_n 2, 1) := by decide +kernel
theorem dX0_fadeScents_2 : decode cX0_fadeScents 2 = .ok (.iload_n 2, 1) := by decide +kernel
theorem dX0_fadeScents_3 : decode cX0_fadeScents 3 = .ok (.aload_n 1, 1) := by decide +kernel
theorem dX0_fadeScents_4 : decode cX0_fadeScents 4 = .ok (.getfield 107, 3) := by decide +kernel
theorem dX0_fadeScents_7 : decode cX0_fadeScents 7 = .ok (.if_icmp .ge 30, 3) := by decide +kernel
theorem dX0_fadeScents_10 : decode cX0_fadeScents 10 = .ok (.aload_n 0, 1) := by decide +kernel
theorem dX0_fadeScents_11 : decode cX0_fadeScents 11 = .ok (.getfield 9, 3) := by decide +kernel
theorem dX0_fadeScents_14 : decode cX0_fadeScents 14 = .ok (.iload_n 2, 1) := by decide +kernel
theorem dX0_fadeScents_15 : decode cX0_fadeScents 15 = .ok (.iconst 0, 1) := by decide +kernel
theorem dX0_fadeScents_16 : decode cX0_fadeScents 16 = .ok (.aload_n 0, 1) := by decide +kernel
theorem dX0_fadeScents_17 : decode cX0_fadeScents 17 = .ok (.getfield 9, 3) := by decide +kernel
theorem dX0_fadeScents_20 : decode cX0_fadeScents 20 = .ok (.iload_n 2, 1) := by decide +kernel
theorem dX0_fadeScents_21 : decode cX0_fadeScents 21 = .ok (.iaload, 1) := by decide +kernel
theorem dX0_fadeScents_22 : decode cX0_fadeScents 22 = .ok (.aload_n 1, 1) := by decide +kernel
theorem dX0_fadeScents_23 : decode cX0_fadeScents 23 = .ok (.getfield 120, 3) := by decide +kernel
theorem dX0_fadeScents_26 : decode cX0_fadeScents 26 = .ok (.isub, 1) := by decide +kernel
theorem dX0_fadeScents_27 : decode cX0_fadeScents 27 = .ok (.invokestatic 123, 3) := by decide +kernel
theorem dX0_fadeScents_30 : decode cX0_fadeScents 30 = .ok (.iastore, 1) := by decide +kernel
theorem dX0_fadeScents_31 : decode cX0_fadeScents 31 = .ok (.iinc 2 1, 3) := by decide +kernel
theorem dX0_fadeScents_34 : decode cX0_fadeScents 34 = .ok (.goto (-32), 3) := by decide +kernel
theorem dX0_fadeScents_37 : decode cX0_fadeScents 37 = .ok (.return_, 1) := by decide +kernel
theorem dX0_arrive_0 : decode cX0_arrive 0 = .ok (.iconst 0, 1) := by decide +kernel
theorem dX0_arrive_1 : decode cX0_arrive 1 = .ok (.istore_n 2, 1) := by decide +kernel
theorem dX0_arrive_2 : decode cX0_arrive 2 = .ok (.iload_n 2, 1) := by decide +kernel
theorem dX0_arrive_3 : decode cX0_arrive 3 = .ok (.aload_n 1, 1) := by decide +kernel
theorem dX0_arrive_4 : decode cX0_arrive 4 = .ok (.getfield 100, 3) := by decide +kernel
theorem dX0_arrive_7 : decode cX0_arrive 7 = .ok (.if_icmp .ge 107, 3) := by decide +kernel
theorem dX0_arrive_10 : decode cX0_arrive 10 = .ok (.aload_n 0, 1) := by decide +kernel
theorem dX0_arrive_11 : decode cX0_arrive 11 = .ok (.getfield 27, 3) := by decide +kernel
theorem dX0_arrive_14 : decode cX0_arrive 14 = .ok (.iload_n 2, 1) := by decide +kernel
theorem dX0_arrive_15 : decode cX0_arrive 15 = .ok (.iaload, 1) := by decide +kernel
theorem dX0_arrive_16 : decode cX0_arrive 16 = .ok (.istore_n 3, 1) := by decide +kernel
theorem dX0_arrive_17 : decode cX0_arrive 17 = .ok (.iload_n 3, 1) := by decide +kernel
theorem dX0_arrive_18 : decode cX0_arrive 18 = .ok (.iconst (-1), 1) := by decide +kernel
theorem dX0_arrive_19 : decode cX0_arrive 19 = .ok (.if_icmp .ne 6, 3) := by decide +kernel
theorem dX0_arrive_22 : decode cX0_arrive 22 = .ok (.goto 86, 3) := by decide +kernel
theorem dX0_arrive_25 : decode cX0_arrive 25 = .ok (.aload_n 0, 1) := by decide +kernel
theorem dX0_arrive_26 : decode cX0_arrive 26 = .ok (.getfield 21, 3) := by decide +kernel
theorem dX0_arrive_29 : decode cX0_arrive 29 = .ok (.iload_n 2, 1) := by decide +kernel
theorem dX0_arrive_30 : decode cX0_arrive 30 = .ok (.iload_n 3, 1) := by decide +kernel
theorem dX0_arrive_31 : decode cX0_arrive 31 = .ok (.iastore, 1) := by decide +kernel
theorem dX0_arrive_32 : decode cX0_arrive 32 = .ok (.aload_n 0, 1) := by decide +kernel
theorem dX0_arrive_33 : decode cX0_arrive 33 = .ok (.getfield 15, 3) := by decide +kernel
theorem dX0_arrive_36 : decode cX0_arrive 36 = .ok (.iload_n 2, 1) := by decide +kernel
theorem dX0_arrive_37 : decode cX0_arrive 37 = .ok (.aload_n 1, 1) := by decide +kernel
theorem dX0_arrive_38 : decode cX0_arrive 38 = .ok (.iload_n 3, 1) := by decide +kernel
theorem dX0_arrive_39 : decode cX0_arrive 39 = .ok (.aload_n 0, 1) := by decide +kernel
theorem dX0_arrive_40 : decode cX0_arrive 40 = .ok (.getfield 15, 3) := by decide +kernel
theorem dX0_arrive_43 : decode cX0_arrive 43 = .ok (.iload_n 2, 1) := by decide +kernel
theorem dX0_arrive_44 : decode cX0_arrive 44 = .ok (.iaload, 1) := by decide +kernel
theorem dX0_arrive_45 : decode cX0_arrive 45 = .ok (.invokevirtual 126, 3) := by decide +kernel
theorem dX0_arrive_48 : decode cX0_arrive 48 = .ok (.iastore, 1) := by decide +kernel
theorem dX0_arrive_49 : decode cX0_arrive 49 = .ok (.aload_n 0, 1) := by decide +kernel
theorem dX0_arrive_50 : decode cX0_arrive 50 = .ok (.getfield 18, 3) := by decide +kernel
theorem dX0_arrive_53 : decode cX0_arrive 53 = .ok (.iload_n 2, 1) := by decide +kernel
theorem dX0_arrive_54 : decode cX0_arrive 54 = .ok (.aload_n 1, 1) := by decide +kernel
theorem dX0_arrive_55 : decode cX0_arrive 55 = .ok (.aload_n 0, 1) := by decide +kernel
theorem dX0_arrive_56 : decode cX0_arrive 56 = .ok (.getfield 15, 3) := by decide +kernel
theorem dX0_arrive_59 : decode cX0_arrive 59 = .ok (.iload_n 2, 1) := by decide +kernel
theorem dX0_arrive_60 : decode cX0_arrive 60 = .ok (.iaload, 1) := by decide +kernel
theorem dX0_arrive_61 : decode cX0_arrive 61 = .ok (.aload_n 0, 1) := by decide +kernel
theorem dX0_arrive_62 : decode cX0_arrive 62 = .ok (.getfield 18, 3) := by decide +kernel
theorem dX0_arrive_65 : decode cX0_arrive 65 = .ok (.iload_n 2, 1) := by decide +kernel
theorem dX0_arrive_66 : decode cX0_arrive 66 = .ok (.iaload, 1) := by decide +kernel
theorem dX0_arrive_67 : decode cX0_arrive 67 = .ok (.invokevirtual 129, 3) := by decide +kernel
theorem dX0_arrive_70 : decode cX0_arrive 70 = .ok (.iastore, 1) := by decide +kernel
theorem dX0_arrive_71 : decode cX0_arrive 71 = .ok (.aload_n 0, 1) := by decide +kernel
theorem dX0_arrive_72 : decode cX0_arrive 72 = .ok (.getfield 15, 3) := by decide +kernel
theorem dX0_arrive_75 : decode cX0_arrive 75 = .ok (.iload_n 2, 1) := by decide +kernel
theorem dX0_arrive_76 : decode cX0_arrive 76 = .ok (.iaload, 1) := by decide +kernel
theorem dX0_arrive_77 : decode cX0_arrive 77 = .ok (.aload_n 1, 1) := by decide +kernel
theorem dX0_arrive_78 : decode cX0_arrive 78 = .ok (.getfield 132, 3) := by decide +kernel
theorem dX0_arrive_81 : decode cX0_arrive 81 = .ok (.iload_n 2, 1) := by decide +kernel
theorem dX0_arrive_82 : decode cX0_arrive 82 = .ok (.iaload, 1) := by decide +kernel
theorem dX0_arrive_83 : decode cX0_arrive 83 = .ok (.if_icmp .ne 25, 3) := by decide +kernel
theorem dX0_arrive_86 : decode cX0_arrive 86 = .ok (.aload_n 0, 1) := by decide +kernel
theorem dX0_arrive_87 : decode cX0_arrive 87 = .ok (.getfield 24, 3) := by decide +kernel
theorem dX0_arrive_90 : decode cX0_arrive 90 = .ok (.iload_n 2, 1) := by decide +kernel
theorem dX0_arrive_91 : decode cX0_arrive 91 = .ok (.aload_n 0, 1) := by decide +kernel
theorem dX0_arrive_92 : decode cX0_arrive 92 = .ok (.getfield 40, 3) := by decide +kernel
theorem dX0_arrive_95 : decode cX0_arrive 95 = .ok (.iastore, 1) := by decide +kernel
theorem dX0_arrive_96 : decode cX0_arrive 96 = .ok (.aload_n 0, 1) := by decide +kernel
theorem dX0_arrive_97 : decode cX0_arrive 97 = .ok (.dup, 1) := by decide +kernel
theorem dX0_arrive_98 : decode cX0_arrive 98 = .ok (.getfield 46, 3) := by decide +kernel
theorem dX0_arrive_101 : decode cX0_arrive 101 = .ok (.iconst 1, 1) := by decide +kernel
theorem dX0_arrive_102 : decode cX0_arrive 102 = .ok (.iload_n 2, 1) := by decide +kernel
theorem dX0_arrive_103 : decode cX0_arrive 103 = .ok (.ishl, 1) := by decide +kernel
theorem dX0_arrive_104 : decode cX0_arrive 104 = .ok (.ior, 1) := by decide +kernel
theorem dX0_arrive_105 : decode cX0_arrive 105 = .ok (.putfield 46, 3) := by decide +kernel
theorem dX0_arrive_108 : decode cX0_arrive 108 = .ok (.iinc 2 1, 3) := by decide +kernel
theorem dX0_arrive_111 : decode cX0_arrive 111 = .ok (.goto (-109), 3) := by decide +kernel
theorem dX0_arrive_114 : decode cX0_arrive 114 = .ok (.return_, 1) := by decide +kernel
theorem dX0_isFiled_0 : decode cX0_isFiled 0 = .ok (.aload_n 0, 1) := by decide +kernel
theorem dX0_isFiled_1 : decode cX0_isFiled 1 = .ok (.getfield 24, 3) := by decide +kernel
theorem dX0_isFiled_4 : decode cX0_isFiled 4 = .ok (.iload_n 1, 1) := by decide +kernel
theorem dX0_isFiled_5 : decode cX0_isFiled 5 = .ok (.iaload, 1) := by decide +kernel
theorem dX0_isFiled_6 : decode cX0_isFiled 6 = .ok (.iconst (-1), 1) := by decide +kernel
theorem dX0_isFiled_7 : decode cX0_isFiled 7 = .ok (.if_icmp .eq 7, 3) := by decide +kernel
theorem dX0_isFiled_10 : decode cX0_isFiled 10 = .ok (.iconst 1, 1) := by decide +kernel
theorem dX0_isFiled_11 : decode cX0_isFiled 11 = .ok (.goto 4, 3) := by decide +kernel
theorem dX0_isFiled_14 : decode cX0_isFiled 14 = .ok (.iconst 0, 1) := by decide +kernel
theorem dX0_isFiled_15 : decode cX0_isFiled 15 = .ok (.ireturn, 1) := by decide +kernel
theorem dX0_filesAt_0 : decode cX0_filesAt 0 = .ok (.iconst 0, 1) := by decide +kernel
theorem dX0_filesAt_1 : decode cX0_filesAt 1 = .ok (.istore_n 3, 1) := by decide +kernel
theorem dX0_filesAt_2 : decode cX0_filesAt 2 = .ok (.iconst 0, 1) := by decide +kernel
theorem dX0_filesAt_3 : decode cX0_filesAt 3 = .ok (.istore 4, 2) := by decide +kernel
theorem dX0_filesAt_5 : decode cX0_filesAt 5 = .ok (.iload 4, 2) := by decide +kernel
theorem dX0_filesAt_7 : decode cX0_filesAt 7 = .ok (.iload_n 2, 1) := by decide +kernel
theorem dX0_filesAt_8 : decode cX0_filesAt 8 = .ok (.if_icmp .ge 27, 3) := by decide +kernel
theorem dX0_filesAt_11 : decode cX0_filesAt 11 = .ok (.aload_n 0, 1) := by decide +kernel
theorem dX0_filesAt_12 : decode cX0_filesAt 12 = .ok (.getfield 15, 3) := by decide +kernel
theorem dX0_filesAt_15 : decode cX0_filesAt 15 = .ok (.iload 4, 2) := by decide +kernel
theorem dX0_filesAt_17 : decode cX0_filesAt 17 = .ok (.iaload, 1) := by decide +kernel
theorem dX0_filesAt_18 : decode cX0_filesAt 18 = .ok (.iload_n 1, 1) := by decide +kernel
theorem dX0_filesAt_19 : decode cX0_filesAt 19 = .ok (.if_icmp .ne 10, 3) := by decide +kernel
theorem dX0_filesAt_22 : decode cX0_filesAt 22 = .ok (.iload_n 3, 1) := by decide +kernel
theorem dX0_filesAt_23 : decode cX0_filesAt 23 = .ok (.iconst 1, 1) := by decide +kernel
theorem dX0_filesAt_24 : decode cX0_filesAt 24 = .ok (.iload 4, 2) := by decide +kernel
theorem dX0_filesAt_26 : decode cX0_filesAt 26 = .ok (.ishl, 1) := by decide +kernel
theorem dX0_filesAt_27 : decode cX0_filesAt 27 = .ok (.ior, 1) := by decide +kernel
theorem dX0_filesAt_28 : decode cX0_filesAt 28 = .ok (.istore_n 3, 1) := by decide +kernel
theorem dX0_filesAt_29 : decode cX0_filesAt 29 = .ok (.iinc 4 1, 3) := by decide +kernel
theorem dX0_filesAt_32 : decode cX0_filesAt 32 = .ok (.goto (-27), 3) := by decide +kernel
theorem dX0_filesAt_35 : decode cX0_filesAt 35 = .ok (.iload_n 3, 1) := by decide +kernel
theorem dX0_filesAt_36 : decode cX0_filesAt 36 = .ok (.ireturn, 1) := by decide +kernel
theorem dX0_halveScents_0 : decode cX0_halveScents 0 = .ok (.iconst 0, 1) := by decide +kernel
theorem dX0_halveScents_1 : decode cX0_halveScents 1 = .ok (.istore_n 2, 1) := by decide +kernel
theorem dX0_halveScents_2 : decode cX0_halveScents 2 = .ok (.iconst 0, 1) := by decide +kernel
theorem dX0_halveScents_3 : decode cX0_halveScents 3 = .ok (.istore_n 3, 1) := by decide +kernel
theorem dX0_halveScents_4 : decode cX0_halveScents 4 = .ok (.iload_n 3, 1) := by decide +kernel
theorem dX0_halveScents_5 : decode cX0_halveScents 5 = .ok (.iload_n 1, 1) := by decide +kernel
theorem dX0_halveScents_6 : decode cX0_halveScents 6 = .ok (.if_icmp .ge 31, 3) := by decide +kernel
theorem dX0_halveScents_9 : decode cX0_halveScents 9 = .ok (.aload_n 0, 1) := by decide +kernel
theorem dX0_halveScents_10 : decode cX0_halveScents 10 = .ok (.getfield 9, 3) := by decide +kernel
theorem dX0_halveScents_13 : decode cX0_halveScents 13 = .ok (.iload_n 3, 1) := by decide +kernel
theorem dX0_halveScents_14 : decode cX0_halveScents 14 = .ok (.dup2, 1) := by decide +kernel
theorem dX0_halveScents_15 : decode cX0_halveScents 15 = .ok (.iaload, 1) := by decide +kernel
theorem dX0_halveScents_16 : decode cX0_halveScents 16 = .ok (.iconst 2, 1) := by decide +kernel
theorem dX0_halveScents_17 : decode cX0_halveScents 17 = .ok (.idiv, 1) := by decide +kernel
theorem dX0_halveScents_18 : decode cX0_halveScents 18 = .ok (.iastore, 1) := by decide +kernel
theorem dX0_halveScents_19 : decode cX0_halveScents 19 = .ok (.aload_n 0, 1) := by decide +kernel
theorem dX0_halveScents_20 : decode cX0_halveScents 20 = .ok (.getfield 9, 3) := by decide +kernel
theorem dX0_halveScents_23 : decode cX0_halveScents 23 = .ok (.iload_n 3, 1) := by decide +kernel
theorem dX0_halveScents_24 : decode cX0_halveScents 24 = .ok (.iaload, 1) := by decide +kernel
theorem dX0_halveScents_25 : decode cX0_halveScents 25 = .ok (.ifCond .le 6, 3) := by decide +kernel
theorem dX0_halveScents_28 : decode cX0_halveScents 28 = .ok (.iinc 2 1, 3) := by decide +kernel
theorem dX0_halveScents_31 : decode cX0_halveScents 31 = .ok (.iinc 3 1, 3) := by decide +kernel
theorem dX0_halveScents_34 : decode cX0_halveScents 34 = .ok (.goto (-30), 3) := by decide +kernel
theorem dX0_halveScents_37 : decode cX0_halveScents 37 = .ok (.iload_n 2, 1) := by decide +kernel
theorem dX0_halveScents_38 : decode cX0_halveScents 38 = .ok (.ireturn, 1) := by decide +kernel
theorem dX1_init_0 : decode cX1_init 0 = .ok (.aload_n 0, 1) := by decide +kernel
theorem dX1_init_1 : decode cX1_init 1 = .ok (.invokespecial 3, 3) := by decide +kernel
theorem dX1_init_4 : decode cX1_init 4 = .ok (.aload_n 0, 1) := by decide +kernel
theorem dX1_init_5 : decode cX1_init 5 = .ok (.bipush 8, 2) := by decide +kernel
theorem dX1_init_7 : decode cX1_init 7 = .ok (.newarray .int, 2) := by decide +kernel
theorem dX1_init_9 : decode cX1_init 9 = .ok (.putfield 9, 3) := by decide +kernel
theorem dX1_init_12 : decode cX1_init 12 = .ok (.return_, 1) := by decide +kernel
theorem dX1_clear_0 : decode cX1_clear 0 = .ok (.aload_n 0, 1) := by decide +kernel
theorem dX1_clear_1 : decode cX1_clear 1 = .ok (.getfield 9, 3) := by decide +kernel
theorem dX1_clear_4 : decode cX1_clear 4 = .ok (.iconst 0, 1) := by decide +kernel
theorem dX1_clear_5 : decode cX1_clear 5 = .ok (.invokestatic 15, 3) := by decide +kernel
theorem dX1_clear_8 : decode cX1_clear 8 = .ok (.return_, 1) := by decide +kernel
theorem dX1_sum_0 : decode cX1_sum 0 = .ok (.iconst 0, 1) := by decide +kernel
theorem dX1_sum_1 : decode cX1_sum 1 = .ok (.istore_n 1, 1) := by decide +kernel
theorem dX1_sum_2 : decode cX1_sum 2 = .ok (.iconst 0, 1) := by decide +kernel
theorem dX1_sum_3 : decode cX1_sum 3 = .ok (.istore_n 2, 1) := by decide +kernel
theorem dX1_sum_4 : decode cX1_sum 4 = .ok (.iload_n 2, 1) := by decide +kernel
theorem dX1_sum_5 : decode cX1_sum 5 = .ok (.aload_n 0, 1) := by decide +kernel
theorem dX1_sum_6 : decode cX1_sum 6 = .ok (.getfield 9, 3) := by decide +kernel
theorem dX1_sum_9 : decode cX1_sum 9 = .ok (.arraylength, 1) := by decide +kernel
theorem dX1_sum_10 : decode cX1_sum 10 = .ok (.if_icmp .ge 18, 3) := by decide +kernel
theorem dX1_sum_13 : decode cX1_sum 13 = .ok (.iload_n 1, 1) := by decide +kernel
theorem dX1_sum_14 : decode cX1_sum 14 = .ok (.aload_n 0, 1) := by decide +kernel
theorem dX1_sum_15 : decode cX1_sum 15 = .ok (.getfield 9, 3) := by decide +kernel
theorem dX1_sum_18 : decode cX1_sum 18 = .ok (.iload_n 2, 1) := by decide +kernel
theorem dX1_sum_19 : decode cX1_sum 19 = .ok (.iaload, 1) := by decide +kernel
theorem dX1_sum_20 : decode cX1_sum 20 = .ok (.iadd, 1) := by decide +kernel
theorem dX1_sum_21 : decode cX1_sum 21 = .ok (.istore_n 1, 1) := by decide +kernel
theorem dX1_sum_22 : decode cX1_sum 22 = .ok (.iinc 2 1, 3) := by decide +kernel
theorem dX1_sum_25 : decode cX1_sum 25 = .ok (.goto (-21), 3) := by decide +kernel
theorem dX1_sum_28 : decode cX1_sum 28 = .ok (.iload_n 1, 1) := by decide +kernel
theorem dX1_sum_29 : decode cX1_sum 29 = .ok (.ireturn, 1) := by decide +kernel
theorem dX1_commonDivisor_0 : decode cX1_commonDivisor 0 = .ok (.iload_n 1, 1) := by decide +kernel
theorem dX1_commonDivisor_1 : decode cX1_commonDivisor 1 = .ok (.istore_n 2, 1) := by decide +kernel
theorem dX1_commonDivisor_2 : decode cX1_commonDivisor 2 = .ok (.iload_n 2, 1) := by decide +kernel
theorem dX1_commonDivisor_3 : decode cX1_commonDivisor 3 = .ok (.iconst 1, 1) := by decide +kernel
theorem dX1_commonDivisor_4 : decode cX1_commonDivisor 4 = .ok (.if_icmp .le 23, 3) := by decide +kernel
theorem dX1_commonDivisor_7 : decode cX1_commonDivisor 7 = .ok (.iload_n 0, 1) := by decide +kernel
theorem dX1_commonDivisor_8 : decode cX1_commonDivisor 8 = .ok (.iload_n 2, 1) := by decide +kernel
theorem dX1_commonDivisor_9 : decode cX1_commonDivisor 9 = .ok (.irem, 1) := by decide +kernel
theorem dX1_commonDivisor_10 : decode cX1_commonDivisor 10 = .ok (.ifCond .ne 11, 3) := by decide +kernel
theorem dX1_commonDivisor_13 : decode cX1_commonDivisor 13 = .ok (.iload_n 1, 1) := by decide +kernel
theorem dX1_commonDivisor_14 : decode cX1_commonDivisor 14 = .ok (.iload_n 2, 1) := by decide +kernel
theorem dX1_commonDivisor_15 : decode cX1_commonDivisor 15 = .ok (.irem, 1) := by decide +kernel
theorem dX1_commonDivisor_16 : decode cX1_commonDivisor 16 = .ok (.ifCond .ne 5, 3) := by decide +kernel
theorem dX1_commonDivisor_19 : decode cX1_commonDivisor 19 = .ok (.iload_n 2, 1) := by decide +kernel
theorem dX1_commonDivisor_20 : decode cX1_commonDivisor 20 = .ok (.ireturn, 1) := by decide +kernel
theorem dX1_commonDivisor_21 : decode cX1_commonDivisor 21 = .ok (.iinc 2 (-1), 3) := by decide +kernel
theorem dX1_commonDivisor_24 : decode cX1_commonDivisor 24 = .ok (.goto (-22), 3) := by decide +kernel
theorem dX1_commonDivisor_27 : decode cX1_commonDivisor 27 = .ok (.iconst 1, 1) := by decide +kernel
theorem dX1_commonDivisor_28 : decode cX1_commonDivisor 28 = .ok (.ireturn, 1) := by decide +kernel
theorem dX2_init_0 : decode cX2_init 0 = .ok (.aload_n 0, 1) := by decide +kernel
theorem dX2_init_1 : decode cX2_init 1 = .ok (.invokespecial 3, 3) := by decide +kernel
theorem dX2_init_4 : decode cX2_init 4 = .ok (.aload_n 0, 1) := by decide +kernel
theorem dX2_init_5 : decode cX2_init 5 = .ok (.new 9, 3) := by decide +kernel
theorem dX2_init_8 : decode cX2_init 8 = .ok (.dup, 1) := by decide +kernel
theorem dX2_init_9 : decode cX2_init 9 = .ok (.invokespecial 11, 3) := by decide +kernel
theorem dX2_init_12 : decode cX2_init 12 = .ok (.putfield 12, 3) := by decide +kernel
theorem dX2_init_15 : decode cX2_init 15 = .ok (.aload_n 0, 1) := by decide +kernel
theorem dX2_init_16 : decode cX2_init 16 = .ok (.iconst 4, 1) := by decide +kernel
theorem dX2_init_17 : decode cX2_init 17 = .ok (.newarray .int, 2) := by decide +kernel
theorem dX2_init_19 : decode cX2_init 19 = .ok (.putfield 18, 3) := by decide +kernel
theorem dX2_init_22 : decode cX2_init 22 = .ok (.aload_n 0, 1) := by decide +kernel
theorem dX2_init_23 : decode cX2_init 23 = .ok (.iconst 4, 1) := by decide +kernel
theorem dX2_init_24 : decode cX2_init 24 = .ok (.newarray .int, 2) := by decide +kernel
theorem dX2_init_26 : decode cX2_init 26 = .ok (.putfield 22, 3) := by decide +kernel
theorem dX2_init_29 : decode cX2_init 29 = .ok (.aload_n 0, 1) := by decide +kernel
theorem dX2_init_30 : decode cX2_init 30 = .ok (.iconst 3, 1) := by decide +kernel
theorem dX2_init_31 : decode cX2_init 31 = .ok (.newarray .int, 2) := by decide +kernel
theorem dX2_init_33 : decode cX2_init 33 = .ok (.putfield 25, 3) := by decide +kernel
theorem dX2_init_36 : decode cX2_init 36 = .ok (.aload_n 0, 1) := by decide +kernel
theorem dX2_init_37 : decode cX2_init 37 = .ok (.bipush 8, 2) := by decide +kernel
theorem dX2_init_39 : decode cX2_init 39 = .ok (.newarray .int, 2) := by decide +kernel
theorem dX2_init_41 : decode cX2_init 41 = .ok (.putfield 28, 3) := by decide +kernel
theorem dX2_init_44 : decode cX2_init 44 = .ok (.aload_n 0, 1) := by decide +kernel
theorem dX2_init_45 : decode cX2_init 45 = .ok (.aload_n 1, 1) := by decide +kernel
theorem dX2_init_46 : decode cX2_init 46 = .ok (.putfield 31, 3) := by decide +kernel
theorem dX2_init_49 : decode cX2_init 49 = .ok (.aload_n 0, 1) := by decide +kernel
theorem dX2_init_50 : decode cX2_init 50 = .ok (.aload_n 2, 1) := by decide +kernel
theorem dX2_init_51 : decode cX2_init 51 = .ok (.putfield 35, 3) := by decide +kernel
theorem dX2_init_54 : decode cX2_init 54 = .ok (.return_, 1) := by decide +kernel
theorem dX2_inMinutes_0 : decode cX2_inMinutes 0 = .ok (.aload_n 0, 1) := by decide +kernel
theorem dX2_inMinutes_1 : decode cX2_inMinutes 1 = .ok (.getfield 12, 3) := by decide +kernel
theorem dX2_inMinutes_4 : decode cX2_inMinutes 4 = .ok (.aload_n 0, 1) := by decide +kernel
theorem dX2_inMinutes_5 : decode cX2_inMinutes 5 = .ok (.getfield 35, 3) := by decide +kernel
theorem dX2_inMinutes_8 : decode cX2_inMinutes 8 = .ok (.invokevirtual 38, 3) := by decide +kernel
theorem dX2_inMinutes_11 : decode cX2_inMinutes 11 = .ok (.aload_n 0, 1) := by decide +kernel
theorem dX2_inMinutes_12 : decode cX2_inMinutes 12 = .ok (.getfield 12, 3) := by decide +kernel
theorem dX2_inMinutes_15 : decode cX2_inMinutes 15 = .ok (.aload_n 0, 1) := by decide +kernel
theorem dX2_inMinutes_16 : decode cX2_inMinutes 16 = .ok (.getfield 31, 3) := by decide +kernel
theorem dX2_inMinutes_19 : decode cX2_inMinutes 19 = .ok (.iload_n 1, 1) := by decide +kernel
theorem dX2_inMinutes_20 : decode cX2_inMinutes 20 = .ok (.invokevirtual 42, 3) := by decide +kernel
theorem dX2_inMinutes_23 : decode cX2_inMinutes 23 = .ok (.aload_n 0, 1) := by decide +kernel
theorem dX2_inMinutes_24 : decode cX2_inMinutes 24 = .ok (.getfield 12, 3) := by decide +kernel
theorem dX2_inMinutes_27 : decode cX2_inMinutes 27 = .ok (.areturn, 1) := by decide +kernel
theorem dX2_minuteOfFiling_0 : decode cX2_minuteOfFiling 0 = .ok (.aload_n 0, 1) := by decide +kernel
theorem dX2_minuteOfFiling_1 : decode cX2_minuteOfFiling 1 = .ok (.getfield 12, 3) := by decide +kernel
theorem dX2_minuteOfFiling_4 : decode cX2_minuteOfFiling 4 = .ok (.aload_n 0, 1) := by decide +kernel
theorem dX2_minuteOfFiling_5 : decode cX2_minuteOfFiling 5 = .ok (.getfield 35, 3) := by decide +kernel
theorem dX2_minuteOfFiling_8 : decode cX2_minuteOfFiling 8 = .ok (.invokevirtual 38, 3) := by decide +kernel
theorem dX2_minuteOfFiling_11 : decode cX2_minuteOfFiling 11 = .ok (.aload_n 0, 1) := by decide +kernel
theorem dX2_minuteOfFiling_12 : decode cX2_minuteOfFiling 12 = .ok (.getfield 12, 3) := by decide +kernel
theorem dX2_minuteOfFiling_15 : decode cX2_minuteOfFiling 15 = .ok (.aload_n 0, 1) := by decide +kernel
theorem dX2_minuteOfFiling_16 : decode cX2_minuteOfFiling 16 = .ok (.getfield 31, 3) := by decide +kernel
theorem dX2_minuteOfFiling_19 : decode cX2_minuteOfFiling 19 = .ok (.iconst 1, 1) := by decide +kernel
theorem dX2_minuteOfFiling_20 : decode cX2_minuteOfFiling 20 = .ok (.iload_n 1, 1) := by decide +kernel
theorem dX2_minuteOfFiling_21 : decode cX2_minuteOfFiling 21 = .ok (.ishl, 1) := by decide +kernel
theorem dX2_minuteOfFiling_22 : decode cX2_minuteOfFiling 22 = .ok (.sipush 200, 3) := by decide +kernel
theorem dX2_minuteOfFiling_25 : decode cX2_minuteOfFiling 25 = .ok (.invokevirtual 46, 3) := by decide +kernel
theorem dX2_minuteOfFiling_28 : decode cX2_minuteOfFiling 28 = .ok (.pop, 1) := by decide +kernel
theorem dX2_minuteOfFiling_29 : decode cX2_minuteOfFiling 29 = .ok (.aload_n 0, 1) := by decide +kernel
theorem dX2_minuteOfFiling_30 : decode cX2_minuteOfFiling 30 = .ok (.getfield 12, 3) := by decide +kernel
theorem dX2_minuteOfFiling_33 : decode cX2_minuteOfFiling 33 = .ok (.getfield 50, 3) := by decide +kernel
theorem dX2_minuteOfFiling_36 : decode cX2_minuteOfFiling 36 = .ok (.iload_n 1, 1) := by decide +kernel
theorem dX2_minuteOfFiling_37 : decode cX2_minuteOfFiling 37 = .ok (.iaload, 1) := by decide +kernel
theorem dX2_minuteOfFiling_38 : decode cX2_minuteOfFiling 38 = .ok (.ireturn, 1) := by decide +kernel
theorem dX2_leastHoney_0 : decode cX2_leastHoney 0 = .ok (.iconst 0, 1) := by decide +kernel
theorem dX2_leastHoney_1 : decode cX2_leastHoney 1 = .ok (.istore_n 3, 1) := by decide +kernel
theorem dX2_leastHoney_2 : decode cX2_leastHoney 2 = .ok (.iconst 0, 1) := by decide +kernel
theorem dX2_leastHoney_3 : decode cX2_leastHoney 3 = .ok (.istore 4, 2) := by decide +kernel
theorem dX2_leastHoney_5 : decode cX2_leastHoney 5 = .ok (.iload 4, 2) := by decide +kernel
theorem dX2_leastHoney_7 : decode cX2_leastHoney 7 = .ok (.aload_n 0, 1) := by decide +kernel
theorem dX2_leastHoney_8 : decode cX2_leastHoney 8 = .ok (.getfield 31, 3) := by decide +kernel
theorem dX2_leastHoney_11 : decode cX2_leastHoney 11 = .ok (.getfield 53, 3) := by decide +kernel
theorem dX2_leastHoney_14 : decode cX2_leastHoney 14 = .ok (.if_icmp .ge 49, 3) := by decide +kernel
theorem dX2_leastHoney_17 : decode cX2_leastHoney 17 = .ok (.iload_n 1, 1) := by decide +kernel
theorem dX2_leastHoney_18 : decode cX2_leastHoney 18 = .ok (.iload 4, 2) := by decide +kernel
theorem dX2_leastHoney_20 : decode cX2_leastHoney 20 = .ok (.ishr, 1) := by decide +kernel
theorem dX2_leastHoney_21 : decode cX2_leastHoney 21 = .ok (.iconst 1, 1) := by decide +kernel
theorem dX2_leastHoney_22 : decode cX2_leastHoney 22 = .ok (.iand, 1) := by decide +kernel
theorem dX2_leastHoney_23 : decode cX2_leastHoney 23 = .ok (.ifCond .eq 34, 3) := by decide +kernel
theorem dX2_leastHoney_26 : decode cX2_leastHoney 26 = .ok (.iload_n 3, 1) := by decide +kernel
theorem dX2_leastHoney_27 : decode cX2_leastHoney 27 = .ok (.iconst 4, 1) := by decide +kernel
theorem dX2_leastHoney_28 : decode cX2_leastHoney 28 = .ok (.if_icmp .lt 6, 3) := by decide +kernel
theorem dX2_leastHoney_31 : decode cX2_leastHoney 31 = .ok (.goto 26, 3) := by decide +kernel
theorem dX2_leastHoney_34 : decode cX2_leastHoney 34 = .ok (.aload_n 0, 1) := by decide +kernel
theorem dX2_leastHoney_35 : decode cX2_leastHoney 35 = .ok (.iload 4, 2) := by decide +kernel
theorem dX2_leastHoney_37 : decode cX2_leastHoney 37 = .ok (.iload_n 2, 1) := by decide +kernel
theorem dX2_leastHoney_38 : decode cX2_leastHoney 38 = .ok (.invokevirtual 59, 3) := by decide +kernel
theorem dX2_leastHoney_41 : decode cX2_leastHoney 41 = .ok (.ifCond .ne 5, 3) := by decide +kernel
theorem dX2_leastHoney_44 : decode cX2_leastHoney 44 = .ok (.iconst (-1), 1) := by decide +kernel
theorem dX2_leastHoney_45 : decode cX2_leastHoney 45 = .ok (.ireturn, 1) := by decide +kernel
theorem dX2_leastHoney_46 : decode cX2_leastHoney 46 = .ok (.aload_n 0, 1) := by decide +kernel
theorem dX2_leastHoney_47 : decode cX2_leastHoney 47 = .ok (.getfield 18, 3) := by decide +kernel
theorem dX2_leastHoney_50 : decode cX2_leastHoney 50 = .ok (.iload_n 3, 1) := by decide +kernel
theorem dX2_leastHoney_51 : decode cX2_leastHoney 51 = .ok (.iinc 3 1, 3) := by decide +kernel
theorem dX2_leastHoney_54 : decode cX2_leastHoney 54 = .ok (.iload 4, 2) := by decide +kernel
theorem dX2_leastHoney_56 : decode cX2_leastHoney 56 = .ok (.iastore, 1) := by decide +kernel
theorem dX2_leastHoney_57 : decode cX2_leastHoney 57 = .ok (.iinc 4 1, 3) := by decide +kernel
theorem dX2_leastHoney_60 : decode cX2_leastHoney 60 = .ok (.goto (-55), 3) := by decide +kernel
theorem dX2_leastHoney_63 : decode cX2_leastHoney 63 = .ok (.iconst 0, 1) := by decide +kernel
theorem dX2_leastHoney_64 : decode cX2_leastHoney 64 = .ok (.istore 4, 2) := by decide +kernel
theorem dX2_leastHoney_66 : decode cX2_leastHoney 66 = .ok (.iload 4, 2) := by decide +kernel
theorem dX2_leastHoney_68 : decode cX2_leastHoney 68 = .ok (.iload_n 3, 1) := by decide +kernel
theorem dX2_leastHoney_69 : decode cX2_leastHoney 69 = .ok (.bipush 9, 2) := by decide +kernel
theorem dX2_leastHoney_71 : decode cX2_leastHoney 71 = .ok (.imul, 1) := by decide +kernel
theorem dX2_leastHoney_72 : decode cX2_leastHoney 72 = .ok (.if_icmp .gt 25, 3) := by decide +kernel
theorem dX2_leastHoney_75 : decode cX2_leastHoney 75 = .ok (.aload_n 0, 1) := by decide +kernel
theorem dX2_leastHoney_76 : decode cX2_leastHoney 76 = .ok (.iload 4, 2) := by decide +kernel
theorem dX2_leastHoney_78 : decode cX2_leastHoney 78 = .ok (.iconst 0, 1) := by decide +kernel
theorem dX2_leastHoney_79 : decode cX2_leastHoney 79 = .ok (.iload_n 3, 1) := by decide +kernel
theorem dX2_leastHoney_80 : decode cX2_leastHoney 80 = .ok (.iload_n 1, 1) := by decide +kernel
theorem dX2_leastHoney_81 : decode cX2_leastHoney 81 = .ok (.iload_n 2, 1) := by decide +kernel
theorem dX2_leastHoney_82 : decode cX2_leastHoney 82 = .ok (.invokevirtual 63, 3) := by decide +kernel
theorem dX2_leastHoney_85 : decode cX2_leastHoney 85 = .ok (.ifCond .eq 6, 3) := by decide +kernel
theorem dX2_leastHoney_88 : decode cX2_leastHoney 88 = .ok (.iload 4, 2) := by decide +kernel
theorem dX2_leastHoney_90 : decode cX2_leastHoney 90 = .ok (.ireturn, 1) := by decide +kernel
theorem dX2_leastHoney_91 : decode cX2_leastHoney 91 = .ok (.iinc 4 1, 3) := by decide +kernel
theorem dX2_leastHoney_94 : decode cX2_leastHoney 94 = .ok (.goto (-28), 3) := by decide +kernel
theorem dX2_leastHoney_97 : decode cX2_leastHoney 97 = .ok (.iconst (-1), 1) := by decide +kernel
theorem dX2_leastHoney_98 : decode cX2_leastHoney 98 = .ok (.ireturn, 1) := by decide +kernel
theorem dX2_mayBeInTime_0 : decode cX2_mayBeInTime 0 = .ok (.aload_n 0, 1) := by decide +kernel
theorem dX2_mayBeInTime_1 : decode cX2_mayBeInTime 1 = .ok (.aload_n 0, 1) := by decide +kernel
theorem dX2_mayBeInTime_2 : decode cX2_mayBeInTime 2 = .ok (.getfield 35, 3) := by decide +kernel
theorem dX2_mayBeInTime_5 : decode cX2_mayBeInTime 5 = .ok (.getfield 67, 3) := by decide +kernel
theorem dX2_mayBeInTime_8 : decode cX2_mayBeInTime 8 = .ok (.iload_n 1, 1) := by decide +kernel
theorem dX2_mayBeInTime_9 : decode cX2_mayBeInTime 9 = .ok (.iaload, 1) := by decide +kernel
theorem dX2_mayBeInTime_10 : decode cX2_mayBeInTime 10 = .ok (.aload_n 0, 1) := by decide +kernel
theorem dX2_mayBeInTime_11 : decode cX2_mayBeInTime 11 = .ok (.getfield 31, 3) := by decide +kernel
theorem dX2_mayBeInTime_14 : decode cX2_mayBeInTime 14 = .ok (.getfield 70, 3) := by decide +kernel
theorem dX2_mayBeInTime_17 : decode cX2_mayBeInTime 17 = .ok (.iload_n 1, 1) := by decide +kernel
theorem dX2_mayBeInTime_18 : decode cX2_mayBeInTime 18 = .ok (.iaload, 1) := by decide +kernel
theorem dX2_mayBeInTime_19 : decode cX2_mayBeInTime 19 = .ok (.iconst 0, 1) := by decide +kernel
theorem dX2_mayBeInTime_20 : decode cX2_mayBeInTime 20 = .ok (.invokevirtual 73, 3) := by decide +kernel
theorem dX2_mayBeInTime_23 : decode cX2_mayBeInTime 23 = .ok (.istore_n 3, 1) := by decide +kernel
theorem dX2_mayBeInTime_24 : decode cX2_mayBeInTime 24 = .ok (.iload_n 3, 1) := by decide +kernel
theorem dX2_mayBeInTime_25 : decode cX2_mayBeInTime 25 = .ok (.iconst (-1), 1) := by decide +kernel
theorem dX2_mayBeInTime_26 : decode cX2_mayBeInTime 26 = .ok (.if_icmp .eq 20, 3) := by decide +kernel
theorem dX2_mayBeInTime_29 : decode cX2_mayBeInTime 29 = .ok (.aload_n 0, 1) := by decide +kernel
theorem dX2_mayBeInTime_30 : decode cX2_mayBeInTime 30 = .ok (.getfield 35, 3) := by decide +kernel
theorem dX2_mayBeInTime_33 : decode cX2_mayBeInTime 33 = .ok (.getfield 77, 3) := by decide +kernel
theorem dX2_mayBeInTime_36 : decode cX2_mayBeInTime 36 = .ok (.iload_n 3, 1) := by decide +kernel
theorem dX2_mayBeInTime_37 : decode cX2_mayBeInTime 37 = .ok (.iadd, 1) := by decide +kernel
theorem dX2_mayBeInTime_38 : decode cX2_mayBeInTime 38 = .ok (.iload_n 2, 1) := by decide +kernel
theorem dX2_mayBeInTime_39 : decode cX2_mayBeInTime 39 = .ok (.if_icmp .gt 7, 3) := by decide +kernel
theorem dX2_mayBeInTime_42 : decode cX2_mayBeInTime 42 = .ok (.iconst 1, 1) := by decide +kernel
theorem dX2_mayBeInTime_43 : decode cX2_mayBeInTime 43 = .ok (.goto 4, 3) := by decide +kernel
theorem dX2_mayBeInTime_46 : decode cX2_mayBeInTime 46 = .ok (.iconst 0, 1) := by decide +kernel
theorem dX2_mayBeInTime_47 : decode cX2_mayBeInTime 47 = .ok (.ireturn, 1) := by decide +kernel
theorem dX2_spreads_0 : decode cX2_spreads 0 = .ok (.iload_n 2, 1) := by decide +kernel
theorem dX2_spreads_1 : decode cX2_spreads 1 = .ok (.iload_n 3, 1) := by decide +kernel
theorem dX2_spreads_2 : decode cX2_spreads 2 = .ok (.if_icmp .lt 24, 3) := by decide +kernel
theorem dX2_spreads_5 : decode cX2_spreads 5 = .ok (.aload_n 0, 1) := by decide +kernel
theorem dX2_spreads_6 : decode cX2_spreads 6 = .ok (.iload_n 3, 1) := by decide +kernel
theorem dX2_spreads_7 : decode cX2_spreads 7 = .ok (.invokevirtual 80, 3) := by decide +kernel
theorem dX2_spreads_10 : decode cX2_spreads 10 = .ok (.aload_n 0, 1) := by decide +kernel
theorem dX2_spreads_11 : decode cX2_spreads 11 = .ok (.getfield 12, 3) := by decide +kernel
theorem dX2_spreads_14 : decode cX2_spreads 14 = .ok (.aload_n 0, 1) := by decide +kernel
theorem dX2_spreads_15 : decode cX2_spreads 15 = .ok (.getfield 31, 3) := by decide +kernel
theorem dX2_spreads_18 : decode cX2_spreads 18 = .ok (.iload 4, 2) := by decide +kernel
theorem dX2_spreads_20 : decode cX2_spreads 20 = .ok (.iload 5, 2) := by decide +kernel
theorem dX2_spreads_22 : decode cX2_spreads 22 = .ok (.invokevirtual 46, 3) := by decide +kernel
theorem dX2_spreads_25 : decode cX2_spreads 25 = .ok (.ireturn, 1) := by decide +kernel
theorem dX2_spreads_26 : decode cX2_spreads 26 = .ok (.aload_n 0, 1) := by decide +kernel
theorem dX2_spreads_27 : decode cX2_spreads 27 = .ok (.getfield 35, 3) := by decide +kernel
theorem dX2_spreads_30 : decode cX2_spreads 30 = .ok (.getfield 84, 3) := by decide +kernel
theorem dX2_spreads_33 : decode cX2_spreads 33 = .ok (.aload_n 0, 1) := by decide +kernel
theorem dX2_spreads_34 : decode cX2_spreads 34 = .ok (.getfield 18, 3) := by decide +kernel
theorem dX2_spreads_37 : decode cX2_spreads 37 = .ok (.iload_n 2, 1) := by decide +kernel
theorem dX2_spreads_38 : decode cX2_spreads 38 = .ok (.iaload, 1) := by decide +kernel
theorem dX2_spreads_39 : decode cX2_spreads 39 = .ok (.iaload, 1) := by decide +kernel
theorem dX2_spreads_40 : decode cX2_spreads 40 = .ok (.istore 6, 2) := by decide +kernel
theorem dX2_spreads_42 : decode cX2_spreads 42 = .ok (.iload 6, 2) := by decide +kernel
theorem dX2_spreads_44 : decode cX2_spreads 44 = .ok (.ifCond .ne 7, 3) := by decide +kernel
theorem dX2_spreads_47 : decode cX2_spreads 47 = .ok (.iconst 1, 1) := by decide +kernel
theorem dX2_spreads_48 : decode cX2_spreads 48 = .ok (.goto 4, 3) := by decide +kernel
theorem dX2_spreads_51 : decode cX2_spreads 51 = .ok (.iconst 0, 1) := by decide +kernel
theorem dX2_spreads_52 : decode cX2_spreads 52 = .ok (.istore 7, 2) := by decide +kernel
theorem dX2_spreads_54 : decode cX2_spreads 54 = .ok (.iload_n 1, 1) := by decide +kernel
theorem dX2_spreads_55 : decode cX2_spreads 55 = .ok (.bipush 9, 2) := by decide +kernel
theorem dX2_spreads_57 : decode cX2_spreads 57 = .ok (.iload 6, 2) := by decide +kernel
theorem dX2_spreads_59 : decode cX2_spreads 59 = .ok (.isub, 1) := by decide +kernel
theorem dX2_spreads_60 : decode cX2_spreads 60 = .ok (.invokestatic 87, 3) := by decide +kernel
theorem dX2_spreads_63 : decode cX2_spreads 63 = .ok (.istore 8, 2) := by decide +kernel
theorem dX2_spreads_65 : decode cX2_spreads 65 = .ok (.iload_n 2, 1) := by decide +kernel
theorem dX2_spreads_66 : decode cX2_spreads 66 = .ok (.iload_n 3, 1) := by decide +kernel
theorem dX2_spreads_67 : decode cX2_spreads 67 = .ok (.iconst 1, 1) := by decide +kernel
theorem dX2_spreads_68 : decode cX2_spreads 68 = .ok (.isub, 1) := by decide +kernel
theorem dX2_spreads_69 : decode cX2_spreads 69 = .ok (.if_icmp .ne 11, 3) := by decide +kernel
theorem dX2_spreads_72 : decode cX2_spreads 72 = .ok (.iload 7, 2) := by decide +kernel
theorem dX2_spreads_74 : decode cX2_spreads 74 = .ok (.iload_n 1, 1) := by decide +kernel
theorem dX2_spreads_75 : decode cX2_spreads 75 = .ok (.invokestatic 93, 3) := by decide +kernel
theorem dX2_spreads_78 : decode cX2_spreads 78 = .ok (.istore 7, 2) := by decide +kernel
theorem dX2_spreads_80 : decode cX2_spreads 80 = .ok (.iload 7, 2) := by decide +kernel
theorem dX2_spreads_82 : decode cX2_spreads 82 = .ok (.istore 9, 2) := by decide +kernel
theorem dX2_spreads_84 : decode cX2_spreads 84 = .ok (.iload 9, 2) := by decide +kernel
theorem dX2_spreads_86 : decode cX2_spreads 86 = .ok (.iload 8, 2) := by decide +kernel
theorem dX2_spreads_88 : decode cX2_spreads 88 = .ok (.if_icmp .gt 38, 3) := by decide +kernel
theorem dX2_spreads_91 : decode cX2_spreads 91 = .ok (.aload_n 0, 1) := by decide +kernel
theorem dX2_spreads_92 : decode cX2_spreads 92 = .ok (.getfield 22, 3) := by decide +kernel
theorem dX2_spreads_95 : decode cX2_spreads 95 = .ok (.iload_n 2, 1) := by decide +kernel
theorem dX2_spreads_96 : decode cX2_spreads 96 = .ok (.iload 9, 2) := by decide +kernel
theorem dX2_spreads_98 : decode cX2_spreads 98 = .ok (.iastore, 1) := by decide +kernel
theorem dX2_spreads_99 : decode cX2_spreads 99 = .ok (.aload_n 0, 1) := by decide +kernel
theorem dX2_spreads_100 : decode cX2_spreads 100 = .ok (.iload_n 1, 1) := by decide +kernel
theorem dX2_spreads_101 : decode cX2_spreads 101 = .ok (.iload 9, 2) := by decide +kernel
theorem dX2_spreads_103 : decode cX2_spreads 103 = .ok (.isub, 1) := by decide +kernel
theorem dX2_spreads_104 : decode cX2_spreads 104 = .ok (.iload_n 2, 1) := by decide +kernel
theorem dX2_spreads_105 : decode cX2_spreads 105 = .ok (.iconst 1, 1) := by decide +kernel
theorem dX2_spreads_106 : decode cX2_spreads 106 = .ok (.iadd, 1) := by decide +kernel
theorem dX2_spreads_107 : decode cX2_spreads 107 = .ok (.iload_n 3, 1) := by decide +kernel
theorem dX2_spreads_108 : decode cX2_spreads 108 = .ok (.iload 4, 2) := by decide +kernel
theorem dX2_spreads_110 : decode cX2_spreads 110 = .ok (.iload 5, 2) := by decide +kernel
theorem dX2_spreads_112 : decode cX2_spreads 112 = .ok (.invokevirtual 63, 3) := by decide +kernel
theorem dX2_spreads_115 : decode cX2_spreads 115 = .ok (.ifCond .eq 5, 3) := by decide +kernel
theorem dX2_spreads_118 : decode cX2_spreads 118 = .ok (.iconst 1, 1) := by decide +kernel
theorem dX2_spreads_119 : decode cX2_spreads 119 = .ok (.ireturn, 1) := by decide +kernel
theorem dX2_spreads_120 : decode cX2_spreads 120 = .ok (.iinc 9 1, 3) := by decide +kernel
theorem dX2_spreads_123 : decode cX2_spreads 123 = .ok (.goto (-39), 3) := by decide +kernel
theorem dX2_spreads_126 : decode cX2_spreads 126 = .ok (.iconst 0, 1) := by decide +kernel
theorem dX2_spreads_127 : decode cX2_spreads 127 = .ok (.ireturn, 1) := by decide +kernel
theorem dX2_giveShares_0 : decode cX2_giveShares 0 = .ok (.aload_n 0, 1) := by decide +kernel
theorem dX2_giveShares_1 : decode cX2_giveShares 1 = .ok (.getfield 12, 3) := by decide +kernel
theorem dX2_giveShares_4 : decode cX2_giveShares 4 = .ok (.aload_n 0, 1) := by decide +kernel
theorem dX2_giveShares_5 : decode cX2_giveShares 5 = .ok (.getfield 35, 3) := by decide +kernel
theorem dX2_giveShares_8 : decode cX2_giveShares 8 = .ok (.invokevirtual 38, 3) := by decide +kernel
theorem dX2_giveShares_11 : decode cX2_giveShares 11 = .ok (.iconst 0, 1) := by decide +kernel
theorem dX2_giveShares_12 : decode cX2_giveShares 12 = .ok (.istore_n 2, 1) := by decide +kernel
theorem dX2_giveShares_13 : decode cX2_giveShares 13 = .ok (.iload_n 2, 1) := by decide +kernel
theorem dX2_giveShares_14 : decode cX2_giveShares 14 = .ok (.iload_n 1, 1) := by decide +kernel
theorem dX2_giveShares_15 : decode cX2_giveShares 15 = .ok (.if_icmp .ge 32, 3) := by decide +kernel
theorem dX2_giveShares_18 : decode cX2_giveShares 18 = .ok (.aload_n 0, 1) := by decide +kernel
theorem dX2_giveShares_19 : decode cX2_giveShares 19 = .ok (.getfield 12, 3) := by decide +kernel
theorem dX2_giveShares_22 : decode cX2_giveShares 22 = .ok (.getfield 84, 3) := by decide +kernel
theorem dX2_giveShares_25 : decode cX2_giveShares 25 = .ok (.aload_n 0, 1) := by decide +kernel
theorem dX2_giveShares_26 : decode cX2_giveShares 26 = .ok (.getfield 18, 3) := by decide +kernel
theorem dX2_giveShares_29 : decode cX2_giveShares 29 = .ok (.iload_n 2, 1) := by decide +kernel
theorem dX2_giveShares_30 : decode cX2_giveShares 30 = .ok (.iaload, 1) := by decide +kernel
theorem dX2_giveShares_31 : decode cX2_giveShares 31 = .ok (.dup2, 1) := by decide +kernel
theorem dX2_giveShares_32 : decode cX2_giveShares 32 = .ok (.iaload, 1) := by decide +kernel
theorem dX2_giveShares_33 : decode cX2_giveShares 33 = .ok (.aload_n 0, 1) := by decide +kernel
theorem dX2_giveShares_34 : decode cX2_giveShares 34 = .ok (.getfield 22, 3) := by decide +kernel
theorem dX2_giveShares_37 : decode cX2_giveShares 37 = .ok (.iload_n 2, 1) := by decide +kernel
theorem dX2_giveShares_38 : decode cX2_giveShares 38 = .ok (.iaload, 1) := by decide +kernel
theorem dX2_giveShares_39 : decode cX2_giveShares 39 = .ok (.iadd, 1) := by decide +kernel
theorem dX2_giveShares_40 : decode cX2_giveShares 40 = .ok (.iastore, 1) := by decide +kernel
theorem dX2_giveShares_41 : decode cX2_giveShares 41 = .ok (.iinc 2 1, 3) := by decide +kernel
theorem dX2_giveShares_44 : decode cX2_giveShares 44 = .ok (.goto (-31), 3) := by decide +kernel
theorem dX2_giveShares_47 : decode cX2_giveShares 47 = .ok (.return_, 1) := by decide +kernel
theorem dX2_findSmear_0 : decode cX2_findSmear 0 = .ok (.aload_n 0, 1) := by decide +kernel
theorem dX2_findSmear_1 : decode cX2_findSmear 1 = .ok (.getfield 25, 3) := by decide +kernel
theorem dX2_findSmear_4 : decode cX2_findSmear 4 = .ok (.iconst (-1), 1) := by decide +kernel
theorem dX2_findSmear_5 : decode cX2_findSmear 5 = .ok (.invokestatic 96, 3) := by decide +kernel
theorem dX2_findSmear_8 : decode cX2_findSmear 8 = .ok (.iload_n 2, 1) := by decide +kernel
theorem dX2_findSmear_9 : decode cX2_findSmear 9 = .ok (.istore_n 3, 1) := by decide +kernel
theorem dX2_findSmear_10 : decode cX2_findSmear 10 = .ok (.iconst 0, 1) := by decide +kernel
theorem dX2_findSmear_11 : decode cX2_findSmear 11 = .ok (.istore 4, 2) := by decide +kernel
theorem dX2_findSmear_13 : decode cX2_findSmear 13 = .ok (.iload 4, 2) := by decide +kernel
theorem dX2_findSmear_15 : decode cX2_findSmear 15 = .ok (.aload_n 0, 1) := by decide +kernel
theorem dX2_findSmear_16 : decode cX2_findSmear 16 = .ok (.getfield 31, 3) := by decide +kernel
theorem dX2_findSmear_19 : decode cX2_findSmear 19 = .ok (.getfield 102, 3) := by decide +kernel
theorem dX2_findSmear_22 : decode cX2_findSmear 22 = .ok (.if_icmp .ge 122, 3) := by decide +kernel
theorem dX2_findSmear_25 : decode cX2_findSmear 25 = .ok (.iconst 0, 1) := by decide +kernel
theorem dX2_findSmear_26 : decode cX2_findSmear 26 = .ok (.istore 5, 2) := by decide +kernel
theorem dX2_findSmear_28 : decode cX2_findSmear 28 = .ok (.iload 5, 2) := by decide +kernel
theorem dX2_findSmear_30 : decode cX2_findSmear 30 = .ok (.bipush 99, 2) := by decide +kernel
theorem dX2_findSmear_32 : decode cX2_findSmear 32 = .ok (.if_icmp .gt 106, 3) := by decide +kernel
theorem dX2_findSmear_35 : decode cX2_findSmear 35 = .ok (.iload_n 3, 1) := by decide +kernel
theorem dX2_findSmear_36 : decode cX2_findSmear 36 = .ok (.ifCond .le 102, 3) := by decide +kernel
theorem dX2_findSmear_39 : decode cX2_findSmear 39 = .ok (.aload_n 0, 1) := by decide +kernel
theorem dX2_findSmear_40 : decode cX2_findSmear 40 = .ok (.getfield 12, 3) := by decide +kernel
theorem dX2_findSmear_43 : decode cX2_findSmear 43 = .ok (.aload_n 0, 1) := by decide +kernel
theorem dX2_findSmear_44 : decode cX2_findSmear 44 = .ok (.getfield 35, 3) := by decide +kernel
theorem dX2_findSmear_47 : decode cX2_findSmear 47 = .ok (.invokevirtual 38, 3) := by decide +kernel
theorem dX2_findSmear_50 : decode cX2_findSmear 50 = .ok (.aload_n 0, 1) := by decide +kernel
theorem dX2_findSmear_51 : decode cX2_findSmear 51 = .ok (.getfield 12, 3) := by decide +kernel
theorem dX2_findSmear_54 : decode cX2_findSmear 54 = .ok (.getfield 105, 3) := by decide +kernel
theorem dX2_findSmear_57 : decode cX2_findSmear 57 = .ok (.iload 4, 2) := by decide +kernel
theorem dX2_findSmear_59 : decode cX2_findSmear 59 = .ok (.iload 5, 2) := by decide +kernel
theorem dX2_findSmear_61 : decode cX2_findSmear 61 = .ok (.iastore, 1) := by decide +kernel
theorem dX2_findSmear_62 : decode cX2_findSmear 62 = .ok (.aload_n 0, 1) := by decide +kernel
theorem dX2_findSmear_63 : decode cX2_findSmear 63 = .ok (.getfield 12, 3) := by decide +kernel
theorem dX2_findSmear_66 : decode cX2_findSmear 66 = .ok (.aload_n 0, 1) := by decide +kernel
theorem dX2_findSmear_67 : decode cX2_findSmear 67 = .ok (.getfield 31, 3) := by decide +kernel
theorem dX2_findSmear_70 : decode cX2_findSmear 70 = .ok (.iconst 1, 1) := by decide +kernel
theorem dX2_findSmear_71 : decode cX2_findSmear 71 = .ok (.iload_n 1, 1) := by decide +kernel
theorem dX2_findSmear_72 : decode cX2_findSmear 72 = .ok (.ishl, 1) := by decide +kernel
theorem dX2_findSmear_73 : decode cX2_findSmear 73 = .ok (.iload_n 3, 1) := by decide +kernel
theorem dX2_findSmear_74 : decode cX2_findSmear 74 = .ok (.invokevirtual 46, 3) := by decide +kernel
theorem dX2_findSmear_77 : decode cX2_findSmear 77 = .ok (.ifCond .ne 6, 3) := by decide +kernel
theorem dX2_findSmear_80 : decode cX2_findSmear 80 = .ok (.goto 52, 3) := by decide +kernel
theorem dX2_findSmear_83 : decode cX2_findSmear 83 = .ok (.aload_n 0, 1) := by decide +kernel
theorem dX2_findSmear_84 : decode cX2_findSmear 84 = .ok (.getfield 25, 3) := by decide +kernel
theorem dX2_findSmear_87 : decode cX2_findSmear 87 = .ok (.iconst 0, 1) := by decide +kernel
theorem dX2_findSmear_88 : decode cX2_findSmear 88 = .ok (.aload_n 0, 1) := by decide +kernel
theorem dX2_findSmear_89 : decode cX2_findSmear 89 = .ok (.getfield 12, 3) := by decide +kernel
theorem dX2_findSmear_92 : decode cX2_findSmear 92 = .ok (.getfield 50, 3) := by decide +kernel
theorem dX2_findSmear_95 : decode cX2_findSmear 95 = .ok (.iload_n 1, 1) := by decide +kernel
theorem dX2_findSmear_96 : decode cX2_findSmear 96 = .ok (.iaload, 1) := by decide +kernel
theorem dX2_findSmear_97 : decode cX2_findSmear 97 = .ok (.iastore, 1) := by decide +kernel
theorem dX2_findSmear_98 : decode cX2_findSmear 98 = .ok (.aload_n 0, 1) := by decide +kernel
theorem dX2_findSmear_99 : decode cX2_findSmear 99 = .ok (.getfield 25, 3) := by decide +kernel
theorem dX2_findSmear_102 : decode cX2_findSmear 102 = .ok (.iconst 1, 1) := by decide +kernel
theorem dX2_findSmear_103 : decode cX2_findSmear 103 = .ok (.iload 4, 2) := by decide +kernel
theorem dX2_findSmear_105 : decode cX2_findSmear 105 = .ok (.iastore, 1) := by decide +kernel
theorem dX2_findSmear_106 : decode cX2_findSmear 106 = .ok (.aload_n 0, 1) := by decide +kernel
theorem dX2_findSmear_107 : decode cX2_findSmear 107 = .ok (.getfield 25, 3) := by decide +kernel
theorem dX2_findSmear_110 : decode cX2_findSmear 110 = .ok (.iconst 2, 1) := by decide +kernel
theorem dX2_findSmear_111 : decode cX2_findSmear 111 = .ok (.iload 5, 2) := by decide +kernel
theorem dX2_findSmear_113 : decode cX2_findSmear 113 = .ok (.iastore, 1) := by decide +kernel
theorem dX2_findSmear_114 : decode cX2_findSmear 114 = .ok (.aload_n 0, 1) := by decide +kernel
theorem dX2_findSmear_115 : decode cX2_findSmear 115 = .ok (.getfield 12, 3) := by decide +kernel
theorem dX2_findSmear_118 : decode cX2_findSmear 118 = .ok (.getfield 50, 3) := by decide +kernel
theorem dX2_findSmear_121 : decode cX2_findSmear 121 = .ok (.iload_n 1, 1) := by decide +kernel
theorem dX2_findSmear_122 : decode cX2_findSmear 122 = .ok (.iaload, 1) := by decide +kernel
theorem dX2_findSmear_123 : decode cX2_findSmear 123 = .ok (.aload_n 0, 1) := by decide +kernel
theorem dX2_findSmear_124 : decode cX2_findSmear 124 = .ok (.getfield 35, 3) := by decide +kernel
theorem dX2_findSmear_127 : decode cX2_findSmear 127 = .ok (.getfield 108, 3) := by decide +kernel
theorem dX2_findSmear_130 : decode cX2_findSmear 130 = .ok (.isub, 1) := by decide +kernel
theorem dX2_findSmear_131 : decode cX2_findSmear 131 = .ok (.istore_n 3, 1) := by decide +kernel
theorem dX2_findSmear_132 : decode cX2_findSmear 132 = .ok (.iinc 5 1, 3) := by decide +kernel
theorem dX2_findSmear_135 : decode cX2_findSmear 135 = .ok (.goto (-107), 3) := by decide +kernel
theorem dX2_findSmear_138 : decode cX2_findSmear 138 = .ok (.iinc 4 1, 3) := by decide +kernel
theorem dX2_findSmear_141 : decode cX2_findSmear 141 = .ok (.goto (-128), 3) := by decide +kernel
theorem dX2_findSmear_144 : decode cX2_findSmear 144 = .ok (.return_, 1) := by decide +kernel
theorem dX2_fewestTrails_0 : decode cX2_fewestTrails 0 = .ok (.aload_n 0, 1) := by decide +kernel
theorem dX2_fewestTrails_1 : decode cX2_fewestTrails 1 = .ok (.getfield 28, 3) := by decide +kernel
theorem dX2_fewestTrails_4 : decode cX2_fewestTrails 4 = .ok (.iconst (-1), 1) := by decide +kernel
theorem dX2_fewestTrails_5 : decode cX2_fewestTrails 5 = .ok (.invokestatic 96, 3) := by decide +kernel
theorem dX2_fewestTrails_8 : decode cX2_fewestTrails 8 = .ok (.aload_n 0, 1) := by decide +kernel
theorem dX2_fewestTrails_9 : decode cX2_fewestTrails 9 = .ok (.getfield 28, 3) := by decide +kernel
theorem dX2_fewestTrails_12 : decode cX2_fewestTrails 12 = .ok (.iload_n 1, 1) := by decide +kernel
theorem dX2_fewestTrails_13 : decode cX2_fewestTrails 13 = .ok (.iconst 0, 1) := by decide +kernel
theorem dX2_fewestTrails_14 : decode cX2_fewestTrails 14 = .ok (.iastore, 1) := by decide +kernel
theorem dX2_fewestTrails_15 : decode cX2_fewestTrails 15 = .ok (.iconst 0, 1) := by decide +kernel
theorem dX2_fewestTrails_16 : decode cX2_fewestTrails 16 = .ok (.istore 4, 2) := by decide +kernel
theorem dX2_fewestTrails_18 : decode cX2_fewestTrails 18 = .ok (.iload 4, 2) := by decide +kernel
theorem dX2_fewestTrails_20 : decode cX2_fewestTrails 20 = .ok (.aload_n 0, 1) := by decide +kernel
theorem dX2_fewestTrails_21 : decode cX2_fewestTrails 21 = .ok (.getfield 31, 3) := by decide +kernel
theorem dX2_fewestTrails_24 : decode cX2_fewestTrails 24 = .ok (.getfield 111, 3) := by decide +kernel
theorem dX2_fewestTrails_27 : decode cX2_fewestTrails 27 = .ok (.if_icmp .ge 114, 3) := by decide +kernel
theorem dX2_fewestTrails_30 : decode cX2_fewestTrails 30 = .ok (.aload_n 0, 1) := by decide +kernel
theorem dX2_fewestTrails_31 : decode cX2_fewestTrails 31 = .ok (.getfield 28, 3) := by decide +kernel
theorem dX2_fewestTrails_34 : decode cX2_fewestTrails 34 = .ok (.iload_n 2, 1) := by decide +kernel
theorem dX2_fewestTrails_35 : decode cX2_fewestTrails 35 = .ok (.iaload, 1) := by decide +kernel
theorem dX2_fewestTrails_36 : decode cX2_fewestTrails 36 = .ok (.iconst (-1), 1) := by decide +kernel
theorem dX2_fewestTrails_37 : decode cX2_fewestTrails 37 = .ok (.if_icmp .ne 104, 3) := by decide +kernel
theorem dX2_fewestTrails_40 : decode cX2_fewestTrails 40 = .ok (.iconst 0, 1) := by decide +kernel
theorem dX2_fewestTrails_41 : decode cX2_fewestTrails 41 = .ok (.istore 5, 2) := by decide +kernel
theorem dX2_fewestTrails_43 : decode cX2_fewestTrails 43 = .ok (.iload 5, 2) := by decide +kernel
theorem dX2_fewestTrails_45 : decode cX2_fewestTrails 45 = .ok (.aload_n 0, 1) := by decide +kernel
theorem dX2_fewestTrails_46 : decode cX2_fewestTrails 46 = .ok (.getfield 31, 3) := by decide +kernel
theorem dX2_fewestTrails_49 : decode cX2_fewestTrails 49 = .ok (.getfield 102, 3) := by decide +kernel
theorem dX2_fewestTrails_52 : decode cX2_fewestTrails 52 = .ok (.if_icmp .ge 83, 3) := by decide +kernel
theorem dX2_fewestTrails_55 : decode cX2_fewestTrails 55 = .ok (.iload_n 3, 1) := by decide +kernel
theorem dX2_fewestTrails_56 : decode cX2_fewestTrails 56 = .ok (.ifCond .eq 19, 3) := by decide +kernel
theorem dX2_fewestTrails_59 : decode cX2_fewestTrails 59 = .ok (.aload_n 0, 1) := by decide +kernel
theorem dX2_fewestTrails_60 : decode cX2_fewestTrails 60 = .ok (.getfield 35, 3) := by decide +kernel
theorem dX2_fewestTrails_63 : decode cX2_fewestTrails 63 = .ok (.getfield 105, 3) := by decide +kernel
theorem dX2_fewestTrails_66 : decode cX2_fewestTrails 66 = .ok (.iload 5, 2) := by decide +kernel
theorem dX2_fewestTrails_68 : decode cX2_fewestTrails 68 = .ok (.iaload, 1) := by decide +kernel
theorem dX2_fewestTrails_69 : decode cX2_fewestTrails 69 = .ok (.ifCond .eq 6, 3) := by decide +kernel
theorem dX2_fewestTrails_72 : decode cX2_fewestTrails 72 = .ok (.goto 57, 3) := by decide +kernel
theorem dX2_fewestTrails_75 : decode cX2_fewestTrails 75 = .ok (.aload_n 0, 1) := by decide +kernel
theorem dX2_fewestTrails_76 : decode cX2_fewestTrails 76 = .ok (.aload_n 0, 1) := by decide +kernel
theorem dX2_fewestTrails_77 : decode cX2_fewestTrails 77 = .ok (.getfield 31, 3) := by decide +kernel
theorem dX2_fewestTrails_80 : decode cX2_fewestTrails 80 = .ok (.getfield 114, 3) := by decide +kernel
theorem dX2_fewestTrails_83 : decode cX2_fewestTrails 83 = .ok (.iload 5, 2) := by decide +kernel
theorem dX2_fewestTrails_85 : decode cX2_fewestTrails 85 = .ok (.iaload, 1) := by decide +kernel
theorem dX2_fewestTrails_86 : decode cX2_fewestTrails 86 = .ok (.aload_n 0, 1) := by decide +kernel
theorem dX2_fewestTrails_87 : decode cX2_fewestTrails 87 = .ok (.getfield 31, 3) := by decide +kernel
theorem dX2_fewestTrails_90 : decode cX2_fewestTrails 90 = .ok (.getfield 117, 3) := by decide +kernel
theorem dX2_fewestTrails_93 : decode cX2_fewestTrails 93 = .ok (.iload 5, 2) := by decide +kernel
theorem dX2_fewestTrails_95 : decode cX2_fewestTrails 95 = .ok (.iaload, 1) := by decide +kernel
theorem dX2_fewestTrails_96 : decode cX2_fewestTrails 96 = .ok (.iload 4, 2) := by decide +kernel
theorem dX2_fewestTrails_98 : decode cX2_fewestTrails 98 = .ok (.iload_n 3, 1) := by decide +kernel
theorem dX2_fewestTrails_99 : decode cX2_fewestTrails 99 = .ok (.invokevirtual 120, 3) := by decide +kernel
theorem dX2_fewestTrails_102 : decode cX2_fewestTrails 102 = .ok (.aload_n 0, 1) := by decide +kernel
theorem dX2_fewestTrails_103 : decode cX2_fewestTrails 103 = .ok (.aload_n 0, 1) := by decide +kernel
theorem dX2_fewestTrails_104 : decode cX2_fewestTrails 104 = .ok (.getfield 31, 3) := by decide +kernel
theorem dX2_fewestTrails_107 : decode cX2_fewestTrails 107 = .ok (.getfield 117, 3) := by decide +kernel
theorem dX2_fewestTrails_110 : decode cX2_fewestTrails 110 = .ok (.iload 5, 2) := by decide +kernel
theorem dX2_fewestTrails_112 : decode cX2_fewestTrails 112 = .ok (.iaload, 1) := by decide +kernel
theorem dX2_fewestTrails_113 : decode cX2_fewestTrails 113 = .ok (.aload_n 0, 1) := by decide +kernel
theorem dX2_fewestTrails_114 : decode cX2_fewestTrails 114 = .ok (.getfield 31, 3) := by decide +kernel
theorem dX2_fewestTrails_117 : decode cX2_fewestTrails 117 = .ok (.getfield 114, 3) := by decide +kernel
theorem dX2_fewestTrails_120 : decode cX2_fewestTrails 120 = .ok (.iload 5, 2) := by decide +kernel
theorem dX2_fewestTrails_122 : decode cX2_fewestTrails 122 = .ok (.iaload, 1) := by decide +kernel
theorem dX2_fewestTrails_123 : decode cX2_fewestTrails 123 = .ok (.iload 4, 2) := by decide +kernel
theorem dX2_fewestTrails_125 : decode cX2_fewestTrails 125 = .ok (.iload_n 3, 1) := by decide +kernel
theorem dX2_fewestTrails_126 : decode cX2_fewestTrails 126 = .ok (.invokevirtual 120, 3) := by decide +kernel
theorem dX2_fewestTrails_129 : decode cX2_fewestTrails 129 = .ok (.iinc 5 1, 3) := by decide +kernel
theorem dX2_fewestTrails_132 : decode cX2_fewestTrails 132 = .ok (.goto (-89), 3) := by decide +kernel
theorem dX2_fewestTrails_135 : decode cX2_fewestTrails 135 = .ok (.iinc 4 1, 3) := by decide +kernel
theorem dX2_fewestTrails_138 : decode cX2_fewestTrails 138 = .ok (.goto (-120), 3) := by decide +kernel
theorem dX2_fewestTrails_141 : decode cX2_fewestTrails 141 = .ok (.aload_n 0, 1) := by decide +kernel
theorem dX2_fewestTrails_142 : decode cX2_fewestTrails 142 = .ok (.getfield 28, 3) := by decide +kernel
theorem dX2_fewestTrails_145 : decode cX2_fewestTrails 145 = .ok (.iload_n 2, 1) := by decide +kernel
theorem dX2_fewestTrails_146 : decode cX2_fewestTrails 146 = .ok (.iaload, 1) := by decide +kernel
theorem dX2_fewestTrails_147 : decode cX2_fewestTrails 147 = .ok (.ireturn, 1) := by decide +kernel
theorem dX2_stepOver_0 : decode cX2_stepOver 0 = .ok (.aload_n 0, 1) := by decide +kernel
theorem dX2_stepOver_1 : decode cX2_stepOver 1 = .ok (.getfield 28, 3) := by decide +kernel
theorem dX2_stepOver_4 : decode cX2_stepOver 4 = .ok (.iload_n 1, 1) := by decide +kernel
theorem dX2_stepOver_5 : decode cX2_stepOver 5 = .ok (.iaload, 1) := by decide +kernel
theorem dX2_stepOver_6 : decode cX2_stepOver 6 = .ok (.iload_n 3, 1) := by decide +kernel
theorem dX2_stepOver_7 : decode cX2_stepOver 7 = .ok (.if_icmp .ne 13, 3) := by decide +kernel
theorem dX2_stepOver_10 : decode cX2_stepOver 10 = .ok (.aload_n 0, 1) := by decide +kernel
theorem dX2_stepOver_11 : decode cX2_stepOver 11 = .ok (.getfield 28, 3) := by decide +kernel
theorem dX2_stepOver_14 : decode cX2_stepOver 14 = .ok (.iload_n 2, 1) := by decide +kernel
theorem dX2_stepOver_15 : decode cX2_stepOver 15 = .ok (.iaload, 1) := by decide +kernel
theorem dX2_stepOver_16 : decode cX2_stepOver 16 = .ok (.iconst (-1), 1) := by decide +kernel
theorem dX2_stepOver_17 : decode cX2_stepOver 17 = .ok (.if_icmp .eq 4, 3) := by decide +kernel
theorem dX2_stepOver_20 : decode cX2_stepOver 20 = .ok (.return_, 1) := by decide +kernel
theorem dX2_stepOver_21 : decode cX2_stepOver 21 = .ok (.iload 4, 2) := by decide +kernel
theorem dX2_stepOver_23 : decode cX2_stepOver 23 = .ok (.ifCond .ne 18, 3) := by decide +kernel
theorem dX2_stepOver_26 : decode cX2_stepOver 26 = .ok (.aload_n 0, 1) := by decide +kernel
theorem dX2_stepOver_27 : decode cX2_stepOver 27 = .ok (.getfield 35, 3) := by decide +kernel
theorem dX2_stepOver_30 : decode cX2_stepOver 30 = .ok (.iload_n 1, 1) := by decide +kernel
theorem dX2_stepOver_31 : decode cX2_stepOver 31 = .ok (.aload_n 0, 1) := by decide +kernel
theorem dX2_stepOver_32 : decode cX2_stepOver 32 = .ok (.getfield 31, 3) := by decide +kernel
theorem dX2_stepOver_35 : decode cX2_stepOver 35 = .ok (.invokevirtual 124, 3) := by decide +kernel
theorem dX2_stepOver_38 : decode cX2_stepOver 38 = .ok (.ifCond .eq 12, 3) := by decide +kernel
theorem dX2_stepOver_41 : decode cX2_stepOver 41 = .ok (.aload_n 0, 1) := by decide +kernel
theorem dX2_stepOver_42 : decode cX2_stepOver 42 = .ok (.getfield 28, 3) := by decide +kernel
theorem dX2_stepOver_45 : decode cX2_stepOver 45 = .ok (.iload_n 2, 1) := by decide +kernel
theorem dX2_stepOver_46 : decode cX2_stepOver 46 = .ok (.iload_n 3, 1) := by decide +kernel
theorem dX2_stepOver_47 : decode cX2_stepOver 47 = .ok (.iconst 1, 1) := by decide +kernel
theorem dX2_stepOver_48 : decode cX2_stepOver 48 = .ok (.iadd, 1) := by decide +kernel
theorem dX2_stepOver_49 : decode cX2_stepOver 49 = .ok (.iastore, 1) := by decide +kernel
theorem dX2_stepOver_50 : decode cX2_stepOver 50 = .ok (.return_, 1) := by decide +kernel
theorem dX2_filesFiled_0 : decode cX2_filesFiled 0 = .ok (.aload_n 0, 1) := by decide +kernel
theorem dX2_filesFiled_1 : decode cX2_filesFiled 1 = .ok (.getfield 12, 3) := by decide +kernel
theorem dX2_filesFiled_4 : decode cX2_filesFiled 4 = .ok (.aload_n 0, 1) := by decide +kernel
theorem dX2_filesFiled_5 : decode cX2_filesFiled 5 = .ok (.getfield 35, 3) := by decide +kernel
theorem dX2_filesFiled_8 : decode cX2_filesFiled 8 = .ok (.invokevirtual 38, 3) := by decide +kernel
theorem dX2_filesFiled_11 : decode cX2_filesFiled 11 = .ok (.aload_n 0, 1) := by decide +kernel
theorem dX2_filesFiled_12 : decode cX2_filesFiled 12 = .ok (.getfield 12, 3) := by decide +kernel
theorem dX2_filesFiled_15 : decode cX2_filesFiled 15 = .ok (.iload_n 1, 1) := by decide +kernel
theorem dX2_filesFiled_16 : decode cX2_filesFiled 16 = .ok (.putfield 128, 3) := by decide +kernel
theorem dX2_filesFiled_19 : decode cX2_filesFiled 19 = .ok (.aload_n 0, 1) := by decide +kernel
theorem dX2_filesFiled_20 : decode cX2_filesFiled 20 = .ok (.getfield 12, 3) := by decide +kernel
theorem dX2_filesFiled_23 : decode cX2_filesFiled 23 = .ok (.aload_n 0, 1) := by decide +kernel
theorem dX2_filesFiled_24 : decode cX2_filesFiled 24 = .ok (.getfield 31, 3) := by decide +kernel
theorem dX2_filesFiled_27 : decode cX2_filesFiled 27 = .ok (.iload_n 2, 1) := by decide +kernel
theorem dX2_filesFiled_28 : decode cX2_filesFiled 28 = .ok (.invokevirtual 42, 3) := by decide +kernel
theorem dX2_filesFiled_31 : decode cX2_filesFiled 31 = .ok (.aload_n 0, 1) := by decide +kernel
theorem dX2_filesFiled_32 : decode cX2_filesFiled 32 = .ok (.getfield 12, 3) := by decide +kernel
theorem dX2_filesFiled_35 : decode cX2_filesFiled 35 = .ok (.getfield 131, 3) := by decide +kernel
theorem dX2_filesFiled_38 : decode cX2_filesFiled 38 = .ok (.invokestatic 134, 3) := by decide +kernel
theorem dX2_filesFiled_41 : decode cX2_filesFiled 41 = .ok (.ireturn, 1) := by decide +kernel
theorem dX2_worstDesk_0 : decode cX2_worstDesk 0 = .ok (.iconst 0, 1) := by decide +kernel
theorem dX2_worstDesk_1 : decode cX2_worstDesk 1 = .ok (.istore_n 2, 1) := by decide +kernel
theorem dX2_worstDesk_2 : decode cX2_worstDesk 2 = .ok (.aload_n 0, 1) := by decide +kernel
theorem dX2_worstDesk_3 : decode cX2_worstDesk 3 = .ok (.iconst 0, 1) := by decide +kernel
theorem dX2_worstDesk_4 : decode cX2_worstDesk 4 = .ok (.iload_n 1, 1) := by decide +kernel
theorem dX2_worstDesk_5 : decode cX2_worstDesk 5 = .ok (.invokevirtual 140, 3) := by decide +kernel
theorem dX2_worstDesk_8 : decode cX2_worstDesk 8 = .ok (.istore_n 3, 1) := by decide +kernel
theorem dX2_worstDesk_9 : decode cX2_worstDesk 9 = .ok (.iconst 1, 1) := by decide +kernel
theorem dX2_worstDesk_10 : decode cX2_worstDesk 10 = .ok (.istore 4, 2) := by decide +kernel
theorem dX2_worstDesk_12 : decode cX2_worstDesk 12 = .ok (.iload 4, 2) := by decide +kernel
theorem dX2_worstDesk_14 : decode cX2_worstDesk 14 = .ok (.aload_n 0, 1) := by decide +kernel
theorem dX2_worstDesk_15 : decode cX2_worstDesk 15 = .ok (.getfield 31, 3) := by decide +kernel
theorem dX2_worstDesk_18 : decode cX2_worstDesk 18 = .ok (.getfield 111, 3) := by decide +kernel
theorem dX2_worstDesk_21 : decode cX2_worstDesk 21 = .ok (.if_icmp .ge 33, 3) := by decide +kernel
theorem dX2_worstDesk_24 : decode cX2_worstDesk 24 = .ok (.aload_n 0, 1) := by decide +kernel
theorem dX2_worstDesk_25 : decode cX2_worstDesk 25 = .ok (.iload 4, 2) := by decide +kernel
theorem dX2_worstDesk_27 : decode cX2_worstDesk 27 = .ok (.iload_n 1, 1) := by decide +kernel
theorem dX2_worstDesk_28 : decode cX2_worstDesk 28 = .ok (.invokevirtual 140, 3) := by decide +kernel
theorem dX2_worstDesk_31 : decode cX2_worstDesk 31 = .ok (.istore 5, 2) := by decide +kernel
theorem dX2_worstDesk_33 : decode cX2_worstDesk 33 = .ok (.iload 5, 2) := by decide +kernel
theorem dX2_worstDesk_35 : decode cX2_worstDesk 35 = .ok (.iload_n 3, 1) := by decide +kernel
theorem dX2_worstDesk_36 : decode cX2_worstDesk 36 = .ok (.if_icmp .lt 6, 3) := by decide +kernel
theorem dX2_worstDesk_39 : decode cX2_worstDesk 39 = .ok (.goto 9, 3) := by decide +kernel
theorem dX2_worstDesk_42 : decode cX2_worstDesk 42 = .ok (.iload 5, 2) := by decide +kernel
theorem dX2_worstDesk_44 : decode cX2_worstDesk 44 = .ok (.istore_n 3, 1) := by decide +kernel
theorem dX2_worstDesk_45 : decode cX2_worstDesk 45 = .ok (.iload 4, 2) := by decide +kernel
theorem dX2_worstDesk_47 : decode cX2_worstDesk 47 = .ok (.istore_n 2, 1) := by decide +kernel
theorem dX2_worstDesk_48 : decode cX2_worstDesk 48 = .ok (.iinc 4 1, 3) := by decide +kernel
theorem dX2_worstDesk_51 : decode cX2_worstDesk 51 = .ok (.goto (-39), 3) := by decide +kernel
theorem dX2_worstDesk_54 : decode cX2_worstDesk 54 = .ok (.iload_n 2, 1) := by decide +kernel
theorem dX2_worstDesk_55 : decode cX2_worstDesk 55 = .ok (.ireturn, 1) := by decide +kernel
theorem dX2_stampsBy_0 : decode cX2_stampsBy 0 = .ok (.iconst 0, 1) := by decide +kernel
theorem dX2_stampsBy_1 : decode cX2_stampsBy 1 = .ok (.istore_n 3, 1) := by decide +kernel
theorem dX2_stampsBy_2 : decode cX2_stampsBy 2 = .ok (.iconst 0, 1) := by decide +kernel
theorem dX2_stampsBy_3 : decode cX2_stampsBy 3 = .ok (.istore 4, 2) := by decide +kernel
theorem dX2_stampsBy_5 : decode cX2_stampsBy 5 = .ok (.iload 4, 2) := by decide +kernel
theorem dX2_stampsBy_7 : decode cX2_stampsBy 7 = .ok (.bipush 9, 2) := by decide +kernel
theorem dX2_stampsBy_9 : decode cX2_stampsBy 9 = .ok (.if_icmp .gt 47, 3) := by decide +kernel
theorem dX2_stampsBy_12 : decode cX2_stampsBy 12 = .ok (.aload_n 0, 1) := by decide +kernel
theorem dX2_stampsBy_13 : decode cX2_stampsBy 13 = .ok (.getfield 12, 3) := by decide +kernel
theorem dX2_stampsBy_16 : decode cX2_stampsBy 16 = .ok (.aload_n 0, 1) := by decide +kernel
theorem dX2_stampsBy_17 : decode cX2_stampsBy 17 = .ok (.getfield 31, 3) := by decide +kernel
theorem dX2_stampsBy_20 : decode cX2_stampsBy 20 = .ok (.invokevirtual 143, 3) := by decide +kernel
theorem dX2_stampsBy_23 : decode cX2_stampsBy 23 = .ok (.aload_n 0, 1) := by decide +kernel
theorem dX2_stampsBy_24 : decode cX2_stampsBy 24 = .ok (.getfield 12, 3) := by decide +kernel
theorem dX2_stampsBy_27 : decode cX2_stampsBy 27 = .ok (.getfield 84, 3) := by decide +kernel
theorem dX2_stampsBy_30 : decode cX2_stampsBy 30 = .ok (.iload_n 2, 1) := by decide +kernel
theorem dX2_stampsBy_31 : decode cX2_stampsBy 31 = .ok (.iload 4, 2) := by decide +kernel
theorem dX2_stampsBy_33 : decode cX2_stampsBy 33 = .ok (.iastore, 1) := by decide +kernel
theorem dX2_stampsBy_34 : decode cX2_stampsBy 34 = .ok (.aload_n 0, 1) := by decide +kernel
theorem dX2_stampsBy_35 : decode cX2_stampsBy 35 = .ok (.aload_n 1, 1) := by decide +kernel
theorem dX2_stampsBy_36 : decode cX2_stampsBy 36 = .ok (.iload_n 2, 1) := by decide +kernel
theorem dX2_stampsBy_37 : decode cX2_stampsBy 37 = .ok (.invokevirtual 147, 3) := by decide +kernel
theorem dX2_stampsBy_40 : decode cX2_stampsBy 40 = .ok (.ifCond .eq 10, 3) := by decide +kernel
theorem dX2_stampsBy_43 : decode cX2_stampsBy 43 = .ok (.iload_n 3, 1) := by decide +kernel
theorem dX2_stampsBy_44 : decode cX2_stampsBy 44 = .ok (.iconst 1, 1) := by decide +kernel
theorem dX2_stampsBy_45 : decode cX2_stampsBy 45 = .ok (.iload 4, 2) := by decide +kernel
theorem dX2_stampsBy_47 : decode cX2_stampsBy 47 = .ok (.ishl, 1) := by decide +kernel
theorem dX2_stampsBy_48 : decode cX2_stampsBy 48 = .ok (.ior, 1) := by decide +kernel
theorem dX2_stampsBy_49 : decode cX2_stampsBy 49 = .ok (.istore_n 3, 1) := by decide +kernel
theorem dX2_stampsBy_50 : decode cX2_stampsBy 50 = .ok (.iinc 4 1, 3) := by decide +kernel
theorem dX2_stampsBy_53 : decode cX2_stampsBy 53 = .ok (.goto (-48), 3) := by decide +kernel
theorem dX2_stampsBy_56 : decode cX2_stampsBy 56 = .ok (.iload_n 3, 1) := by decide +kernel
theorem dX2_stampsBy_57 : decode cX2_stampsBy 57 = .ok (.ireturn, 1) := by decide +kernel
theorem dX2_agreesWith_0 : decode cX2_agreesWith 0 = .ok (.aload_n 1, 1) := by decide +kernel
theorem dX2_agreesWith_1 : decode cX2_agreesWith 1 = .ok (.iload_n 2, 1) := by decide +kernel
theorem dX2_agreesWith_2 : decode cX2_agreesWith 2 = .ok (.invokevirtual 151, 3) := by decide +kernel
theorem dX2_agreesWith_5 : decode cX2_agreesWith 5 = .ok (.istore_n 3, 1) := by decide +kernel
theorem dX2_agreesWith_6 : decode cX2_agreesWith 6 = .ok (.iconst 0, 1) := by decide +kernel
theorem dX2_agreesWith_7 : decode cX2_agreesWith 7 = .ok (.istore 4, 2) := by decide +kernel
theorem dX2_agreesWith_9 : decode cX2_agreesWith 9 = .ok (.iload 4, 2) := by decide +kernel
theorem dX2_agreesWith_11 : decode cX2_agreesWith 11 = .ok (.iload_n 3, 1) := by decide +kernel
theorem dX2_agreesWith_12 : decode cX2_agreesWith 12 = .ok (.if_icmp .gt 42, 3) := by decide +kernel
theorem dX2_agreesWith_15 : decode cX2_agreesWith 15 = .ok (.aload_n 1, 1) := by decide +kernel
theorem dX2_agreesWith_16 : decode cX2_agreesWith 16 = .ok (.iload_n 2, 1) := by decide +kernel
theorem dX2_agreesWith_17 : decode cX2_agreesWith 17 = .ok (.aload_n 0, 1) := by decide +kernel
theorem dX2_agreesWith_18 : decode cX2_agreesWith 18 = .ok (.getfield 12, 3) := by decide +kernel
theorem dX2_agreesWith_21 : decode cX2_agreesWith 21 = .ok (.getfield 67, 3) := by decide +kernel
theorem dX2_agreesWith_24 : decode cX2_agreesWith 24 = .ok (.iload_n 2, 1) := by decide +kernel
theorem dX2_agreesWith_25 : decode cX2_agreesWith 25 = .ok (.iaload, 1) := by decide +kernel
theorem dX2_agreesWith_26 : decode cX2_agreesWith 26 = .ok (.iload 4, 2) := by decide +kernel
theorem dX2_agreesWith_28 : decode cX2_agreesWith 28 = .ok (.invokevirtual 156, 3) := by decide +kernel
theorem dX2_agreesWith_31 : decode cX2_agreesWith 31 = .ok (.ifCond .ne 5, 3) := by decide +kernel
theorem dX2_agreesWith_34 : decode cX2_agreesWith 34 = .ok (.iconst 0, 1) := by decide +kernel
theorem dX2_agreesWith_35 : decode cX2_agreesWith 35 = .ok (.ireturn, 1) := by decide +kernel
theorem dX2_agreesWith_36 : decode cX2_agreesWith 36 = .ok (.aload_n 0, 1) := by decide +kernel
theorem dX2_agreesWith_37 : decode cX2_agreesWith 37 = .ok (.getfield 12, 3) := by decide +kernel
theorem dX2_agreesWith_40 : decode cX2_agreesWith 40 = .ok (.aload_n 0, 1) := by decide +kernel
theorem dX2_agreesWith_41 : decode cX2_agreesWith 41 = .ok (.getfield 31, 3) := by decide +kernel
theorem dX2_agreesWith_44 : decode cX2_agreesWith 44 = .ok (.invokevirtual 160, 3) := by decide +kernel
theorem dX2_agreesWith_47 : decode cX2_agreesWith 47 = .ok (.pop, 1) := by decide +kernel
theorem dX2_agreesWith_48 : decode cX2_agreesWith 48 = .ok (.iinc 4 1, 3) := by decide +kernel
theorem dX2_agreesWith_51 : decode cX2_agreesWith 51 = .ok (.goto (-42), 3) := by decide +kernel
theorem dX2_agreesWith_54 : decode cX2_agreesWith 54 = .ok (.iconst 1, 1) := by decide +kernel
theorem dX2_agreesWith_55 : decode cX2_agreesWith 55 = .ok (.ireturn, 1) := by decide +kernel
theorem dX3_init_0 : decode cX3_init 0 = .ok (.aload_n 0, 1) := by decide +kernel
theorem dX3_init_1 : decode cX3_init 1 = .ok (.invokespecial 3, 3) := by decide +kernel
theorem dX3_init_4 : decode cX3_init 4 = .ok (.aload_n 0, 1) := by decide +kernel
theorem dX3_init_5 : decode cX3_init 5 = .ok (.new 9, 3) := by decide +kernel
theorem dX3_init_8 : decode cX3_init 8 = .ok (.dup, 1) := by decide +kernel
theorem dX3_init_9 : decode cX3_init 9 = .ok (.invokespecial 11, 3) := by decide +kernel
theorem dX3_init_12 : decode cX3_init 12 = .ok (.putfield 12, 3) := by decide +kernel
theorem dX3_init_15 : decode cX3_init 15 = .ok (.aload_n 0, 1) := by decide +kernel
theorem dX3_init_16 : decode cX3_init 16 = .ok (.aload_n 1, 1) := by decide +kernel
theorem dX3_init_17 : decode cX3_init 17 = .ok (.putfield 18, 3) := by decide +kernel
theorem dX3_init_20 : decode cX3_init 20 = .ok (.return_, 1) := by decide +kernel
theorem dX3_readOn_0 : decode cX3_readOn 0 = .ok (.aload_n 0, 1) := by decide +kernel
theorem dX3_readOn_1 : decode cX3_readOn 1 = .ok (.getfield 12, 3) := by decide +kernel
theorem dX3_readOn_4 : decode cX3_readOn 4 = .ok (.aload_n 1, 1) := by decide +kernel
theorem dX3_readOn_5 : decode cX3_readOn 5 = .ok (.invokevirtual 22, 3) := by decide +kernel
theorem dX3_readOn_8 : decode cX3_readOn 8 = .ok (.aload_n 0, 1) := by decide +kernel
theorem dX3_readOn_9 : decode cX3_readOn 9 = .ok (.iconst (-1), 1) := by decide +kernel
theorem dX3_readOn_10 : decode cX3_readOn 10 = .ok (.putfield 26, 3) := by decide +kernel
theorem dX3_readOn_13 : decode cX3_readOn 13 = .ok (.aload_n 0, 1) := by decide +kernel
theorem dX3_readOn_14 : decode cX3_readOn 14 = .ok (.iconst 0, 1) := by decide +kernel
theorem dX3_readOn_15 : decode cX3_readOn 15 = .ok (.putfield 30, 3) := by decide +kernel
theorem dX3_readOn_18 : decode cX3_readOn 18 = .ok (.iconst 1, 1) := by decide +kernel
theorem dX3_readOn_19 : decode cX3_readOn 19 = .ok (.istore_n 2, 1) := by decide +kernel
theorem dX3_readOn_20 : decode cX3_readOn 20 = .ok (.iload_n 2, 1) := by decide +kernel
theorem dX3_readOn_21 : decode cX3_readOn 21 = .ok (.bipush 12, 2) := by decide +kernel
theorem dX3_readOn_23 : decode cX3_readOn 23 = .ok (.if_icmp .gt 69, 3) := by decide +kernel
theorem dX3_readOn_26 : decode cX3_readOn 26 = .ok (.aload_n 0, 1) := by decide +kernel
theorem dX3_readOn_27 : decode cX3_readOn 27 = .ok (.invokevirtual 33, 3) := by decide +kernel
theorem dX3_readOn_30 : decode cX3_readOn 30 = .ok (.ifCond .ne 4, 3) := by decide +kernel
theorem dX3_readOn_33 : decode cX3_readOn 33 = .ok (.return_, 1) := by decide +kernel
theorem dX3_readOn_34 : decode cX3_readOn 34 = .ok (.aload_n 0, 1) := by decide +kernel
theorem dX3_readOn_35 : decode cX3_readOn 35 = .ok (.iload_n 2, 1) := by decide +kernel
theorem dX3_readOn_36 : decode cX3_readOn 36 = .ok (.putfield 37, 3) := by decide +kernel
theorem dX3_readOn_39 : decode cX3_readOn 39 = .ok (.aload_n 0, 1) := by decide +kernel
theorem dX3_readOn_40 : decode cX3_readOn 40 = .ok (.invokevirtual 40, 3) := by decide +kernel
theorem dX3_readOn_43 : decode cX3_readOn 43 = .ok (.aload_n 0, 1) := by decide +kernel
theorem dX3_readOn_44 : decode cX3_readOn 44 = .ok (.getfield 43, 3) := by decide +kernel
theorem dX3_readOn_47 : decode cX3_readOn 47 = .ok (.aload_n 0, 1) := by decide +kernel
theorem dX3_readOn_48 : decode cX3_readOn 48 = .ok (.getfield 18, 3) := by decide +kernel
theorem dX3_readOn_51 : decode cX3_readOn 51 = .ok (.getfield 46, 3) := by decide +kernel
theorem dX3_readOn_54 : decode cX3_readOn 54 = .ok (.if_icmp .lt 4, 3) := by decide +kernel
theorem dX3_readOn_57 : decode cX3_readOn 57 = .ok (.return_, 1) := by decide +kernel
theorem dX3_readOn_58 : decode cX3_readOn 58 = .ok (.aload_n 0, 1) := by decide +kernel
theorem dX3_readOn_59 : decode cX3_readOn 59 = .ok (.getfield 18, 3) := by decide +kernel
theorem dX3_readOn_62 : decode cX3_readOn 62 = .ok (.aload_n 0, 1) := by decide +kernel
theorem dX3_readOn_63 : decode cX3_readOn 63 = .ok (.getfield 43, 3) := by decide +kernel
theorem dX3_readOn_66 : decode cX3_readOn 66 = .ok (.invokevirtual 51, 3) := by decide +kernel
theorem dX3_readOn_69 : decode cX3_readOn 69 = .ok (.bipush 59, 2) := by decide +kernel
theorem dX3_readOn_71 : decode cX3_readOn 71 = .ok (.if_icmp .ne 9, 3) := by decide +kernel
theorem dX3_readOn_74 : decode cX3_readOn 74 = .ok (.iload_n 2, 1) := by decide +kernel
theorem dX3_readOn_75 : decode cX3_readOn 75 = .ok (.bipush 12, 2) := by decide +kernel
theorem dX3_readOn_77 : decode cX3_readOn 77 = .ok (.if_icmp .ne 9, 3) := by decide +kernel
theorem dX3_readOn_80 : decode cX3_readOn 80 = .ok (.aload_n 0, 1) := by decide +kernel
theorem dX3_readOn_81 : decode cX3_readOn 81 = .ok (.invokevirtual 55, 3) := by decide +kernel
theorem dX3_readOn_84 : decode cX3_readOn 84 = .ok (.pop, 1) := by decide +kernel
theorem dX3_readOn_85 : decode cX3_readOn 85 = .ok (.return_, 1) := by decide +kernel
theorem dX3_readOn_86 : decode cX3_readOn 86 = .ok (.iinc 2 1, 3) := by decide +kernel
theorem dX3_readOn_89 : decode cX3_readOn 89 = .ok (.goto (-69), 3) := by decide +kernel
theorem dX3_readOn_92 : decode cX3_readOn 92 = .ok (.return_, 1) := by decide +kernel
theorem dX3_readLine_0 : decode cX3_readLine 0 = .ok (.aload_n 0, 1) := by decide +kernel
theorem dX3_readLine_1 : decode cX3_readLine 1 = .ok (.invokevirtual 40, 3) := by decide +kernel
theorem dX3_readLine_4 : decode cX3_readLine 4 = .ok (.aload_n 0, 1) := by decide +kernel
theorem dX3_readLine_5 : decode cX3_readLine 5 = .ok (.ldc 58, 2) := by decide +kernel
theorem dX3_readLine_7 : decode cX3_readLine 7 = .ok (.invokevirtual 60, 3) := by decide +kernel
theorem dX3_readLine_10 : decode cX3_readLine 10 = .ok (.ifCond .eq 8, 3) := by decide +kernel
theorem dX3_readLine_13 : decode cX3_readLine 13 = .ok (.aload_n 0, 1) := by decide +kernel
theorem dX3_readLine_14 : decode cX3_readLine 14 = .ok (.invokevirtual 64, 3) := by decide +kernel
theorem dX3_readLine_17 : decode cX3_readLine 17 = .ok (.ireturn, 1) := by decide +kernel
theorem dX3_readLine_18 : decode cX3_readLine 18 = .ok (.aload_n 0, 1) := by decide +kernel
theorem dX3_readLine_19 : decode cX3_readLine 19 = .ok (.ldc 67, 2) := by decide +kernel
theorem dX3_readLine_21 : decode cX3_readLine 21 = .ok (.invokevirtual 60, 3) := by decide +kernel
theorem dX3_readLine_24 : decode cX3_readLine 24 = .ok (.ifCond .eq 9, 3) := by decide +kernel
theorem dX3_readLine_27 : decode cX3_readLine 27 = .ok (.aload_n 0, 1) := by decide +kernel
theorem dX3_readLine_28 : decode cX3_readLine 28 = .ok (.iconst 0, 1) := by decide +kernel
theorem dX3_readLine_29 : decode cX3_readLine 29 = .ok (.invokevirtual 69, 3) := by decide +kernel
theorem dX3_readLine_32 : decode cX3_readLine 32 = .ok (.ireturn, 1) := by decide +kernel
theorem dX3_readLine_33 : decode cX3_readLine 33 = .ok (.aload_n 0, 1) := by decide +kernel
theorem dX3_readLine_34 : decode cX3_readLine 34 = .ok (.ldc 73, 2) := by decide +kernel
theorem dX3_readLine_36 : decode cX3_readLine 36 = .ok (.invokevirtual 60, 3) := by decide +kernel
theorem dX3_readLine_39 : decode cX3_readLine 39 = .ok (.ifCond .eq 9, 3) := by decide +kernel
theorem dX3_readLine_42 : decode cX3_readLine 42 = .ok (.aload_n 0, 1) := by decide +kernel
theorem dX3_readLine_43 : decode cX3_readLine 43 = .ok (.iconst 1, 1) := by decide +kernel
theorem dX3_readLine_44 : decode cX3_readLine 44 = .ok (.invokevirtual 69, 3) := by decide +kernel
theorem dX3_readLine_47 : decode cX3_readLine 47 = .ok (.ireturn, 1) := by decide +kernel
theorem dX3_readLine_48 : decode cX3_readLine 48 = .ok (.aload_n 0, 1) := by decide +kernel
theorem dX3_readLine_49 : decode cX3_readLine 49 = .ok (.ldc 75, 2) := by decide +kernel
theorem dX3_readLine_51 : decode cX3_readLine 51 = .ok (.invokevirtual 60, 3) := by decide +kernel
theorem dX3_readLine_54 : decode cX3_readLine 54 = .ok (.ifCond .eq 9, 3) := by decide +kernel
theorem dX3_readLine_57 : decode cX3_readLine 57 = .ok (.aload_n 0, 1) := by decide +kernel
theorem dX3_readLine_58 : decode cX3_readLine 58 = .ok (.iconst 2, 1) := by decide +kernel
theorem dX3_readLine_59 : decode cX3_readLine 59 = .ok (.invokevirtual 69, 3) := by decide +kernel
theorem dX3_readLine_62 : decode cX3_readLine 62 = .ok (.ireturn, 1) := by decide +kernel
theorem dX3_readLine_63 : decode cX3_readLine 63 = .ok (.aload_n 0, 1) := by decide +kernel
theorem dX3_readLine_64 : decode cX3_readLine 64 = .ok (.ldc 77, 2) := by decide +kernel
theorem dX3_readLine_66 : decode cX3_readLine 66 = .ok (.invokevirtual 60, 3) := by decide +kernel
theorem dX3_readLine_69 : decode cX3_readLine 69 = .ok (.ifCond .eq 9, 3) := by decide +kernel
theorem dX3_readLine_72 : decode cX3_readLine 72 = .ok (.aload_n 0, 1) := by decide +kernel
theorem dX3_readLine_73 : decode cX3_readLine 73 = .ok (.iconst 3, 1) := by decide +kernel
theorem dX3_readLine_74 : decode cX3_readLine 74 = .ok (.invokevirtual 69, 3) := by decide +kernel
theorem dX3_readLine_77 : decode cX3_readLine 77 = .ok (.ireturn, 1) := by decide +kernel
theorem dX3_readLine_78 : decode cX3_readLine 78 = .ok (.aload_n 0, 1) := by decide +kernel
theorem dX3_readLine_79 : decode cX3_readLine 79 = .ok (.ldc 79, 2) := by decide +kernel
theorem dX3_readLine_81 : decode cX3_readLine 81 = .ok (.invokevirtual 60, 3) := by decide +kernel
theorem dX3_readLine_84 : decode cX3_readLine 84 = .ok (.ifCond .eq 20, 3) := by decide +kernel
theorem dX3_readLine_87 : decode cX3_readLine 87 = .ok (.aload_n 0, 1) := by decide +kernel
theorem dX3_readLine_88 : decode cX3_readLine 88 = .ok (.getfield 12, 3) := by decide +kernel
theorem dX3_readLine_91 : decode cX3_readLine 91 = .ok (.getfield 81, 3) := by decide +kernel
theorem dX3_readLine_94 : decode cX3_readLine 94 = .ok (.bipush 12, 2) := by decide +kernel
theorem dX3_readLine_96 : decode cX3_readLine 96 = .ok (.if_icmp .ge 8, 3) := by decide +kernel
theorem dX3_readLine_99 : decode cX3_readLine 99 = .ok (.aload_n 0, 1) := by decide +kernel
theorem dX3_readLine_100 : decode cX3_readLine 100 = .ok (.invokevirtual 84, 3) := by decide +kernel
theorem dX3_readLine_103 : decode cX3_readLine 103 = .ok (.ireturn, 1) := by decide +kernel
theorem dX3_readLine_104 : decode cX3_readLine 104 = .ok (.aload_n 0, 1) := by decide +kernel
theorem dX3_readLine_105 : decode cX3_readLine 105 = .ok (.ldc 87, 2) := by decide +kernel
theorem dX3_readLine_107 : decode cX3_readLine 107 = .ok (.invokevirtual 60, 3) := by decide +kernel
theorem dX3_readLine_110 : decode cX3_readLine 110 = .ok (.ifCond .eq 20, 3) := by decide +kernel
theorem dX3_readLine_113 : decode cX3_readLine 113 = .ok (.aload_n 0, 1) := by decide +kernel
theorem dX3_readLine_114 : decode cX3_readLine 114 = .ok (.getfield 12, 3) := by decide +kernel
theorem dX3_readLine_117 : decode cX3_readLine 117 = .ok (.getfield 89, 3) := by decide +kernel
theorem dX3_readLine_120 : decode cX3_readLine 120 = .ok (.bipush 6, 2) := by decide +kernel
theorem dX3_readLine_122 : decode cX3_readLine 122 = .ok (.if_icmp .ge 8, 3) := by decide +kernel
theorem dX3_readLine_125 : decode cX3_readLine 125 = .ok (.aload_n 0, 1) := by decide +kernel
theorem dX3_readLine_126 : decode cX3_readLine 126 = .ok (.invokevirtual 92, 3) := by decide +kernel
theorem dX3_readLine_129 : decode cX3_readLine 129 = .ok (.ireturn, 1) := by decide +kernel
theorem dX3_readLine_130 : decode cX3_readLine 130 = .ok (.aload_n 0, 1) := by decide +kernel
theorem dX3_readLine_131 : decode cX3_readLine 131 = .ok (.ldc 95, 2) := by decide +kernel
theorem dX3_readLine_133 : decode cX3_readLine 133 = .ok (.invokevirtual 60, 3) := by decide +kernel
theorem dX3_readLine_136 : decode cX3_readLine 136 = .ok (.ifCond .eq 8, 3) := by decide +kernel
theorem dX3_readLine_139 : decode cX3_readLine 139 = .ok (.aload_n 0, 1) := by decide +kernel
theorem dX3_readLine_140 : decode cX3_readLine 140 = .ok (.invokevirtual 97, 3) := by decide +kernel
theorem dX3_readLine_143 : decode cX3_readLine 143 = .ok (.ireturn, 1) := by decide +kernel
theorem dX3_readLine_144 : decode cX3_readLine 144 = .ok (.aload_n 0, 1) := by decide +kernel
theorem dX3_readLine_145 : decode cX3_readLine 145 = .ok (.ldc 100, 2) := by decide +kernel
theorem dX3_readLine_147 : decode cX3_readLine 147 = .ok (.invokevirtual 60, 3) := by decide +kernel
theorem dX3_readLine_150 : decode cX3_readLine 150 = .ok (.ifCond .eq 8, 3) := by decide +kernel
theorem dX3_readLine_153 : decode cX3_readLine 153 = .ok (.aload_n 0, 1) := by decide +kernel
theorem dX3_readLine_154 : decode cX3_readLine 154 = .ok (.invokevirtual 102, 3) := by decide +kernel
theorem dX3_readLine_157 : decode cX3_readLine 157 = .ok (.ireturn, 1) := by decide +kernel
theorem dX3_readLine_158 : decode cX3_readLine 158 = .ok (.aload_n 0, 1) := by decide +kernel
theorem dX3_readLine_159 : decode cX3_readLine 159 = .ok (.invokevirtual 55, 3) := by decide +kernel
theorem dX3_readLine_162 : decode cX3_readLine 162 = .ok (.ireturn, 1) := by decide +kernel
theorem dX3_readOffice_0 : decode cX3_readOffice 0 = .ok (.aload_n 0, 1) := by decide +kernel
theorem dX3_readOffice_1 : decode cX3_readOffice 1 = .ok (.iconst 2, 1) := by decide +kernel
theorem dX3_readOffice_2 : decode cX3_readOffice 2 = .ok (.bipush 8, 2) := by decide +kernel
theorem dX3_readOffice_4 : decode cX3_readOffice 4 = .ok (.invokevirtual 105, 3) := by decide +kernel
theorem dX3_readOffice_7 : decode cX3_readOffice 7 = .ok (.istore_n 1, 1) := by decide +kernel
theorem dX3_readOffice_8 : decode cX3_readOffice 8 = .ok (.iload_n 1, 1) := by decide +kernel
theorem dX3_readOffice_9 : decode cX3_readOffice 9 = .ok (.iconst (-1), 1) := by decide +kernel
theorem dX3_readOffice_10 : decode cX3_readOffice 10 = .ok (.if_icmp .ne 5, 3) := by decide +kernel
theorem dX3_readOffice_13 : decode cX3_readOffice 13 = .ok (.iconst 0, 1) := by decide +kernel
theorem dX3_readOffice_14 : decode cX3_readOffice 14 = .ok (.ireturn, 1) := by decide +kernel
theorem dX3_readOffice_15 : decode cX3_readOffice 15 = .ok (.aload_n 0, 1) := by decide +kernel
theorem dX3_readOffice_16 : decode cX3_readOffice 16 = .ok (.getfield 12, 3) := by decide +kernel
theorem dX3_readOffice_19 : decode cX3_readOffice 19 = .ok (.iload_n 1, 1) := by decide +kernel
theorem dX3_readOffice_20 : decode cX3_readOffice 20 = .ok (.invokevirtual 109, 3) := by decide +kernel
theorem dX3_readOffice_23 : decode cX3_readOffice 23 = .ok (.iconst 1, 1) := by decide +kernel
theorem dX3_readOffice_24 : decode cX3_readOffice 24 = .ok (.ireturn, 1) := by decide +kernel
theorem dX3_readKind_0 : decode cX3_readKind 0 = .ok (.aload_n 0, 1) := by decide +kernel
theorem dX3_readKind_1 : decode cX3_readKind 1 = .ok (.iconst 0, 1) := by decide +kernel
theorem dX3_readKind_2 : decode cX3_readKind 2 = .ok (.aload_n 0, 1) := by decide +kernel
theorem dX3_readKind_3 : decode cX3_readKind 3 = .ok (.getfield 12, 3) := by decide +kernel
theorem dX3_readKind_6 : decode cX3_readKind 6 = .ok (.getfield 113, 3) := by decide +kernel
theorem dX3_readKind_9 : decode cX3_readKind 9 = .ok (.iconst 1, 1) := by decide +kernel
theorem dX3_readKind_10 : decode cX3_readKind 10 = .ok (.isub, 1) := by decide +kernel
theorem dX3_readKind_11 : decode cX3_readKind 11 = .ok (.invokevirtual 105, 3) := by decide +kernel
theorem dX3_readKind_14 : decode cX3_readKind 14 = .ok (.istore_n 2, 1) := by decide +kernel
theorem dX3_readKind_15 : decode cX3_readKind 15 = .ok (.iload_n 2, 1) := by decide +kernel
theorem dX3_readKind_16 : decode cX3_readKind 16 = .ok (.iconst (-1), 1) := by decide +kernel
theorem dX3_readKind_17 : decode cX3_readKind 17 = .ok (.if_icmp .ne 5, 3) := by decide +kernel
theorem dX3_readKind_20 : decode cX3_readKind 20 = .ok (.iconst 0, 1) := by decide +kernel
theorem dX3_readKind_21 : decode cX3_readKind 21 = .ok (.ireturn, 1) := by decide +kernel
theorem dX3_readKind_22 : decode cX3_readKind 22 = .ok (.aload_n 0, 1) := by decide +kernel
theorem dX3_readKind_23 : decode cX3_readKind 23 = .ok (.getfield 12, 3) := by decide +kernel
theorem dX3_readKind_26 : decode cX3_readKind 26 = .ok (.getfield 116, 3) := by decide +kernel
theorem dX3_readKind_29 : decode cX3_readKind 29 = .ok (.iload_n 2, 1) := by decide +kernel
theorem dX3_readKind_30 : decode cX3_readKind 30 = .ok (.iload_n 1, 1) := by decide +kernel
theorem dX3_readKind_31 : decode cX3_readKind 31 = .ok (.iastore, 1) := by decide +kernel
theorem dX3_readKind_32 : decode cX3_readKind 32 = .ok (.iconst 1, 1) := by decide +kernel
theorem dX3_readKind_33 : decode cX3_readKind 33 = .ok (.ireturn, 1) := by decide +kernel
theorem dX3_readTrail_0 : decode cX3_readTrail 0 = .ok (.aload_n 0, 1) := by decide +kernel
theorem dX3_readTrail_1 : decode cX3_readTrail 1 = .ok (.iconst 0, 1) := by decide +kernel
theorem dX3_readTrail_2 : decode cX3_readTrail 2 = .ok (.aload_n 0, 1) := by decide +kernel
theorem dX3_readTrail_3 : decode cX3_readTrail 3 = .ok (.getfield 12, 3) := by decide +kernel
theorem dX3_readTrail_6 : decode cX3_readTrail 6 = .ok (.getfield 113, 3) := by decide +kernel
theorem dX3_readTrail_9 : decode cX3_readTrail 9 = .ok (.iconst 1, 1) := by decide +kernel
theorem dX3_readTrail_10 : decode cX3_readTrail 10 = .ok (.isub, 1) := by decide +kernel
theorem dX3_readTrail_11 : decode cX3_readTrail 11 = .ok (.invokevirtual 105, 3) := by decide +kernel
theorem dX3_readTrail_14 : decode cX3_readTrail 14 = .ok (.istore_n 1, 1) := by decide +kernel
theorem dX3_readTrail_15 : decode cX3_readTrail 15 = .ok (.iload_n 1, 1) := by decide +kernel
theorem dX3_readTrail_16 : decode cX3_readTrail 16 = .ok (.iconst (-1), 1) := by decide +kernel
theorem dX3_readTrail_17 : decode cX3_readTrail 17 = .ok (.if_icmp .ne 7, 3) := by decide +kernel
theorem dX3_readTrail_20 : decode cX3_readTrail 20 = .ok (.iconst (-1), 1) := by decide +kernel
theorem dX3_readTrail_21 : decode cX3_readTrail 21 = .ok (.goto 8, 3) := by decide +kernel
theorem dX3_readTrail_24 : decode cX3_readTrail 24 = .ok (.aload_n 0, 1) := by decide +kernel
theorem dX3_readTrail_25 : decode cX3_readTrail 25 = .ok (.iload_n 1, 1) := by decide +kernel
theorem dX3_readTrail_26 : decode cX3_readTrail 26 = .ok (.invokevirtual 120, 3) := by decide +kernel
theorem dX3_readTrail_29 : decode cX3_readTrail 29 = .ok (.istore_n 2, 1) := by decide +kernel
theorem dX3_readTrail_30 : decode cX3_readTrail 30 = .ok (.iload_n 2, 1) := by decide +kernel
theorem dX3_readTrail_31 : decode cX3_readTrail 31 = .ok (.iconst (-1), 1) := by decide +kernel
theorem dX3_readTrail_32 : decode cX3_readTrail 32 = .ok (.if_icmp .ne 7, 3) := by decide +kernel
theorem dX3_readTrail_35 : decode cX3_readTrail 35 = .ok (.iconst (-1), 1) := by decide +kernel
theorem dX3_readTrail_36 : decode cX3_readTrail 36 = .ok (.goto 10, 3) := by decide +kernel
theorem dX3_readTrail_39 : decode cX3_readTrail 39 = .ok (.aload_n 0, 1) := by decide +kernel
theorem dX3_readTrail_40 : decode cX3_readTrail 40 = .ok (.iconst 0, 1) := by decide +kernel
theorem dX3_readTrail_41 : decode cX3_readTrail 41 = .ok (.bipush 99, 2) := by decide +kernel
theorem dX3_readTrail_43 : decode cX3_readTrail 43 = .ok (.invokevirtual 105, 3) := by decide +kernel
theorem dX3_readTrail_46 : decode cX3_readTrail 46 = .ok (.istore_n 3, 1) := by decide +kernel
theorem dX3_readTrail_47 : decode cX3_readTrail 47 = .ok (.iload_n 3, 1) := by decide +kernel
theorem dX3_readTrail_48 : decode cX3_readTrail 48 = .ok (.iconst (-1), 1) := by decide +kernel
theorem dX3_readTrail_49 : decode cX3_readTrail 49 = .ok (.if_icmp .ne 5, 3) := by decide +kernel
theorem dX3_readTrail_52 : decode cX3_readTrail 52 = .ok (.iconst 0, 1) := by decide +kernel
theorem dX3_readTrail_53 : decode cX3_readTrail 53 = .ok (.ireturn, 1) := by decide +kernel
theorem dX3_readTrail_54 : decode cX3_readTrail 54 = .ok (.aload_n 0, 1) := by decide +kernel
theorem dX3_readTrail_55 : decode cX3_readTrail 55 = .ok (.getfield 12, 3) := by decide +kernel
theorem dX3_readTrail_58 : decode cX3_readTrail 58 = .ok (.iload_n 1, 1) := by decide +kernel
theorem dX3_readTrail_59 : decode cX3_readTrail 59 = .ok (.iload_n 2, 1) := by decide +kernel
theorem dX3_readTrail_60 : decode cX3_readTrail 60 = .ok (.iload_n 3, 1) := by decide +kernel
theorem dX3_readTrail_61 : decode cX3_readTrail 61 = .ok (.invokevirtual 123, 3) := by decide +kernel
theorem dX3_readTrail_64 : decode cX3_readTrail 64 = .ok (.iconst 1, 1) := by decide +kernel
theorem dX3_readTrail_65 : decode cX3_readTrail 65 = .ok (.ireturn, 1) := by decide +kernel
theorem dX3_readFile_0 : decode cX3_readFile 0 = .ok (.aload_n 0, 1) := by decide +kernel
theorem dX3_readFile_1 : decode cX3_readFile 1 = .ok (.iconst 0, 1) := by decide +kernel
theorem dX3_readFile_2 : decode cX3_readFile 2 = .ok (.aload_n 0, 1) := by decide +kernel
theorem dX3_readFile_3 : decode cX3_readFile 3 = .ok (.getfield 12, 3) := by decide +kernel
theorem dX3_readFile_6 : decode cX3_readFile 6 = .ok (.getfield 113, 3) := by decide +kernel
theorem dX3_readFile_9 : decode cX3_readFile 9 = .ok (.iconst 1, 1) := by decide +kernel
theorem dX3_readFile_10 : decode cX3_readFile 10 = .ok (.isub, 1) := by decide +kernel
theorem dX3_readFile_11 : decode cX3_readFile 11 = .ok (.invokevirtual 105, 3) := by decide +kernel
theorem dX3_readFile_14 : decode cX3_readFile 14 = .ok (.istore_n 1, 1) := by decide +kernel
theorem dX3_readFile_15 : decode cX3_readFile 15 = .ok (.iload_n 1, 1) := by decide +kernel
theorem dX3_readFile_16 : decode cX3_readFile 16 = .ok (.iconst (-1), 1) := by decide +kernel
theorem dX3_readFile_17 : decode cX3_readFile 17 = .ok (.if_icmp .ne 7, 3) := by decide +kernel
theorem dX3_readFile_20 : decode cX3_readFile 20 = .ok (.iconst (-1), 1) := by decide +kernel
theorem dX3_readFile_21 : decode cX3_readFile 21 = .ok (.goto 8, 3) := by decide +kernel
theorem dX3_readFile_24 : decode cX3_readFile 24 = .ok (.aload_n 0, 1) := by decide +kernel
theorem dX3_readFile_25 : decode cX3_readFile 25 = .ok (.iload_n 1, 1) := by decide +kernel
theorem dX3_readFile_26 : decode cX3_readFile 26 = .ok (.invokevirtual 120, 3) := by decide +kernel
theorem dX3_readFile_29 : decode cX3_readFile 29 = .ok (.istore_n 2, 1) := by decide +kernel
theorem dX3_readFile_30 : decode cX3_readFile 30 = .ok (.iload_n 2, 1) := by decide +kernel
theorem dX3_readFile_31 : decode cX3_readFile 31 = .ok (.iconst (-1), 1) := by decide +kernel
theorem dX3_readFile_32 : decode cX3_readFile 32 = .ok (.if_icmp .ne 7, 3) := by decide +kernel
theorem dX3_readFile_35 : decode cX3_readFile 35 = .ok (.iconst (-1), 1) := by decide +kernel
theorem dX3_readFile_36 : decode cX3_readFile 36 = .ok (.goto 10, 3) := by decide +kernel
theorem dX3_readFile_39 : decode cX3_readFile 39 = .ok (.aload_n 0, 1) := by decide +kernel
theorem dX3_readFile_40 : decode cX3_readFile 40 = .ok (.iconst 0, 1) := by decide +kernel
theorem dX3_readFile_41 : decode cX3_readFile 41 = .ok (.bipush 9, 2) := by decide +kernel
theorem dX3_readFile_43 : decode cX3_readFile 43 = .ok (.invokevirtual 105, 3) := by decide +kernel
theorem dX3_readFile_46 : decode cX3_readFile 46 = .ok (.istore_n 3, 1) := by decide +kernel
theorem dX3_readFile_47 : decode cX3_readFile 47 = .ok (.iload_n 3, 1) := by decide +kernel
theorem dX3_readFile_48 : decode cX3_readFile 48 = .ok (.iconst (-1), 1) := by decide +kernel
theorem dX3_readFile_49 : decode cX3_readFile 49 = .ok (.if_icmp .ne 5, 3) := by decide +kernel
theorem dX3_readFile_52 : decode cX3_readFile 52 = .ok (.iconst 0, 1) := by decide +kernel
theorem dX3_readFile_53 : decode cX3_readFile 53 = .ok (.ireturn, 1) := by decide +kernel
theorem dX3_readFile_54 : decode cX3_readFile 54 = .ok (.aload_n 0, 1) := by decide +kernel
theorem dX3_readFile_55 : decode cX3_readFile 55 = .ok (.getfield 12, 3) := by decide +kernel
theorem dX3_readFile_58 : decode cX3_readFile 58 = .ok (.iload_n 1, 1) := by decide +kernel
theorem dX3_readFile_59 : decode cX3_readFile 59 = .ok (.iload_n 2, 1) := by decide +kernel
theorem dX3_readFile_60 : decode cX3_readFile 60 = .ok (.iload_n 3, 1) := by decide +kernel
theorem dX3_readFile_61 : decode cX3_readFile 61 = .ok (.invokevirtual 127, 3) := by decide +kernel
theorem dX3_readFile_64 : decode cX3_readFile 64 = .ok (.iconst 1, 1) := by decide +kernel
theorem dX3_readFile_65 : decode cX3_readFile 65 = .ok (.ireturn, 1) := by decide +kernel
theorem dX3_readFade_0 : decode cX3_readFade 0 = .ok (.aload_n 0, 1) := by decide +kernel
theorem dX3_readFade_1 : decode cX3_readFade 1 = .ok (.iconst 0, 1) := by decide +kernel
theorem dX3_readFade_2 : decode cX3_readFade 2 = .ok (.bipush 9, 2) := by decide +kernel
theorem dX3_readFade_4 : decode cX3_readFade 4 = .ok (.invokevirtual 105, 3) := by decide +kernel
theorem dX3_readFade_7 : decode cX3_readFade 7 = .ok (.istore_n 1, 1) := by decide +kernel
theorem dX3_readFade_8 : decode cX3_readFade 8 = .ok (.iload_n 1, 1) := by decide +kernel
theorem dX3_readFade_9 : decode cX3_readFade 9 = .ok (.iconst (-1), 1) := by decide +kernel
theorem dX3_readFade_10 : decode cX3_readFade 10 = .ok (.if_icmp .ne 5, 3) := by decide +kernel
theorem dX3_readFade_13 : decode cX3_readFade 13 = .ok (.iconst 0, 1) := by decide +kernel
theorem dX3_readFade_14 : decode cX3_readFade 14 = .ok (.ireturn, 1) := by decide +kernel
theorem dX3_readFade_15 : decode cX3_readFade 15 = .ok (.aload_n 0, 1) := by decide +kernel
theorem dX3_readFade_16 : decode cX3_readFade 16 = .ok (.getfield 12, 3) := by decide +kernel
theorem dX3_readFade_19 : decode cX3_readFade 19 = .ok (.iload_n 1, 1) := by decide +kernel
theorem dX3_readFade_20 : decode cX3_readFade 20 = .ok (.putfield 130, 3) := by decide +kernel
theorem dX3_readFade_23 : decode cX3_readFade 23 = .ok (.iconst 1, 1) := by decide +kernel
theorem dX3_readFade_24 : decode cX3_readFade 24 = .ok (.ireturn, 1) := by decide +kernel
theorem dX3_readWinter_0 : decode cX3_readWinter 0 = .ok (.aload_n 0, 1) := by decide +kernel
theorem dX3_readWinter_1 : decode cX3_readWinter 1 = .ok (.iconst 0, 1) := by decide +kernel
theorem dX3_readWinter_2 : decode cX3_readWinter 2 = .ok (.bipush 99, 2) := by decide +kernel
theorem dX3_readWinter_4 : decode cX3_readWinter 4 = .ok (.invokevirtual 105, 3) := by decide +kernel
theorem dX3_readWinter_7 : decode cX3_readWinter 7 = .ok (.istore_n 1, 1) := by decide +kernel
theorem dX3_readWinter_8 : decode cX3_readWinter 8 = .ok (.iload_n 1, 1) := by decide +kernel
theorem dX3_readWinter_9 : decode cX3_readWinter 9 = .ok (.iconst (-1), 1) := by decide +kernel
theorem dX3_readWinter_10 : decode cX3_readWinter 10 = .ok (.if_icmp .ne 5, 3) := by decide +kernel
theorem dX3_readWinter_13 : decode cX3_readWinter 13 = .ok (.iconst 0, 1) := by decide +kernel
theorem dX3_readWinter_14 : decode cX3_readWinter 14 = .ok (.ireturn, 1) := by decide +kernel
theorem dX3_readWinter_15 : decode cX3_readWinter 15 = .ok (.aload_n 0, 1) := by decide +kernel
theorem dX3_readWinter_16 : decode cX3_readWinter 16 = .ok (.getfield 12, 3) := by decide +kernel
theorem dX3_readWinter_19 : decode cX3_readWinter 19 = .ok (.iload_n 1, 1) := by decide +kernel
theorem dX3_readWinter_20 : decode cX3_readWinter 20 = .ok (.putfield 132, 3) := by decide +kernel
theorem dX3_readWinter_23 : decode cX3_readWinter 23 = .ok (.iconst 1, 1) := by decide +kernel
theorem dX3_readWinter_24 : decode cX3_readWinter 24 = .ok (.ireturn, 1) := by decide +kernel
theorem dX3_readDeskUnlike_0 : decode cX3_readDeskUnlike 0 = .ok (.aload_n 0, 1) := by decide +kernel
theorem dX3_readDeskUnlike_1 : decode cX3_readDeskUnlike 1 = .ok (.iconst 0, 1) := by decide +kernel
theorem dX3_readDeskUnlike_2 : decode cX3_readDeskUnlike 2 = .ok (.aload_n 0, 1) := by decide +kernel
theorem dX3_readDeskUnlike_3 : decode cX3_readDeskUnlike 3 = .ok (.getfield 12, 3) := by decide +kernel
theorem dX3_readDeskUnlike_6 : decode cX3_readDeskUnlike 6 = .ok (.getfield 113, 3) := by decide +kernel
theorem dX3_readDeskUnlike_9 : decode cX3_readDeskUnlike 9 = .ok (.iconst 1, 1) := by decide +kernel
theorem dX3_readDeskUnlike_10 : decode cX3_readDeskUnlike 10 = .ok (.isub, 1) := by decide +kernel
theorem dX3_readDeskUnlike_11 : decode cX3_readDeskUnlike 11 = .ok (.invokevirtual 105, 3) := by decide +kernel
theorem dX3_readDeskUnlike_14 : decode cX3_readDeskUnlike 14 = .ok (.istore_n 2, 1) := by decide +kernel
theorem dX3_readDeskUnlike_15 : decode cX3_readDeskUnlike 15 = .ok (.iload_n 2, 1) := by decide +kernel
theorem dX3_readDeskUnlike_16 : decode cX3_readDeskUnlike 16 = .ok (.iload_n 1, 1) := by decide +kernel
theorem dX3_readDeskUnlike_17 : decode cX3_readDeskUnlike 17 = .ok (.if_icmp .eq 5, 3) := by decide +kernel
theorem dX3_readDeskUnlike_20 : decode cX3_readDeskUnlike 20 = .ok (.iload_n 2, 1) := by decide +kernel
theorem dX3_readDeskUnlike_21 : decode cX3_readDeskUnlike 21 = .ok (.ireturn, 1) := by decide +kernel
theorem dX3_readDeskUnlike_22 : decode cX3_readDeskUnlike 22 = .ok (.aload_n 0, 1) := by decide +kernel
theorem dX3_readDeskUnlike_23 : decode cX3_readDeskUnlike 23 = .ok (.invokevirtual 55, 3) := by decide +kernel
theorem dX3_readDeskUnlike_26 : decode cX3_readDeskUnlike 26 = .ok (.pop, 1) := by decide +kernel
theorem dX3_readDeskUnlike_27 : decode cX3_readDeskUnlike 27 = .ok (.iconst (-1), 1) := by decide +kernel
theorem dX3_readDeskUnlike_28 : decode cX3_readDeskUnlike 28 = .ok (.ireturn, 1) := by decide +kernel
theorem dX3_readNumber_0 : decode cX3_readNumber 0 = .ok (.aload_n 0, 1) := by decide +kernel
theorem dX3_readNumber_1 : decode cX3_readNumber 1 = .ok (.invokevirtual 40, 3) := by decide +kernel
theorem dX3_readNumber_4 : decode cX3_readNumber 4 = .ok (.aload_n 0, 1) := by decide +kernel
theorem dX3_readNumber_5 : decode cX3_readNumber 5 = .ok (.getfield 30, 3) := by decide +kernel
theorem dX3_readNumber_8 : decode cX3_readNumber 8 = .ok (.aload_n 0, 1) := by decide +kernel
theorem dX3_readNumber_9 : decode cX3_readNumber 9 = .ok (.getfield 43, 3) := by decide +kernel
theorem dX3_readNumber_12 : decode cX3_readNumber 12 = .ok (.isub, 1) := by decide +kernel
theorem dX3_readNumber_13 : decode cX3_readNumber 13 = .ok (.istore_n 3, 1) := by decide +kernel
theorem dX3_readNumber_14 : decode cX3_readNumber 14 = .ok (.aload_n 0, 1) := by decide +kernel
theorem dX3_readNumber_15 : decode cX3_readNumber 15 = .ok (.getfield 18, 3) := by decide +kernel
theorem dX3_readNumber_18 : decode cX3_readNumber 18 = .ok (.aload_n 0, 1) := by decide +kernel
theorem dX3_readNumber_19 : decode cX3_readNumber 19 = .ok (.getfield 43, 3) := by decide +kernel
theorem dX3_readNumber_22 : decode cX3_readNumber 22 = .ok (.invokevirtual 51, 3) := by decide +kernel
theorem dX3_readNumber_25 : decode cX3_readNumber 25 = .ok (.invokestatic 134, 3) := by decide +kernel
theorem dX3_readNumber_28 : decode cX3_readNumber 28 = .ok (.ifCond .eq 68, 3) := by decide +kernel
theorem dX3_readNumber_31 : decode cX3_readNumber 31 = .ok (.iload_n 3, 1) := by decide +kernel
theorem dX3_readNumber_32 : decode cX3_readNumber 32 = .ok (.iconst 2, 1) := by decide +kernel
theorem dX3_readNumber_33 : decode cX3_readNumber 33 = .ok (.if_icmp .gt 63, 3) := by decide +kernel
theorem dX3_readNumber_36 : decode cX3_readNumber 36 = .ok (.aload_n 0, 1) := by decide +kernel
theorem dX3_readNumber_37 : decode cX3_readNumber 37 = .ok (.getfield 18, 3) := by decide +kernel
theorem dX3_readNumber_40 : decode cX3_readNumber 40 = .ok (.aload_n 0, 1) := by decide +kernel
theorem dX3_readNumber_41 : decode cX3_readNumber 41 = .ok (.getfield 43, 3) := by decide +kernel
theorem dX3_readNumber_44 : decode cX3_readNumber 44 = .ok (.invokevirtual 51, 3) := by decide +kernel
theorem dX3_readNumber_47 : decode cX3_readNumber 47 = .ok (.bipush 48, 2) := by decide +kernel
theorem dX3_readNumber_49 : decode cX3_readNumber 49 = .ok (.isub, 1) := by decide +kernel
theorem dX3_readNumber_50 : decode cX3_readNumber 50 = .ok (.istore 4, 2) := by decide +kernel
theorem dX3_readNumber_52 : decode cX3_readNumber 52 = .ok (.iload_n 3, 1) := by decide +kernel
theorem dX3_readNumber_53 : decode cX3_readNumber 53 = .ok (.iconst 2, 1) := by decide +kernel
theorem dX3_readNumber_54 : decode cX3_readNumber 54 = .ok (.if_icmp .ne 27, 3) := by decide +kernel
theorem dX3_readNumber_57 : decode cX3_readNumber 57 = .ok (.bipush 10, 2) := by decide +kernel
theorem dX3_readNumber_59 : decode cX3_readNumber 59 = .ok (.iload 4, 2) := by decide +kernel
theorem dX3_readNumber_61 : decode cX3_readNumber 61 = .ok (.imul, 1) := by decide +kernel
theorem dX3_readNumber_62 : decode cX3_readNumber 62 = .ok (.aload_n 0, 1) := by decide +kernel
theorem dX3_readNumber_63 : decode cX3_readNumber 63 = .ok (.getfield 18, 3) := by decide +kernel
theorem dX3_readNumber_66 : decode cX3_readNumber 66 = .ok (.aload_n 0, 1) := by decide +kernel
theorem dX3_readNumber_67 : decode cX3_readNumber 67 = .ok (.getfield 43, 3) := by decide +kernel
theorem dX3_readNumber_70 : decode cX3_readNumber 70 = .ok (.iconst 1, 1) := by decide +kernel
theorem dX3_readNumber_71 : decode cX3_readNumber 71 = .ok (.iadd, 1) := by decide +kernel
theorem dX3_readNumber_72 : decode cX3_readNumber 72 = .ok (.invokevirtual 51, 3) := by decide +kernel
theorem dX3_readNumber_75 : decode cX3_readNumber 75 = .ok (.iadd, 1) := by decide +kernel
theorem dX3_readNumber_76 : decode cX3_readNumber 76 = .ok (.bipush 48, 2) := by decide +kernel
theorem dX3_readNumber_78 : decode cX3_readNumber 78 = .ok (.isub, 1) := by decide +kernel
theorem dX3_readNumber_79 : decode cX3_readNumber 79 = .ok (.istore 4, 2) := by decide +kernel
theorem dX3_readNumber_81 : decode cX3_readNumber 81 = .ok (.iload 4, 2) := by decide +kernel
theorem dX3_readNumber_83 : decode cX3_readNumber 83 = .ok (.iload_n 1, 1) := by decide +kernel
theorem dX3_readNumber_84 : decode cX3_readNumber 84 = .ok (.if_icmp .lt 12, 3) := by decide +kernel
theorem dX3_readNumber_87 : decode cX3_readNumber 87 = .ok (.iload 4, 2) := by decide +kernel
theorem dX3_readNumber_89 : decode cX3_readNumber 89 = .ok (.iload_n 2, 1) := by decide +kernel
theorem dX3_readNumber_90 : decode cX3_readNumber 90 = .ok (.if_icmp .gt 6, 3) := by decide +kernel
theorem dX3_readNumber_93 : decode cX3_readNumber 93 = .ok (.iload 4, 2) := by decide +kernel
theorem dX3_readNumber_95 : decode cX3_readNumber 95 = .ok (.ireturn, 1) := by decide +kernel
theorem dX3_readNumber_96 : decode cX3_readNumber 96 = .ok (.aload_n 0, 1) := by decide +kernel
theorem dX3_readNumber_97 : decode cX3_readNumber 97 = .ok (.invokevirtual 55, 3) := by decide +kernel
theorem dX3_readNumber_100 : decode cX3_readNumber 100 = .ok (.pop, 1) := by decide +kernel
theorem dX3_readNumber_101 : decode cX3_readNumber 101 = .ok (.iconst (-1), 1) := by decide +kernel
theorem dX3_readNumber_102 : decode cX3_readNumber 102 = .ok (.ireturn, 1) := by decide +kernel
theorem dX3_refuseToken_0 : decode cX3_refuseToken 0 = .ok (.aload_n 0, 1) := by decide +kernel
theorem dX3_refuseToken_1 : decode cX3_refuseToken 1 = .ok (.aload_n 0, 1) := by decide +kernel
theorem dX3_refuseToken_2 : decode cX3_refuseToken 2 = .ok (.getfield 43, 3) := by decide +kernel
theorem dX3_refuseToken_5 : decode cX3_refuseToken 5 = .ok (.putfield 26, 3) := by decide +kernel
theorem dX3_refuseToken_8 : decode cX3_refuseToken 8 = .ok (.iconst 0, 1) := by decide +kernel
theorem dX3_refuseToken_9 : decode cX3_refuseToken 9 = .ok (.ireturn, 1) := by decide +kernel
theorem dX3_takeToken_0 : decode cX3_takeToken 0 = .ok (.aload_n 0, 1) := by decide +kernel
theorem dX3_takeToken_1 : decode cX3_takeToken 1 = .ok (.aload_n 0, 1) := by decide +kernel
theorem dX3_takeToken_2 : decode cX3_takeToken 2 = .ok (.getfield 30, 3) := by decide +kernel
theorem dX3_takeToken_5 : decode cX3_takeToken 5 = .ok (.putfield 43, 3) := by decide +kernel
theorem dX3_takeToken_8 : decode cX3_takeToken 8 = .ok (.aload_n 0, 1) := by decide +kernel
theorem dX3_takeToken_9 : decode cX3_takeToken 9 = .ok (.getfield 43, 3) := by decide +kernel
theorem dX3_takeToken_12 : decode cX3_takeToken 12 = .ok (.aload_n 0, 1) := by decide +kernel
theorem dX3_takeToken_13 : decode cX3_takeToken 13 = .ok (.getfield 18, 3) := by decide +kernel
theorem dX3_takeToken_16 : decode cX3_takeToken 16 = .ok (.getfield 46, 3) := by decide +kernel
theorem dX3_takeToken_19 : decode cX3_takeToken 19 = .ok (.if_icmp .ge 32, 3) := by decide +kernel
theorem dX3_takeToken_22 : decode cX3_takeToken 22 = .ok (.aload_n 0, 1) := by decide +kernel
theorem dX3_takeToken_23 : decode cX3_takeToken 23 = .ok (.getfield 18, 3) := by decide +kernel
theorem dX3_takeToken_26 : decode cX3_takeToken 26 = .ok (.aload_n 0, 1) := by decide +kernel
theorem dX3_takeToken_27 : decode cX3_takeToken 27 = .ok (.getfield 43, 3) := by decide +kernel
theorem dX3_takeToken_30 : decode cX3_takeToken 30 = .ok (.invokevirtual 51, 3) := by decide +kernel
theorem dX3_takeToken_33 : decode cX3_takeToken 33 = .ok (.bipush 32, 2) := by decide +kernel
theorem dX3_takeToken_35 : decode cX3_takeToken 35 = .ok (.if_icmp .ne 16, 3) := by decide +kernel
theorem dX3_takeToken_38 : decode cX3_takeToken 38 = .ok (.aload_n 0, 1) := by decide +kernel
theorem dX3_takeToken_39 : decode cX3_takeToken 39 = .ok (.dup, 1) := by decide +kernel
theorem dX3_takeToken_40 : decode cX3_takeToken 40 = .ok (.getfield 43, 3) := by decide +kernel
theorem dX3_takeToken_43 : decode cX3_takeToken 43 = .ok (.iconst 1, 1) := by decide +kernel
theorem dX3_takeToken_44 : decode cX3_takeToken 44 = .ok (.iadd, 1) := by decide +kernel
theorem dX3_takeToken_45 : decode cX3_takeToken 45 = .ok (.putfield 43, 3) := by decide +kernel
theorem dX3_takeToken_48 : decode cX3_takeToken 48 = .ok (.goto (-40), 3) := by decide +kernel
theorem dX3_takeToken_51 : decode cX3_takeToken 51 = .ok (.aload_n 0, 1) := by decide +kernel
theorem dX3_takeToken_52 : decode cX3_takeToken 52 = .ok (.aload_n 0, 1) := by decide +kernel
theorem dX3_takeToken_53 : decode cX3_takeToken 53 = .ok (.getfield 43, 3) := by decide +kernel
theorem dX3_takeToken_56 : decode cX3_takeToken 56 = .ok (.putfield 30, 3) := by decide +kernel
theorem dX3_takeToken_59 : decode cX3_takeToken 59 = .ok (.aload_n 0, 1) := by decide +kernel
theorem dX3_takeToken_60 : decode cX3_takeToken 60 = .ok (.getfield 30, 3) := by decide +kernel
theorem dX3_takeToken_63 : decode cX3_takeToken 63 = .ok (.aload_n 0, 1) := by decide +kernel
theorem dX3_takeToken_64 : decode cX3_takeToken 64 = .ok (.getfield 18, 3) := by decide +kernel
theorem dX3_takeToken_67 : decode cX3_takeToken 67 = .ok (.getfield 46, 3) := by decide +kernel
theorem dX3_takeToken_70 : decode cX3_takeToken 70 = .ok (.if_icmp .lt 4, 3) := by decide +kernel
theorem dX3_takeToken_73 : decode cX3_takeToken 73 = .ok (.return_, 1) := by decide +kernel
theorem dX3_takeToken_74 : decode cX3_takeToken 74 = .ok (.aload_n 0, 1) := by decide +kernel
theorem dX3_takeToken_75 : decode cX3_takeToken 75 = .ok (.dup, 1) := by decide +kernel
theorem dX3_takeToken_76 : decode cX3_takeToken 76 = .ok (.getfield 30, 3) := by decide +kernel
theorem dX3_takeToken_79 : decode cX3_takeToken 79 = .ok (.iconst 1, 1) := by decide +kernel
theorem dX3_takeToken_80 : decode cX3_takeToken 80 = .ok (.iadd, 1) := by decide +kernel
theorem dX3_takeToken_81 : decode cX3_takeToken 81 = .ok (.putfield 30, 3) := by decide +kernel
theorem dX3_takeToken_84 : decode cX3_takeToken 84 = .ok (.aload_n 0, 1) := by decide +kernel
theorem dX3_takeToken_85 : decode cX3_takeToken 85 = .ok (.getfield 18, 3) := by decide +kernel
theorem dX3_takeToken_88 : decode cX3_takeToken 88 = .ok (.aload_n 0, 1) := by decide +kernel
theorem dX3_takeToken_89 : decode cX3_takeToken 89 = .ok (.getfield 43, 3) := by decide +kernel
theorem dX3_takeToken_92 : decode cX3_takeToken 92 = .ok (.invokevirtual 51, 3) := by decide +kernel
theorem dX3_takeToken_95 : decode cX3_takeToken 95 = .ok (.istore_n 1, 1) := by decide +kernel
theorem dX3_takeToken_96 : decode cX3_takeToken 96 = .ok (.iload_n 1, 1) := by decide +kernel
theorem dX3_takeToken_97 : decode cX3_takeToken 97 = .ok (.invokestatic 137, 3) := by decide +kernel
theorem dX3_takeToken_100 : decode cX3_takeToken 100 = .ok (.ifCond .eq 47, 3) := by decide +kernel
theorem dX3_takeToken_103 : decode cX3_takeToken 103 = .ok (.aload_n 0, 1) := by decide +kernel
theorem dX3_takeToken_104 : decode cX3_takeToken 104 = .ok (.getfield 30, 3) := by decide +kernel
theorem dX3_takeToken_107 : decode cX3_takeToken 107 = .ok (.aload_n 0, 1) := by decide +kernel
theorem dX3_takeToken_108 : decode cX3_takeToken 108 = .ok (.getfield 18, 3) := by decide +kernel
theorem dX3_takeToken_111 : decode cX3_takeToken 111 = .ok (.getfield 46, 3) := by decide +kernel
theorem dX3_takeToken_114 : decode cX3_takeToken 114 = .ok (.if_icmp .ge 84, 3) := by decide +kernel
theorem dX3_takeToken_117 : decode cX3_takeToken 117 = .ok (.aload_n 0, 1) := by decide +kernel
theorem dX3_takeToken_118 : decode cX3_takeToken 118 = .ok (.getfield 18, 3) := by decide +kernel
theorem dX3_takeToken_121 : decode cX3_takeToken 121 = .ok (.aload_n 0, 1) := by decide +kernel
theorem dX3_takeToken_122 : decode cX3_takeToken 122 = .ok (.getfield 30, 3) := by decide +kernel
theorem dX3_takeToken_125 : decode cX3_takeToken 125 = .ok (.invokevirtual 51, 3) := by decide +kernel
theorem dX3_takeToken_128 : decode cX3_takeToken 128 = .ok (.invokestatic 137, 3) := by decide +kernel
theorem dX3_takeToken_131 : decode cX3_takeToken 131 = .ok (.ifCond .eq 67, 3) := by decide +kernel
theorem dX3_takeToken_134 : decode cX3_takeToken 134 = .ok (.aload_n 0, 1) := by decide +kernel
theorem dX3_takeToken_135 : decode cX3_takeToken 135 = .ok (.dup, 1) := by decide +kernel
theorem dX3_takeToken_136 : decode cX3_takeToken 136 = .ok (.getfield 30, 3) := by decide +kernel
theorem dX3_takeToken_139 : decode cX3_takeToken 139 = .ok (.iconst 1, 1) := by decide +kernel
theorem dX3_takeToken_140 : decode cX3_takeToken 140 = .ok (.iadd, 1) := by decide +kernel
theorem dX3_takeToken_141 : decode cX3_takeToken 141 = .ok (.putfield 30, 3) := by decide +kernel
theorem dX3_takeToken_144 : decode cX3_takeToken 144 = .ok (.goto (-41), 3) := by decide +kernel
theorem dX3_takeToken_147 : decode cX3_takeToken 147 = .ok (.iload_n 1, 1) := by decide +kernel
theorem dX3_takeToken_148 : decode cX3_takeToken 148 = .ok (.invokestatic 134, 3) := by decide +kernel
theorem dX3_takeToken_151 : decode cX3_takeToken 151 = .ok (.ifCond .eq 47, 3) := by decide +kernel
theorem dX3_takeToken_154 : decode cX3_takeToken 154 = .ok (.aload_n 0, 1) := by decide +kernel
theorem dX3_takeToken_155 : decode cX3_takeToken 155 = .ok (.getfield 30, 3) := by decide +kernel
theorem dX3_takeToken_158 : decode cX3_takeToken 158 = .ok (.aload_n 0, 1) := by decide +kernel
theorem dX3_takeToken_159 : decode cX3_takeToken 159 = .ok (.getfield 18, 3) := by decide +kernel
theorem dX3_takeToken_162 : decode cX3_takeToken 162 = .ok (.getfield 46, 3) := by decide +kernel
theorem dX3_takeToken_165 : decode cX3_takeToken 165 = .ok (.if_icmp .ge 33, 3) := by decide +kernel
theorem dX3_takeToken_168 : decode cX3_takeToken 168 = .ok (.aload_n 0, 1) := by decide +kernel
theorem dX3_takeToken_169 : decode cX3_takeToken 169 = .ok (.getfield 18, 3) := by decide +kernel
theorem dX3_takeToken_172 : decode cX3_takeToken 172 = .ok (.aload_n 0, 1) := by decide +kernel
theorem dX3_takeToken_173 : decode cX3_takeToken 173 = .ok (.getfield 30, 3) := by decide +kernel
theorem dX3_takeToken_176 : decode cX3_takeToken 176 = .ok (.invokevirtual 51, 3) := by decide +kernel
theorem dX3_takeToken_179 : decode cX3_takeToken 179 = .ok (.invokestatic 134, 3) := by decide +kernel
theorem dX3_takeToken_182 : decode cX3_takeToken 182 = .ok (.ifCond .eq 16, 3) := by decide +kernel
theorem dX3_takeToken_185 : decode cX3_takeToken 185 = .ok (.aload_n 0, 1) := by decide +kernel
theorem dX3_takeToken_186 : decode cX3_takeToken 186 = .ok (.dup, 1) := by decide +kernel
theorem dX3_takeToken_187 : decode cX3_takeToken 187 = .ok (.getfield 30, 3) := by decide +kernel
theorem dX3_takeToken_190 : decode cX3_takeToken 190 = .ok (.iconst 1, 1) := by decide +kernel
theorem dX3_takeToken_191 : decode cX3_takeToken 191 = .ok (.iadd, 1) := by decide +kernel
theorem dX3_takeToken_192 : decode cX3_takeToken 192 = .ok (.putfield 30, 3) := by decide +kernel
theorem dX3_takeToken_195 : decode cX3_takeToken 195 = .ok (.goto (-41), 3) := by decide +kernel
theorem dX3_takeToken_198 : decode cX3_takeToken 198 = .ok (.return_, 1) := by decide +kernel
theorem dX3_tokenIs_0 : decode cX3_tokenIs 0 = .ok (.aload_n 0, 1) := by decide +kernel
theorem dX3_tokenIs_1 : decode cX3_tokenIs 1 = .ok (.getfield 30, 3) := by decide +kernel
theorem dX3_tokenIs_4 : decode cX3_tokenIs 4 = .ok (.aload_n 0, 1) := by decide +kernel
theorem dX3_tokenIs_5 : decode cX3_tokenIs 5 = .ok (.getfield 43, 3) := by decide +kernel
theorem dX3_tokenIs_8 : decode cX3_tokenIs 8 = .ok (.isub, 1) := by decide +kernel
theorem dX3_tokenIs_9 : decode cX3_tokenIs 9 = .ok (.aload_n 1, 1) := by decide +kernel
theorem dX3_tokenIs_10 : decode cX3_tokenIs 10 = .ok (.invokevirtual 140, 3) := by decide +kernel
theorem dX3_tokenIs_13 : decode cX3_tokenIs 13 = .ok (.if_icmp .eq 5, 3) := by decide +kernel
theorem dX3_tokenIs_16 : decode cX3_tokenIs 16 = .ok (.iconst 0, 1) := by decide +kernel
theorem dX3_tokenIs_17 : decode cX3_tokenIs 17 = .ok (.ireturn, 1) := by decide +kernel
theorem dX3_tokenIs_18 : decode cX3_tokenIs 18 = .ok (.iconst 0, 1) := by decide +kernel
theorem dX3_tokenIs_19 : decode cX3_tokenIs 19 = .ok (.istore_n 2, 1) := by decide +kernel
theorem dX3_tokenIs_20 : decode cX3_tokenIs 20 = .ok (.iload_n 2, 1) := by decide +kernel
theorem dX3_tokenIs_21 : decode cX3_tokenIs 21 = .ok (.aload_n 1, 1) := by decide +kernel
theorem dX3_tokenIs_22 : decode cX3_tokenIs 22 = .ok (.invokevirtual 140, 3) := by decide +kernel
theorem dX3_tokenIs_25 : decode cX3_tokenIs 25 = .ok (.if_icmp .ge 32, 3) := by decide +kernel
theorem dX3_tokenIs_28 : decode cX3_tokenIs 28 = .ok (.aload_n 0, 1) := by decide +kernel
theorem dX3_tokenIs_29 : decode cX3_tokenIs 29 = .ok (.getfield 18, 3) := by decide +kernel
theorem dX3_tokenIs_32 : decode cX3_tokenIs 32 = .ok (.aload_n 0, 1) := by decide +kernel
theorem dX3_tokenIs_33 : decode cX3_tokenIs 33 = .ok (.getfield 43, 3) := by decide +kernel
theorem dX3_tokenIs_36 : decode cX3_tokenIs 36 = .ok (.iload_n 2, 1) := by decide +kernel
theorem dX3_tokenIs_37 : decode cX3_tokenIs 37 = .ok (.iadd, 1) := by decide +kernel
theorem dX3_tokenIs_38 : decode cX3_tokenIs 38 = .ok (.invokevirtual 51, 3) := by decide +kernel
theorem dX3_tokenIs_41 : decode cX3_tokenIs 41 = .ok (.aload_n 1, 1) := by decide +kernel
theorem dX3_tokenIs_42 : decode cX3_tokenIs 42 = .ok (.iload_n 2, 1) := by decide +kernel
theorem dX3_tokenIs_43 : decode cX3_tokenIs 43 = .ok (.invokevirtual 145, 3) := by decide +kernel
theorem dX3_tokenIs_46 : decode cX3_tokenIs 46 = .ok (.if_icmp .eq 5, 3) := by decide +kernel
theorem dX3_tokenIs_49 : decode cX3_tokenIs 49 = .ok (.iconst 0, 1) := by decide +kernel
theorem dX3_tokenIs_50 : decode cX3_tokenIs 50 = .ok (.ireturn, 1) := by decide +kernel
theorem dX3_tokenIs_51 : decode cX3_tokenIs 51 = .ok (.iinc 2 1, 3) := by decide +kernel
theorem dX3_tokenIs_54 : decode cX3_tokenIs 54 = .ok (.goto (-34), 3) := by decide +kernel
theorem dX3_tokenIs_57 : decode cX3_tokenIs 57 = .ok (.iconst 1, 1) := by decide +kernel
theorem dX3_tokenIs_58 : decode cX3_tokenIs 58 = .ok (.ireturn, 1) := by decide +kernel
theorem dX3_isLetter_0 : decode cX3_isLetter 0 = .ok (.iload_n 0, 1) := by decide +kernel
theorem dX3_isLetter_1 : decode cX3_isLetter 1 = .ok (.bipush 97, 2) := by decide +kernel
theorem dX3_isLetter_3 : decode cX3_isLetter 3 = .ok (.if_icmp .lt 13, 3) := by decide +kernel
theorem dX3_isLetter_6 : decode cX3_isLetter 6 = .ok (.iload_n 0, 1) := by decide +kernel
theorem dX3_isLetter_7 : decode cX3_isLetter 7 = .ok (.bipush 122, 2) := by decide +kernel
theorem dX3_isLetter_9 : decode cX3_isLetter 9 = .ok (.if_icmp .gt 7, 3) := by decide +kernel
theorem dX3_isLetter_12 : decode cX3_isLetter 12 = .ok (.iconst 1, 1) := by decide +kernel
theorem dX3_isLetter_13 : decode cX3_isLetter 13 = .ok (.goto 4, 3) := by decide +kernel
theorem dX3_isLetter_16 : decode cX3_isLetter 16 = .ok (.iconst 0, 1) := by decide +kernel
theorem dX3_isLetter_17 : decode cX3_isLetter 17 = .ok (.ireturn, 1) := by decide +kernel
theorem dX3_isDigit_0 : decode cX3_isDigit 0 = .ok (.iload_n 0, 1) := by decide +kernel
theorem dX3_isDigit_1 : decode cX3_isDigit 1 = .ok (.bipush 48, 2) := by decide +kernel
theorem dX3_isDigit_3 : decode cX3_isDigit 3 = .ok (.if_icmp .lt 13, 3) := by decide +kernel
theorem dX3_isDigit_6 : decode cX3_isDigit 6 = .ok (.iload_n 0, 1) := by decide +kernel
theorem dX3_isDigit_7 : decode cX3_isDigit 7 = .ok (.bipush 57, 2) := by decide +kernel
theorem dX3_isDigit_9 : decode cX3_isDigit 9 = .ok (.if_icmp .gt 7, 3) := by decide +kernel
theorem dX3_isDigit_12 : decode cX3_isDigit 12 = .ok (.iconst 1, 1) := by decide +kernel
theorem dX3_isDigit_13 : decode cX3_isDigit 13 = .ok (.goto 4, 3) := by decide +kernel
theorem dX3_isDigit_16 : decode cX3_isDigit 16 = .ok (.iconst 0, 1) := by decide +kernel
theorem dX3_isDigit_17 : decode cX3_isDigit 17 = .ok (.ireturn, 1) := by decide +kernel
theorem dX4_init_0 : decode cX4_init 0 = .ok (.aload_n 0, 1) := by decide +kernel
theorem dX4_init_1 : decode cX4_init 1 = .ok (.invokespecial 3, 3) := by decide +kernel
theorem dX4_init_4 : decode cX4_init 4 = .ok (.aload_n 0, 1) := by decide +kernel
theorem dX4_init_5 : decode cX4_init 5 = .ok (.iconst 0, 1) := by decide +kernel
theorem dX4_init_6 : decode cX4_init 6 = .ok (.putfield 9, 3) := by decide +kernel
theorem dX4_init_9 : decode cX4_init 9 = .ok (.aload_n 0, 1) := by decide +kernel
theorem dX4_init_10 : decode cX4_init 10 = .ok (.bipush 6, 2) := by decide +kernel
theorem dX4_init_12 : decode cX4_init 12 = .ok (.newarray .int, 2) := by decide +kernel
theorem dX4_init_14 : decode cX4_init 14 = .ok (.putfield 15, 3) := by decide +kernel
theorem dX4_init_17 : decode cX4_init 17 = .ok (.aload_n 0, 1) := by decide +kernel
theorem dX4_init_18 : decode cX4_init 18 = .ok (.bipush 6, 2) := by decide +kernel
theorem dX4_init_20 : decode cX4_init 20 = .ok (.newarray .int, 2) := by decide +kernel
theorem dX4_init_22 : decode cX4_init 22 = .ok (.putfield 19, 3) := by decide +kernel
theorem dX4_init_25 : decode cX4_init 25 = .ok (.aload_n 0, 1) := by decide +kernel
theorem dX4_init_26 : decode cX4_init 26 = .ok (.bipush 6, 2) := by decide +kernel
theorem dX4_init_28 : decode cX4_init 28 = .ok (.newarray .int, 2) := by decide +kernel
theorem dX4_init_30 : decode cX4_init 30 = .ok (.putfield 22, 3) := by decide +kernel
theorem dX4_init_33 : decode cX4_init 33 = .ok (.return_, 1) := by decide +kernel
theorem dX4_add_0 : decode cX4_add 0 = .ok (.aload_n 0, 1) := by decide +kernel
theorem dX4_add_1 : decode cX4_add 1 = .ok (.getfield 9, 3) := by decide +kernel
theorem dX4_add_4 : decode cX4_add 4 = .ok (.bipush 6, 2) := by decide +kernel
theorem dX4_add_6 : decode cX4_add 6 = .ok (.if_icmp .lt 8, 3) := by decide +kernel
theorem dX4_add_9 : decode cX4_add 9 = .ok (.aload_n 0, 1) := by decide +kernel
theorem dX4_add_10 : decode cX4_add 10 = .ok (.getfield 9, 3) := by decide +kernel
theorem dX4_add_13 : decode cX4_add 13 = .ok (.ireturn, 1) := by decide +kernel
theorem dX4_add_14 : decode cX4_add 14 = .ok (.aload_n 0, 1) := by decide +kernel
theorem dX4_add_15 : decode cX4_add 15 = .ok (.getfield 15, 3) := by decide +kernel
theorem dX4_add_18 : decode cX4_add 18 = .ok (.aload_n 0, 1) := by decide +kernel
theorem dX4_add_19 : decode cX4_add 19 = .ok (.getfield 9, 3) := by decide +kernel
theorem dX4_add_22 : decode cX4_add 22 = .ok (.iload_n 1, 1) := by decide +kernel
theorem dX4_add_23 : decode cX4_add 23 = .ok (.iastore, 1) := by decide +kernel
theorem dX4_add_24 : decode cX4_add 24 = .ok (.aload_n 0, 1) := by decide +kernel
theorem dX4_add_25 : decode cX4_add 25 = .ok (.getfield 19, 3) := by decide +kernel
theorem dX4_add_28 : decode cX4_add 28 = .ok (.aload_n 0, 1) := by decide +kernel
theorem dX4_add_29 : decode cX4_add 29 = .ok (.getfield 9, 3) := by decide +kernel
theorem dX4_add_32 : decode cX4_add 32 = .ok (.iload_n 2, 1) := by decide +kernel
theorem dX4_add_33 : decode cX4_add 33 = .ok (.iastore, 1) := by decide +kernel
theorem dX4_add_34 : decode cX4_add 34 = .ok (.aload_n 0, 1) := by decide +kernel
theorem dX4_add_35 : decode cX4_add 35 = .ok (.getfield 22, 3) := by decide +kernel
theorem dX4_add_38 : decode cX4_add 38 = .ok (.aload_n 0, 1) := by decide +kernel
theorem dX4_add_39 : decode cX4_add 39 = .ok (.getfield 9, 3) := by decide +kernel
theorem dX4_add_42 : decode cX4_add 42 = .ok (.iload_n 3, 1) := by decide +kernel
theorem dX4_add_43 : decode cX4_add 43 = .ok (.iastore, 1) := by decide +kernel
theorem dX4_add_44 : decode cX4_add 44 = .ok (.aload_n 0, 1) := by decide +kernel
theorem dX4_add_45 : decode cX4_add 45 = .ok (.dup, 1) := by decide +kernel
theorem dX4_add_46 : decode cX4_add 46 = .ok (.getfield 9, 3) := by decide +kernel
theorem dX4_add_49 : decode cX4_add 49 = .ok (.iconst 1, 1) := by decide +kernel
theorem dX4_add_50 : decode cX4_add 50 = .ok (.iadd, 1) := by decide +kernel
theorem dX4_add_51 : decode cX4_add 51 = .ok (.dup_x1, 1) := by decide +kernel
theorem dX4_add_52 : decode cX4_add 52 = .ok (.putfield 9, 3) := by decide +kernel
theorem dX4_add_55 : decode cX4_add 55 = .ok (.ireturn, 1) := by decide +kernel
theorem dX4_clear_0 : decode cX4_clear 0 = .ok (.aload_n 0, 1) := by decide +kernel
theorem dX4_clear_1 : decode cX4_clear 1 = .ok (.getfield 9, 3) := by decide +kernel
theorem dX4_clear_4 : decode cX4_clear 4 = .ok (.istore_n 1, 1) := by decide +kernel
theorem dX4_clear_5 : decode cX4_clear 5 = .ok (.aload_n 0, 1) := by decide +kernel
theorem dX4_clear_6 : decode cX4_clear 6 = .ok (.iconst 0, 1) := by decide +kernel
theorem dX4_clear_7 : decode cX4_clear 7 = .ok (.putfield 9, 3) := by decide +kernel
theorem dX4_clear_10 : decode cX4_clear 10 = .ok (.iload_n 1, 1) := by decide +kernel
theorem dX4_clear_11 : decode cX4_clear 11 = .ok (.ireturn, 1) := by decide +kernel
theorem dX4_lastOf_0 : decode cX4_lastOf 0 = .ok (.iconst (-1), 1) := by decide +kernel
theorem dX4_lastOf_1 : decode cX4_lastOf 1 = .ok (.istore_n 2, 1) := by decide +kernel
theorem dX4_lastOf_2 : decode cX4_lastOf 2 = .ok (.iconst 0, 1) := by decide +kernel
theorem dX4_lastOf_3 : decode cX4_lastOf 3 = .ok (.istore_n 3, 1) := by decide +kernel
theorem dX4_lastOf_4 : decode cX4_lastOf 4 = .ok (.iload_n 3, 1) := by decide +kernel
theorem dX4_lastOf_5 : decode cX4_lastOf 5 = .ok (.aload_n 0, 1) := by decide +kernel
theorem dX4_lastOf_6 : decode cX4_lastOf 6 = .ok (.getfield 9, 3) := by decide +kernel
theorem dX4_lastOf_9 : decode cX4_lastOf 9 = .ok (.if_icmp .ge 30, 3) := by decide +kernel
theorem dX4_lastOf_12 : decode cX4_lastOf 12 = .ok (.aload_n 0, 1) := by decide +kernel
theorem dX4_lastOf_13 : decode cX4_lastOf 13 = .ok (.getfield 15, 3) := by decide +kernel
theorem dX4_lastOf_16 : decode cX4_lastOf 16 = .ok (.iload_n 3, 1) := by decide +kernel
theorem dX4_lastOf_17 : decode cX4_lastOf 17 = .ok (.iaload, 1) := by decide +kernel
theorem dX4_lastOf_18 : decode cX4_lastOf 18 = .ok (.iload_n 1, 1) := by decide +kernel
theorem dX4_lastOf_19 : decode cX4_lastOf 19 = .ok (.if_icmp .ne 14, 3) := by decide +kernel
theorem dX4_lastOf_22 : decode cX4_lastOf 22 = .ok (.iload_n 2, 1) := by decide +kernel
theorem dX4_lastOf_23 : decode cX4_lastOf 23 = .ok (.aload_n 0, 1) := by decide +kernel
theorem dX4_lastOf_24 : decode cX4_lastOf 24 = .ok (.getfield 22, 3) := by decide +kernel
theorem dX4_lastOf_27 : decode cX4_lastOf 27 = .ok (.iload_n 3, 1) := by decide +kernel
theorem dX4_lastOf_28 : decode cX4_lastOf 28 = .ok (.iaload, 1) := by decide +kernel
theorem dX4_lastOf_29 : decode cX4_lastOf 29 = .ok (.invokestatic 25, 3) := by decide +kernel
theorem dX4_lastOf_32 : decode cX4_lastOf 32 = .ok (.istore_n 2, 1) := by decide +kernel
theorem dX4_lastOf_33 : decode cX4_lastOf 33 = .ok (.iinc 3 1, 3) := by decide +kernel
theorem dX4_lastOf_36 : decode cX4_lastOf 36 = .ok (.goto (-32), 3) := by decide +kernel
theorem dX4_lastOf_39 : decode cX4_lastOf 39 = .ok (.iload_n 2, 1) := by decide +kernel
theorem dX4_lastOf_40 : decode cX4_lastOf 40 = .ok (.ireturn, 1) := by decide +kernel
theorem dX4_allow_0 : decode cX4_allow 0 = .ok (.iconst 0, 1) := by decide +kernel
theorem dX4_allow_1 : decode cX4_allow 1 = .ok (.istore 4, 2) := by decide +kernel
theorem dX4_allow_3 : decode cX4_allow 3 = .ok (.iload 4, 2) := by decide +kernel
theorem dX4_allow_5 : decode cX4_allow 5 = .ok (.aload_n 0, 1) := by decide +kernel
theorem dX4_allow_6 : decode cX4_allow 6 = .ok (.getfield 9, 3) := by decide +kernel
theorem dX4_allow_9 : decode cX4_allow 9 = .ok (.if_icmp .ge 44, 3) := by decide +kernel
theorem dX4_allow_12 : decode cX4_allow 12 = .ok (.aload_n 0, 1) := by decide +kernel
theorem dX4_allow_13 : decode cX4_allow 13 = .ok (.getfield 15, 3) := by decide +kernel
theorem dX4_allow_16 : decode cX4_allow 16 = .ok (.iload 4, 2) := by decide +kernel
theorem dX4_allow_18 : decode cX4_allow 18 = .ok (.iaload, 1) := by decide +kernel
theorem dX4_allow_19 : decode cX4_allow 19 = .ok (.iload_n 1, 1) := by decide +kernel
theorem dX4_allow_20 : decode cX4_allow 20 = .ok (.if_icmp .ne 27, 3) := by decide +kernel
theorem dX4_allow_23 : decode cX4_allow 23 = .ok (.aload_n 0, 1) := by decide +kernel
theorem dX4_allow_24 : decode cX4_allow 24 = .ok (.getfield 22, 3) := by decide +kernel
theorem dX4_allow_27 : decode cX4_allow 27 = .ok (.iload 4, 2) := by decide +kernel
theorem dX4_allow_29 : decode cX4_allow 29 = .ok (.iaload, 1) := by decide +kernel
theorem dX4_allow_30 : decode cX4_allow 30 = .ok (.iload_n 3, 1) := by decide +kernel
theorem dX4_allow_31 : decode cX4_allow 31 = .ok (.if_icmp .ne 16, 3) := by decide +kernel
theorem dX4_allow_34 : decode cX4_allow 34 = .ok (.aload_n 0, 1) := by decide +kernel
theorem dX4_allow_35 : decode cX4_allow 35 = .ok (.getfield 19, 3) := by decide +kernel
theorem dX4_allow_38 : decode cX4_allow 38 = .ok (.iload 4, 2) := by decide +kernel
theorem dX4_allow_40 : decode cX4_allow 40 = .ok (.iaload, 1) := by decide +kernel
theorem dX4_allow_41 : decode cX4_allow 41 = .ok (.iload_n 2, 1) := by decide +kernel
theorem dX4_allow_42 : decode cX4_allow 42 = .ok (.if_icmp .eq 5, 3) := by decide +kernel
theorem dX4_allow_45 : decode cX4_allow 45 = .ok (.iconst 0, 1) := by decide +kernel
theorem dX4_allow_46 : decode cX4_allow 46 = .ok (.ireturn, 1) := by decide +kernel
theorem dX4_allow_47 : decode cX4_allow 47 = .ok (.iinc 4 1, 3) := by decide +kernel
theorem dX4_allow_50 : decode cX4_allow 50 = .ok (.goto (-47), 3) := by decide +kernel
theorem dX4_allow_53 : decode cX4_allow 53 = .ok (.iconst 1, 1) := by decide +kernel
theorem dX4_allow_54 : decode cX4_allow 54 = .ok (.ireturn, 1) := by decide +kernel
theorem dX5_init_0 : decode cX5_init 0 = .ok (.aload_n 0, 1) := by decide +kernel
theorem dX5_init_1 : decode cX5_init 1 = .ok (.invokespecial 3, 3) := by decide +kernel
theorem dX5_init_4 : decode cX5_init 4 = .ok (.aload_n 0, 1) := by decide +kernel
theorem dX5_init_5 : decode cX5_init 5 = .ok (.sipush 200, 3) := by decide +kernel
theorem dX5_init_8 : decode cX5_init 8 = .ok (.newarray .int, 2) := by decide +kernel
theorem dX5_init_10 : decode cX5_init 10 = .ok (.putfield 9, 3) := by decide +kernel
theorem dX5_init_13 : decode cX5_init 13 = .ok (.aload_n 0, 1) := by decide +kernel
theorem dX5_init_14 : decode cX5_init 14 = .ok (.iconst 0, 1) := by decide +kernel
theorem dX5_init_15 : decode cX5_init 15 = .ok (.putfield 15, 3) := by decide +kernel
theorem dX5_init_18 : decode cX5_init 18 = .ok (.return_, 1) := by decide +kernel
theorem dX5_append_0 : decode cX5_append 0 = .ok (.aload_n 0, 1) := by decide +kernel
theorem dX5_append_1 : decode cX5_append 1 = .ok (.getfield 15, 3) := by decide +kernel
theorem dX5_append_4 : decode cX5_append 4 = .ok (.sipush 200, 3) := by decide +kernel
theorem dX5_append_7 : decode cX5_append 7 = .ok (.if_icmp .ge 20, 3) := by decide +kernel
theorem dX5_append_10 : decode cX5_append 10 = .ok (.aload_n 0, 1) := by decide +kernel
theorem dX5_append_11 : decode cX5_append 11 = .ok (.getfield 9, 3) := by decide +kernel
theorem dX5_append_14 : decode cX5_append 14 = .ok (.aload_n 0, 1) := by decide +kernel
theorem dX5_append_15 : decode cX5_append 15 = .ok (.dup, 1) := by decide +kernel
theorem dX5_append_16 : decode cX5_append 16 = .ok (.getfield 15, 3) := by decide +kernel
theorem dX5_append_19 : decode cX5_append 19 = .ok (.dup_x1, 1) := by decide +kernel
theorem dX5_append_20 : decode cX5_append 20 = .ok (.iconst 1, 1) := by decide +kernel
theorem dX5_append_21 : decode cX5_append 21 = .ok (.iadd, 1) := by decide +kernel
theorem dX5_append_22 : decode cX5_append 22 = .ok (.putfield 15, 3) := by decide +kernel
theorem dX5_append_25 : decode cX5_append 25 = .ok (.iload_n 1, 1) := by decide +kernel
theorem dX5_append_26 : decode cX5_append 26 = .ok (.iastore, 1) := by decide +kernel
theorem dX5_append_27 : decode cX5_append 27 = .ok (.return_, 1) := by decide +kernel
theorem dX5_clear_0 : decode cX5_clear 0 = .ok (.aload_n 0, 1) := by decide +kernel
theorem dX5_clear_1 : decode cX5_clear 1 = .ok (.getfield 15, 3) := by decide +kernel
theorem dX5_clear_4 : decode cX5_clear 4 = .ok (.istore_n 1, 1) := by decide +kernel
theorem dX5_clear_5 : decode cX5_clear 5 = .ok (.aload_n 0, 1) := by decide +kernel
theorem dX5_clear_6 : decode cX5_clear 6 = .ok (.iconst 0, 1) := by decide +kernel
theorem dX5_clear_7 : decode cX5_clear 7 = .ok (.putfield 15, 3) := by decide +kernel
theorem dX5_clear_10 : decode cX5_clear 10 = .ok (.iload_n 1, 1) := by decide +kernel
theorem dX5_clear_11 : decode cX5_clear 11 = .ok (.ireturn, 1) := by decide +kernel
theorem dX5_at_0 : decode cX5_at 0 = .ok (.iload_n 1, 1) := by decide +kernel
theorem dX5_at_1 : decode cX5_at 1 = .ok (.ifCond .lt 20, 3) := by decide +kernel
theorem dX5_at_4 : decode cX5_at 4 = .ok (.iload_n 1, 1) := by decide +kernel
theorem dX5_at_5 : decode cX5_at 5 = .ok (.aload_n 0, 1) := by decide +kernel
theorem dX5_at_6 : decode cX5_at 6 = .ok (.getfield 15, 3) := by decide +kernel
theorem dX5_at_9 : decode cX5_at 9 = .ok (.if_icmp .ge 12, 3) := by decide +kernel
theorem dX5_at_12 : decode cX5_at 12 = .ok (.aload_n 0, 1) := by decide +kernel
theorem dX5_at_13 : decode cX5_at 13 = .ok (.getfield 9, 3) := by decide +kernel
theorem dX5_at_16 : decode cX5_at 16 = .ok (.iload_n 1, 1) := by decide +kernel
theorem dX5_at_17 : decode cX5_at 17 = .ok (.iaload, 1) := by decide +kernel
theorem dX5_at_18 : decode cX5_at 18 = .ok (.goto 4, 3) := by decide +kernel
theorem dX5_at_21 : decode cX5_at 21 = .ok (.iconst (-1), 1) := by decide +kernel
theorem dX5_at_22 : decode cX5_at 22 = .ok (.ireturn, 1) := by decide +kernel
theorem dX6_init_0 : decode cX6_init 0 = .ok (.aload_n 0, 1) := by decide +kernel
theorem dX6_init_1 : decode cX6_init 1 = .ok (.invokespecial 3, 3) := by decide +kernel
theorem dX6_init_4 : decode cX6_init 4 = .ok (.aload_n 0, 1) := by decide +kernel
theorem dX6_init_5 : decode cX6_init 5 = .ok (.bipush 8, 2) := by decide +kernel
theorem dX6_init_7 : decode cX6_init 7 = .ok (.newarray .int, 2) := by decide +kernel
theorem dX6_init_9 : decode cX6_init 9 = .ok (.putfield 9, 3) := by decide +kernel
theorem dX6_init_12 : decode cX6_init 12 = .ok (.aload_n 0, 1) := by decide +kernel
theorem dX6_init_13 : decode cX6_init 13 = .ok (.bipush 12, 2) := by decide +kernel
theorem dX6_init_15 : decode cX6_init 15 = .ok (.newarray .int, 2) := by decide +kernel
theorem dX6_init_17 : decode cX6_init 17 = .ok (.putfield 15, 3) := by decide +kernel
theorem dX6_init_20 : decode cX6_init 20 = .ok (.aload_n 0, 1) := by decide +kernel
theorem dX6_init_21 : decode cX6_init 21 = .ok (.bipush 12, 2) := by decide +kernel
theorem dX6_init_23 : decode cX6_init 23 = .ok (.newarray .int, 2) := by decide +kernel
theorem dX6_init_25 : decode cX6_init 25 = .ok (.putfield 18, 3) := by decide +kernel
theorem dX6_init_28 : decode cX6_init 28 = .ok (.aload_n 0, 1) := by decide +kernel
theorem dX6_init_29 : decode cX6_init 29 = .ok (.bipush 12, 2) := by decide +kernel
theorem dX6_init_31 : decode cX6_init 31 = .ok (.newarray .int, 2) := by decide +kernel
theorem dX6_init_33 : decode cX6_init 33 = .ok (.putfield 21, 3) := by decide +kernel
theorem dX6_init_36 : decode cX6_init 36 = .ok (.aload_n 0, 1) := by decide +kernel
theorem dX6_init_37 : decode cX6_init 37 = .ok (.bipush 6, 2) := by decide +kernel
theorem dX6_init_39 : decode cX6_init 39 = .ok (.newarray .int, 2) := by decide +kernel
theorem dX6_init_41 : decode cX6_init 41 = .ok (.putfield 24, 3) := by decide +kernel
theorem dX6_init_44 : decode cX6_init 44 = .ok (.aload_n 0, 1) := by decide +kernel
theorem dX6_init_45 : decode cX6_init 45 = .ok (.bipush 6, 2) := by decide +kernel
theorem dX6_init_47 : decode cX6_init 47 = .ok (.newarray .int, 2) := by decide +kernel
theorem dX6_init_49 : decode cX6_init 49 = .ok (.putfield 27, 3) := by decide +kernel
theorem dX6_init_52 : decode cX6_init 52 = .ok (.aload_n 0, 1) := by decide +kernel
theorem dX6_init_53 : decode cX6_init 53 = .ok (.bipush 6, 2) := by decide +kernel
theorem dX6_init_55 : decode cX6_init 55 = .ok (.newarray .int, 2) := by decide +kernel
theorem dX6_init_57 : decode cX6_init 57 = .ok (.putfield 30, 3) := by decide +kernel
theorem dX6_init_60 : decode cX6_init 60 = .ok (.aload_n 0, 1) := by decide +kernel
theorem dX6_init_61 : decode cX6_init 61 = .ok (.iconst 2, 1) := by decide +kernel
theorem dX6_init_62 : decode cX6_init 62 = .ok (.invokevirtual 33, 3) := by decide +kernel
theorem dX6_init_65 : decode cX6_init 65 = .ok (.return_, 1) := by decide +kernel
theorem dX6_becomeNew_0 : decode cX6_becomeNew 0 = .ok (.aload_n 0, 1) := by decide +kernel
theorem dX6_becomeNew_1 : decode cX6_becomeNew 1 = .ok (.iload_n 1, 1) := by decide +kernel
theorem dX6_becomeNew_2 : decode cX6_becomeNew 2 = .ok (.putfield 37, 3) := by decide +kernel
theorem dX6_becomeNew_5 : decode cX6_becomeNew 5 = .ok (.aload_n 0, 1) := by decide +kernel
theorem dX6_becomeNew_6 : decode cX6_becomeNew 6 = .ok (.iconst 0, 1) := by decide +kernel
theorem dX6_becomeNew_7 : decode cX6_becomeNew 7 = .ok (.putfield 41, 3) := by decide +kernel
theorem dX6_becomeNew_10 : decode cX6_becomeNew 10 = .ok (.aload_n 0, 1) := by decide +kernel
theorem dX6_becomeNew_11 : decode cX6_becomeNew 11 = .ok (.iconst 0, 1) := by decide +kernel
theorem dX6_becomeNew_12 : decode cX6_becomeNew 12 = .ok (.putfield 44, 3) := by decide +kernel
theorem dX6_becomeNew_15 : decode cX6_becomeNew 15 = .ok (.aload_n 0, 1) := by decide +kernel
theorem dX6_becomeNew_16 : decode cX6_becomeNew 16 = .ok (.iconst 1, 1) := by decide +kernel
theorem dX6_becomeNew_17 : decode cX6_becomeNew 17 = .ok (.putfield 47, 3) := by decide +kernel
theorem dX6_becomeNew_20 : decode cX6_becomeNew 20 = .ok (.aload_n 0, 1) := by decide +kernel
theorem dX6_becomeNew_21 : decode cX6_becomeNew 21 = .ok (.iconst 0, 1) := by decide +kernel
theorem dX6_becomeNew_22 : decode cX6_becomeNew 22 = .ok (.putfield 50, 3) := by decide +kernel
theorem dX6_becomeNew_25 : decode cX6_becomeNew 25 = .ok (.aload_n 0, 1) := by decide +kernel
theorem dX6_becomeNew_26 : decode cX6_becomeNew 26 = .ok (.getfield 9, 3) := by decide +kernel
theorem dX6_becomeNew_29 : decode cX6_becomeNew 29 = .ok (.iconst 0, 1) := by decide +kernel
theorem dX6_becomeNew_30 : decode cX6_becomeNew 30 = .ok (.invokestatic 53, 3) := by decide +kernel
theorem dX6_becomeNew_33 : decode cX6_becomeNew 33 = .ok (.return_, 1) := by decide +kernel
theorem dX6_takeFrom_0 : decode cX6_takeFrom 0 = .ok (.aload_n 0, 1) := by decide +kernel
theorem dX6_takeFrom_1 : decode cX6_takeFrom 1 = .ok (.aload_n 1, 1) := by decide +kernel
theorem dX6_takeFrom_2 : decode cX6_takeFrom 2 = .ok (.getfield 37, 3) := by decide +kernel
theorem dX6_takeFrom_5 : decode cX6_takeFrom 5 = .ok (.putfield 37, 3) := by decide +kernel
theorem dX6_takeFrom_8 : decode cX6_takeFrom 8 = .ok (.aload_n 0, 1) := by decide +kernel
theorem dX6_takeFrom_9 : decode cX6_takeFrom 9 = .ok (.aload_n 1, 1) := by decide +kernel
theorem dX6_takeFrom_10 : decode cX6_takeFrom 10 = .ok (.getfield 41, 3) := by decide +kernel
theorem dX6_takeFrom_13 : decode cX6_takeFrom 13 = .ok (.putfield 41, 3) := by decide +kernel
theorem dX6_takeFrom_16 : decode cX6_takeFrom 16 = .ok (.aload_n 0, 1) := by decide +kernel
theorem dX6_takeFrom_17 : decode cX6_takeFrom 17 = .ok (.aload_n 1, 1) := by decide +kernel
theorem dX6_takeFrom_18 : decode cX6_takeFrom 18 = .ok (.getfield 44, 3) := by decide +kernel
theorem dX6_takeFrom_21 : decode cX6_takeFrom 21 = .ok (.putfield 44, 3) := by decide +kernel
theorem dX6_takeFrom_24 : decode cX6_takeFrom 24 = .ok (.aload_n 0, 1) := by decide +kernel
theorem dX6_takeFrom_25 : decode cX6_takeFrom 25 = .ok (.aload_n 1, 1) := by decide +kernel
theorem dX6_takeFrom_26 : decode cX6_takeFrom 26 = .ok (.getfield 47, 3) := by decide +kernel
theorem dX6_takeFrom_29 : decode cX6_takeFrom 29 = .ok (.putfield 47, 3) := by decide +kernel
theorem dX6_takeFrom_32 : decode cX6_takeFrom 32 = .ok (.aload_n 0, 1) := by decide +kernel
theorem dX6_takeFrom_33 : decode cX6_takeFrom 33 = .ok (.aload_n 1, 1) := by decide +kernel
theorem dX6_takeFrom_34 : decode cX6_takeFrom 34 = .ok (.getfield 50, 3) := by decide +kernel
theorem dX6_takeFrom_37 : decode cX6_takeFrom 37 = .ok (.putfield 50, 3) := by decide +kernel
theorem dX6_takeFrom_40 : decode cX6_takeFrom 40 = .ok (.aload_n 1, 1) := by decide +kernel
theorem dX6_takeFrom_41 : decode cX6_takeFrom 41 = .ok (.getfield 9, 3) := by decide +kernel
theorem dX6_takeFrom_44 : decode cX6_takeFrom 44 = .ok (.iconst 0, 1) := by decide +kernel
theorem dX6_takeFrom_45 : decode cX6_takeFrom 45 = .ok (.aload_n 0, 1) := by decide +kernel
theorem dX6_takeFrom_46 : decode cX6_takeFrom 46 = .ok (.getfield 9, 3) := by decide +kernel
theorem dX6_takeFrom_49 : decode cX6_takeFrom 49 = .ok (.iconst 0, 1) := by decide +kernel
theorem dX6_takeFrom_50 : decode cX6_takeFrom 50 = .ok (.bipush 8, 2) := by decide +kernel
theorem dX6_takeFrom_52 : decode cX6_takeFrom 52 = .ok (.invokestatic 59, 3) := by decide +kernel
theorem dX6_takeFrom_55 : decode cX6_takeFrom 55 = .ok (.aload_n 1, 1) := by decide +kernel
theorem dX6_takeFrom_56 : decode cX6_takeFrom 56 = .ok (.getfield 15, 3) := by decide +kernel
theorem dX6_takeFrom_59 : decode cX6_takeFrom 59 = .ok (.iconst 0, 1) := by decide +kernel
theorem dX6_takeFrom_60 : decode cX6_takeFrom 60 = .ok (.aload_n 0, 1) := by decide +kernel
theorem dX6_takeFrom_61 : decode cX6_takeFrom 61 = .ok (.getfield 15, 3) := by decide +kernel
theorem dX6_takeFrom_64 : decode cX6_takeFrom 64 = .ok (.iconst 0, 1) := by decide +kernel
theorem dX6_takeFrom_65 : decode cX6_takeFrom 65 = .ok (.bipush 12, 2) := by decide +kernel
theorem dX6_takeFrom_67 : decode cX6_takeFrom 67 = .ok (.invokestatic 59, 3) := by decide +kernel
theorem dX6_takeFrom_70 : decode cX6_takeFrom 70 = .ok (.aload_n 1, 1) := by decide +kernel
theorem dX6_takeFrom_71 : decode cX6_takeFrom 71 = .ok (.getfield 18, 3) := by decide +kernel
theorem dX6_takeFrom_74 : decode cX6_takeFrom 74 = .ok (.iconst 0, 1) := by decide +kernel
theorem dX6_takeFrom_75 : decode cX6_takeFrom 75 = .ok (.aload_n 0, 1) := by decide +kernel
theorem dX6_takeFrom_76 : decode cX6_takeFrom 76 = .ok (.getfield 18, 3) := by decide +kernel
theorem dX6_takeFrom_79 : decode cX6_takeFrom 79 = .ok (.iconst 0, 1) := by decide +kernel
theorem dX6_takeFrom_80 : decode cX6_takeFrom 80 = .ok (.bipush 12, 2) := by decide +kernel
theorem dX6_takeFrom_82 : decode cX6_takeFrom 82 = .ok (.invokestatic 59, 3) := by decide +kernel
theorem dX6_takeFrom_85 : decode cX6_takeFrom 85 = .ok (.aload_n 1, 1) := by decide +kernel
theorem dX6_takeFrom_86 : decode cX6_takeFrom 86 = .ok (.getfield 21, 3) := by decide +kernel
theorem dX6_takeFrom_89 : decode cX6_takeFrom 89 = .ok (.iconst 0, 1) := by decide +kernel
theorem dX6_takeFrom_90 : decode cX6_takeFrom 90 = .ok (.aload_n 0, 1) := by decide +kernel
theorem dX6_takeFrom_91 : decode cX6_takeFrom 91 = .ok (.getfield 21, 3) := by decide +kernel
theorem dX6_takeFrom_94 : decode cX6_takeFrom 94 = .ok (.iconst 0, 1) := by decide +kernel
theorem dX6_takeFrom_95 : decode cX6_takeFrom 95 = .ok (.bipush 12, 2) := by decide +kernel
theorem dX6_takeFrom_97 : decode cX6_takeFrom 97 = .ok (.invokestatic 59, 3) := by decide +kernel
theorem dX6_takeFrom_100 : decode cX6_takeFrom 100 = .ok (.aload_n 1, 1) := by decide +kernel
theorem dX6_takeFrom_101 : decode cX6_takeFrom 101 = .ok (.getfield 24, 3) := by decide +kernel
theorem dX6_takeFrom_104 : decode cX6_takeFrom 104 = .ok (.iconst 0, 1) := by decide +kernel
theorem dX6_takeFrom_105 : decode cX6_takeFrom 105 = .ok (.aload_n 0, 1) := by decide +kernel
theorem dX6_takeFrom_106 : decode cX6_takeFrom 106 = .ok (.getfield 24, 3) := by decide +kernel
theorem dX6_takeFrom_109 : decode cX6_takeFrom 109 = .ok (.iconst 0, 1) := by decide +kernel
theorem dX6_takeFrom_110 : decode cX6_takeFrom 110 = .ok (.bipush 6, 2) := by decide +kernel
theorem dX6_takeFrom_112 : decode cX6_takeFrom 112 = .ok (.invokestatic 59, 3) := by decide +kernel
theorem dX6_takeFrom_115 : decode cX6_takeFrom 115 = .ok (.aload_n 1, 1) := by decide +kernel
theorem dX6_takeFrom_116 : decode cX6_takeFrom 116 = .ok (.getfield 27, 3) := by decide +kernel
theorem dX6_takeFrom_119 : decode cX6_takeFrom 119 = .ok (.iconst 0, 1) := by decide +kernel
theorem dX6_takeFrom_120 : decode cX6_takeFrom 120 = .ok (.aload_n 0, 1) := by decide +kernel
theorem dX6_takeFrom_121 : decode cX6_takeFrom 121 = .ok (.getfield 27, 3) := by decide +kernel
theorem dX6_takeFrom_124 : decode cX6_takeFrom 124 = .ok (.iconst 0, 1) := by decide +kernel
theorem dX6_takeFrom_125 : decode cX6_takeFrom 125 = .ok (.bipush 6, 2) := by decide +kernel
theorem dX6_takeFrom_127 : decode cX6_takeFrom 127 = .ok (.invokestatic 59, 3) := by decide +kernel
theorem dX6_takeFrom_130 : decode cX6_takeFrom 130 = .ok (.aload_n 1, 1) := by decide +kernel
theorem dX6_takeFrom_131 : decode cX6_takeFrom 131 = .ok (.getfield 30, 3) := by decide +kernel
theorem dX6_takeFrom_134 : decode cX6_takeFrom 134 = .ok (.iconst 0, 1) := by decide +kernel
theorem dX6_takeFrom_135 : decode cX6_takeFrom 135 = .ok (.aload_n 0, 1) := by decide +kernel
theorem dX6_takeFrom_136 : decode cX6_takeFrom 136 = .ok (.getfield 30, 3) := by decide +kernel
theorem dX6_takeFrom_139 : decode cX6_takeFrom 139 = .ok (.iconst 0, 1) := by decide +kernel
theorem dX6_takeFrom_140 : decode cX6_takeFrom 140 = .ok (.bipush 6, 2) := by decide +kernel
theorem dX6_takeFrom_142 : decode cX6_takeFrom 142 = .ok (.invokestatic 59, 3) := by decide +kernel
theorem dX6_takeFrom_145 : decode cX6_takeFrom 145 = .ok (.return_, 1) := by decide +kernel
theorem dX6_addTrail_0 : decode cX6_addTrail 0 = .ok (.aload_n 0, 1) := by decide +kernel
theorem dX6_addTrail_1 : decode cX6_addTrail 1 = .ok (.getfield 41, 3) := by decide +kernel
theorem dX6_addTrail_4 : decode cX6_addTrail 4 = .ok (.bipush 12, 2) := by decide +kernel
theorem dX6_addTrail_6 : decode cX6_addTrail 6 = .ok (.if_icmp .lt 4, 3) := by decide +kernel
theorem dX6_addTrail_9 : decode cX6_addTrail 9 = .ok (.return_, 1) := by decide +kernel
theorem dX6_addTrail_10 : decode cX6_addTrail 10 = .ok (.aload_n 0, 1) := by decide +kernel
theorem dX6_addTrail_11 : decode cX6_addTrail 11 = .ok (.getfield 15, 3) := by decide +kernel
theorem dX6_addTrail_14 : decode cX6_addTrail 14 = .ok (.aload_n 0, 1) := by decide +kernel
theorem dX6_addTrail_15 : decode cX6_addTrail 15 = .ok (.getfield 41, 3) := by decide +kernel
theorem dX6_addTrail_18 : decode cX6_addTrail 18 = .ok (.iload_n 1, 1) := by decide +kernel
theorem dX6_addTrail_19 : decode cX6_addTrail 19 = .ok (.iastore, 1) := by decide +kernel
theorem dX6_addTrail_20 : decode cX6_addTrail 20 = .ok (.aload_n 0, 1) := by decide +kernel
theorem dX6_addTrail_21 : decode cX6_addTrail 21 = .ok (.getfield 18, 3) := by decide +kernel
theorem dX6_addTrail_24 : decode cX6_addTrail 24 = .ok (.aload_n 0, 1) := by decide +kernel
theorem dX6_addTrail_25 : decode cX6_addTrail 25 = .ok (.getfield 41, 3) := by decide +kernel
theorem dX6_addTrail_28 : decode cX6_addTrail 28 = .ok (.iload_n 2, 1) := by decide +kernel
theorem dX6_addTrail_29 : decode cX6_addTrail 29 = .ok (.iastore, 1) := by decide +kernel
theorem dX6_addTrail_30 : decode cX6_addTrail 30 = .ok (.aload_n 0, 1) := by decide +kernel
theorem dX6_addTrail_31 : decode cX6_addTrail 31 = .ok (.getfield 21, 3) := by decide +kernel
theorem dX6_addTrail_34 : decode cX6_addTrail 34 = .ok (.aload_n 0, 1) := by decide +kernel
theorem dX6_addTrail_35 : decode cX6_addTrail 35 = .ok (.getfield 41, 3) := by decide +kernel
theorem dX6_addTrail_38 : decode cX6_addTrail 38 = .ok (.iload_n 3, 1) := by decide +kernel
theorem dX6_addTrail_39 : decode cX6_addTrail 39 = .ok (.iastore, 1) := by decide +kernel
theorem dX6_addTrail_40 : decode cX6_addTrail 40 = .ok (.aload_n 0, 1) := by decide +kernel
theorem dX6_addTrail_41 : decode cX6_addTrail 41 = .ok (.dup, 1) := by decide +kernel
theorem dX6_addTrail_42 : decode cX6_addTrail 42 = .ok (.getfield 41, 3) := by decide +kernel
theorem dX6_addTrail_45 : decode cX6_addTrail 45 = .ok (.iconst 1, 1) := by decide +kernel
theorem dX6_addTrail_46 : decode cX6_addTrail 46 = .ok (.iadd, 1) := by decide +kernel
theorem dX6_addTrail_47 : decode cX6_addTrail 47 = .ok (.putfield 41, 3) := by decide +kernel
theorem dX6_addTrail_50 : decode cX6_addTrail 50 = .ok (.return_, 1) := by decide +kernel
theorem dX6_addFile_0 : decode cX6_addFile 0 = .ok (.aload_n 0, 1) := by decide +kernel
theorem dX6_addFile_1 : decode cX6_addFile 1 = .ok (.getfield 44, 3) := by decide +kernel
theorem dX6_addFile_4 : decode cX6_addFile 4 = .ok (.bipush 6, 2) := by decide +kernel
theorem dX6_addFile_6 : decode cX6_addFile 6 = .ok (.if_icmp .lt 4, 3) := by decide +kernel
theorem dX6_addFile_9 : decode cX6_addFile 9 = .ok (.return_, 1) := by decide +kernel
theorem dX6_addFile_10 : decode cX6_addFile 10 = .ok (.aload_n 0, 1) := by decide +kernel
theorem dX6_addFile_11 : decode cX6_addFile 11 = .ok (.getfield 24, 3) := by decide +kernel
theorem dX6_addFile_14 : decode cX6_addFile 14 = .ok (.aload_n 0, 1) := by decide +kernel
theorem dX6_addFile_15 : decode cX6_addFile 15 = .ok (.getfield 44, 3) := by decide +kernel
theorem dX6_addFile_18 : decode cX6_addFile 18 = .ok (.iload_n 1, 1) := by decide +kernel
theorem dX6_addFile_19 : decode cX6_addFile 19 = .ok (.iastore, 1) := by decide +kernel
theorem dX6_addFile_20 : decode cX6_addFile 20 = .ok (.aload_n 0, 1) := by decide +kernel
theorem dX6_addFile_21 : decode cX6_addFile 21 = .ok (.getfield 27, 3) := by decide +kernel
theorem dX6_addFile_24 : decode cX6_addFile 24 = .ok (.aload_n 0, 1) := by decide +kernel
theorem dX6_addFile_25 : decode cX6_addFile 25 = .ok (.getfield 44, 3) := by decide +kernel
theorem dX6_addFile_28 : decode cX6_addFile 28 = .ok (.iload_n 2, 1) := by decide +kernel
theorem dX6_addFile_29 : decode cX6_addFile 29 = .ok (.iastore, 1) := by decide +kernel
theorem dX6_addFile_30 : decode cX6_addFile 30 = .ok (.aload_n 0, 1) := by decide +kernel
theorem dX6_addFile_31 : decode cX6_addFile 31 = .ok (.getfield 30, 3) := by decide +kernel
theorem dX6_addFile_34 : decode cX6_addFile 34 = .ok (.aload_n 0, 1) := by decide +kernel
theorem dX6_addFile_35 : decode cX6_addFile 35 = .ok (.getfield 44, 3) := by decide +kernel
theorem dX6_addFile_38 : decode cX6_addFile 38 = .ok (.iload_n 3, 1) := by decide +kernel
theorem dX6_addFile_39 : decode cX6_addFile 39 = .ok (.iastore, 1) := by decide +kernel
theorem dX6_addFile_40 : decode cX6_addFile 40 = .ok (.aload_n 0, 1) := by decide +kernel
theorem dX6_addFile_41 : decode cX6_addFile 41 = .ok (.dup, 1) := by decide +kernel
theorem dX6_addFile_42 : decode cX6_addFile 42 = .ok (.getfield 44, 3) := by decide +kernel
theorem dX6_addFile_45 : decode cX6_addFile 45 = .ok (.iconst 1, 1) := by decide +kernel
theorem dX6_addFile_46 : decode cX6_addFile 46 = .ok (.iadd, 1) := by decide +kernel
theorem dX6_addFile_47 : decode cX6_addFile 47 = .ok (.putfield 44, 3) := by decide +kernel
theorem dX6_addFile_50 : decode cX6_addFile 50 = .ok (.return_, 1) := by decide +kernel
theorem dX6_isOf_0 : decode cX6_isOf 0 = .ok (.aload_n 0, 1) := by decide +kernel
theorem dX6_isOf_1 : decode cX6_isOf 1 = .ok (.getfield 15, 3) := by decide +kernel
theorem dX6_isOf_4 : decode cX6_isOf 4 = .ok (.iload_n 1, 1) := by decide +kernel
theorem dX6_isOf_5 : decode cX6_isOf 5 = .ok (.iaload, 1) := by decide +kernel
theorem dX6_isOf_6 : decode cX6_isOf 6 = .ok (.iload_n 2, 1) := by decide +kernel
theorem dX6_isOf_7 : decode cX6_isOf 7 = .ok (.if_icmp .eq 13, 3) := by decide +kernel
theorem dX6_isOf_10 : decode cX6_isOf 10 = .ok (.aload_n 0, 1) := by decide +kernel
theorem dX6_isOf_11 : decode cX6_isOf 11 = .ok (.getfield 18, 3) := by decide +kernel
theorem dX6_isOf_14 : decode cX6_isOf 14 = .ok (.iload_n 1, 1) := by decide +kernel
theorem dX6_isOf_15 : decode cX6_isOf 15 = .ok (.iaload, 1) := by decide +kernel
theorem dX6_isOf_16 : decode cX6_isOf 16 = .ok (.iload_n 2, 1) := by decide +kernel
theorem dX6_isOf_17 : decode cX6_isOf 17 = .ok (.if_icmp .ne 7, 3) := by decide +kernel
theorem dX6_isOf_20 : decode cX6_isOf 20 = .ok (.iconst 1, 1) := by decide +kernel
theorem dX6_isOf_21 : decode cX6_isOf 21 = .ok (.goto 4, 3) := by decide +kernel
theorem dX6_isOf_24 : decode cX6_isOf 24 = .ok (.iconst 0, 1) := by decide +kernel
theorem dX6_isOf_25 : decode cX6_isOf 25 = .ok (.ireturn, 1) := by decide +kernel
theorem dX6_trailsOf_0 : decode cX6_trailsOf 0 = .ok (.iconst 0, 1) := by decide +kernel
theorem dX6_trailsOf_1 : decode cX6_trailsOf 1 = .ok (.istore_n 2, 1) := by decide +kernel
theorem dX6_trailsOf_2 : decode cX6_trailsOf 2 = .ok (.iconst 0, 1) := by decide +kernel
theorem dX6_trailsOf_3 : decode cX6_trailsOf 3 = .ok (.istore_n 3, 1) := by decide +kernel
theorem dX6_trailsOf_4 : decode cX6_trailsOf 4 = .ok (.iload_n 3, 1) := by decide +kernel
theorem dX6_trailsOf_5 : decode cX6_trailsOf 5 = .ok (.aload_n 0, 1) := by decide +kernel
theorem dX6_trailsOf_6 : decode cX6_trailsOf 6 = .ok (.getfield 41, 3) := by decide +kernel
theorem dX6_trailsOf_9 : decode cX6_trailsOf 9 = .ok (.if_icmp .ge 21, 3) := by decide +kernel
theorem dX6_trailsOf_12 : decode cX6_trailsOf 12 = .ok (.aload_n 0, 1) := by decide +kernel
theorem dX6_trailsOf_13 : decode cX6_trailsOf 13 = .ok (.iload_n 3, 1) := by decide +kernel
theorem dX6_trailsOf_14 : decode cX6_trailsOf 14 = .ok (.iload_n 1, 1) := by decide +kernel
theorem dX6_trailsOf_15 : decode cX6_trailsOf 15 = .ok (.invokevirtual 65, 3) := by decide +kernel
theorem dX6_trailsOf_18 : decode cX6_trailsOf 18 = .ok (.ifCond .eq 6, 3) := by decide +kernel
theorem dX6_trailsOf_21 : decode cX6_trailsOf 21 = .ok (.iinc 2 1, 3) := by decide +kernel
theorem dX6_trailsOf_24 : decode cX6_trailsOf 24 = .ok (.iinc 3 1, 3) := by decide +kernel
theorem dX6_trailsOf_27 : decode cX6_trailsOf 27 = .ok (.goto (-23), 3) := by decide +kernel
theorem dX6_trailsOf_30 : decode cX6_trailsOf 30 = .ok (.iload_n 2, 1) := by decide +kernel
theorem dX6_trailsOf_31 : decode cX6_trailsOf 31 = .ok (.ireturn, 1) := by decide +kernel
theorem dX6_across_0 : decode cX6_across 0 = .ok (.aload_n 0, 1) := by decide +kernel
theorem dX6_across_1 : decode cX6_across 1 = .ok (.getfield 15, 3) := by decide +kernel
theorem dX6_across_4 : decode cX6_across 4 = .ok (.iload_n 1, 1) := by decide +kernel
theorem dX6_across_5 : decode cX6_across 5 = .ok (.iaload, 1) := by decide +kernel
theorem dX6_across_6 : decode cX6_across 6 = .ok (.iload_n 2, 1) := by decide +kernel
theorem dX6_across_7 : decode cX6_across 7 = .ok (.if_icmp .ne 12, 3) := by decide +kernel
theorem dX6_across_10 : decode cX6_across 10 = .ok (.aload_n 0, 1) := by decide +kernel
theorem dX6_across_11 : decode cX6_across 11 = .ok (.getfield 18, 3) := by decide +kernel
theorem dX6_across_14 : decode cX6_across 14 = .ok (.iload_n 1, 1) := by decide +kernel
theorem dX6_across_15 : decode cX6_across 15 = .ok (.iaload, 1) := by decide +kernel
theorem dX6_across_16 : decode cX6_across 16 = .ok (.goto 9, 3) := by decide +kernel
theorem dX6_across_19 : decode cX6_across 19 = .ok (.aload_n 0, 1) := by decide +kernel
theorem dX6_across_20 : decode cX6_across 20 = .ok (.getfield 15, 3) := by decide +kernel
theorem dX6_across_23 : decode cX6_across 23 = .ok (.iload_n 1, 1) := by decide +kernel
theorem dX6_across_24 : decode cX6_across 24 = .ok (.iaload, 1) := by decide +kernel
theorem dX6_across_25 : decode cX6_across 25 = .ok (.ireturn, 1) := by decide +kernel
theorem dX6_isA_0 : decode cX6_isA 0 = .ok (.iload_n 2, 1) := by decide +kernel
theorem dX6_isA_1 : decode cX6_isA 1 = .ok (.tableswitch 101 0 4 #[35, 37, 53, 69, 85], 35) := by decide +kernel
theorem dX6_isA_36 : decode cX6_isA 36 = .ok (.iconst 1, 1) := by decide +kernel
theorem dX6_isA_37 : decode cX6_isA 37 = .ok (.ireturn, 1) := by decide +kernel
theorem dX6_isA_38 : decode cX6_isA 38 = .ok (.aload_n 0, 1) := by decide +kernel
theorem dX6_isA_39 : decode cX6_isA 39 = .ok (.getfield 9, 3) := by decide +kernel
theorem dX6_isA_42 : decode cX6_isA 42 = .ok (.iload_n 1, 1) := by decide +kernel
theorem dX6_isA_43 : decode cX6_isA 43 = .ok (.iaload, 1) := by decide +kernel
theorem dX6_isA_44 : decode cX6_isA 44 = .ok (.iconst 3, 1) := by decide +kernel
theorem dX6_isA_45 : decode cX6_isA 45 = .ok (.if_icmp .eq 7, 3) := by decide +kernel
theorem dX6_isA_48 : decode cX6_isA 48 = .ok (.iconst 1, 1) := by decide +kernel
theorem dX6_isA_49 : decode cX6_isA 49 = .ok (.goto 4, 3) := by decide +kernel
theorem dX6_isA_52 : decode cX6_isA 52 = .ok (.iconst 0, 1) := by decide +kernel
theorem dX6_isA_53 : decode cX6_isA 53 = .ok (.ireturn, 1) := by decide +kernel
theorem dX6_isA_54 : decode cX6_isA 54 = .ok (.aload_n 0, 1) := by decide +kernel
theorem dX6_isA_55 : decode cX6_isA 55 = .ok (.getfield 9, 3) := by decide +kernel
theorem dX6_isA_58 : decode cX6_isA 58 = .ok (.iload_n 1, 1) := by decide +kernel
theorem dX6_isA_59 : decode cX6_isA 59 = .ok (.iaload, 1) := by decide +kernel
theorem dX6_isA_60 : decode cX6_isA 60 = .ok (.iconst 1, 1) := by decide +kernel
theorem dX6_isA_61 : decode cX6_isA 61 = .ok (.if_icmp .ne 7, 3) := by decide +kernel
theorem dX6_isA_64 : decode cX6_isA 64 = .ok (.iconst 1, 1) := by decide +kernel
theorem dX6_isA_65 : decode cX6_isA 65 = .ok (.goto 4, 3) := by decide +kernel
theorem dX6_isA_68 : decode cX6_isA 68 = .ok (.iconst 0, 1) := by decide +kernel
theorem dX6_isA_69 : decode cX6_isA 69 = .ok (.ireturn, 1) := by decide +kernel
theorem dX6_isA_70 : decode cX6_isA 70 = .ok (.aload_n 0, 1) := by decide +kernel
theorem dX6_isA_71 : decode cX6_isA 71 = .ok (.getfield 9, 3) := by decide +kernel
theorem dX6_isA_74 : decode cX6_isA 74 = .ok (.iload_n 1, 1) := by decide +kernel
theorem dX6_isA_75 : decode cX6_isA 75 = .ok (.iaload, 1) := by decide +kernel
theorem dX6_isA_76 : decode cX6_isA 76 = .ok (.iconst 2, 1) := by decide +kernel
theorem dX6_isA_77 : decode cX6_isA 77 = .ok (.if_icmp .ne 7, 3) := by decide +kernel
theorem dX6_isA_80 : decode cX6_isA 80 = .ok (.iconst 1, 1) := by decide +kernel
theorem dX6_isA_81 : decode cX6_isA 81 = .ok (.goto 4, 3) := by decide +kernel
theorem dX6_isA_84 : decode cX6_isA 84 = .ok (.iconst 0, 1) := by decide +kernel
theorem dX6_isA_85 : decode cX6_isA 85 = .ok (.ireturn, 1) := by decide +kernel
theorem dX6_isA_86 : decode cX6_isA 86 = .ok (.aload_n 0, 1) := by decide +kernel
theorem dX6_isA_87 : decode cX6_isA 87 = .ok (.getfield 9, 3) := by decide +kernel
theorem dX6_isA_90 : decode cX6_isA 90 = .ok (.iload_n 1, 1) := by decide +kernel
theorem dX6_isA_91 : decode cX6_isA 91 = .ok (.iaload, 1) := by decide +kernel
theorem dX6_isA_92 : decode cX6_isA 92 = .ok (.iconst 3, 1) := by decide +kernel
theorem dX6_isA_93 : decode cX6_isA 93 = .ok (.if_icmp .ne 7, 3) := by decide +kernel
theorem dX6_isA_96 : decode cX6_isA 96 = .ok (.iconst 1, 1) := by decide +kernel
theorem dX6_isA_97 : decode cX6_isA 97 = .ok (.goto 4, 3) := by decide +kernel
theorem dX6_isA_100 : decode cX6_isA 100 = .ok (.iconst 0, 1) := by decide +kernel
theorem dX6_isA_101 : decode cX6_isA 101 = .ok (.ireturn, 1) := by decide +kernel
theorem dX6_isA_102 : decode cX6_isA 102 = .ok (.iconst 0, 1) := by decide +kernel
theorem dX6_isA_103 : decode cX6_isA 103 = .ok (.ireturn, 1) := by decide +kernel
theorem dX6_sweetnessBehind_0 : decode cX6_sweetnessBehind 0 = .ok (.aload_n 0, 1) := by decide +kernel
theorem dX6_sweetnessBehind_1 : decode cX6_sweetnessBehind 1 = .ok (.getfield 9, 3) := by decide +kernel
theorem dX6_sweetnessBehind_4 : decode cX6_sweetnessBehind 4 = .ok (.iload_n 1, 1) := by decide +kernel
theorem dX6_sweetnessBehind_5 : decode cX6_sweetnessBehind 5 = .ok (.iaload, 1) := by decide +kernel
theorem dX6_sweetnessBehind_6 : decode cX6_sweetnessBehind 6 = .ok (.lookupswitch 43 #[(1, 26), (2, 34)], 26) := by decide +kernel
theorem dX6_sweetnessBehind_32 : decode cX6_sweetnessBehind 32 = .ok (.iconst 0, 1) := by decide +kernel
theorem dX6_sweetnessBehind_33 : decode cX6_sweetnessBehind 33 = .ok (.iload_n 2, 1) := by decide +kernel
theorem dX6_sweetnessBehind_34 : decode cX6_sweetnessBehind 34 = .ok (.iconst 1, 1) := by decide +kernel
theorem dX6_sweetnessBehind_35 : decode cX6_sweetnessBehind 35 = .ok (.isub, 1) := by decide +kernel
theorem dX6_sweetnessBehind_36 : decode cX6_sweetnessBehind 36 = .ok (.invokestatic 69, 3) := by decide +kernel
theorem dX6_sweetnessBehind_39 : decode cX6_sweetnessBehind 39 = .ok (.ireturn, 1) := by decide +kernel
theorem dX6_sweetnessBehind_40 : decode cX6_sweetnessBehind 40 = .ok (.bipush 9, 2) := by decide +kernel
theorem dX6_sweetnessBehind_42 : decode cX6_sweetnessBehind 42 = .ok (.iload_n 2, 1) := by decide +kernel
theorem dX6_sweetnessBehind_43 : decode cX6_sweetnessBehind 43 = .ok (.iconst 1, 1) := by decide +kernel
theorem dX6_sweetnessBehind_44 : decode cX6_sweetnessBehind 44 = .ok (.iadd, 1) := by decide +kernel
theorem dX6_sweetnessBehind_45 : decode cX6_sweetnessBehind 45 = .ok (.invokestatic 75, 3) := by decide +kernel
theorem dX6_sweetnessBehind_48 : decode cX6_sweetnessBehind 48 = .ok (.ireturn, 1) := by decide +kernel
theorem dX6_sweetnessBehind_49 : decode cX6_sweetnessBehind 49 = .ok (.iload_n 2, 1) := by decide +kernel
theorem dX6_sweetnessBehind_50 : decode cX6_sweetnessBehind 50 = .ok (.ireturn, 1) := by decide +kernel
theorem dJ6_bitCount_0f7a4_0 : decode cJ6_bitCount_0f7a4 0 = .ok (.iload_n 0, 1) := by decide +kernel
theorem dJ6_bitCount_0f7a4_1 : decode cJ6_bitCount_0f7a4 1 = .ok (.iload_n 0, 1) := by decide +kernel
theorem dJ6_bitCount_0f7a4_2 : decode cJ6_bitCount_0f7a4 2 = .ok (.iconst 1, 1) := by decide +kernel
theorem dJ6_bitCount_0f7a4_3 : decode cJ6_bitCount_0f7a4 3 = .ok (.iushr, 1) := by decide +kernel
theorem dJ6_bitCount_0f7a4_4 : decode cJ6_bitCount_0f7a4 4 = .ok (.ldc_w 265, 3) := by decide +kernel
theorem dJ6_bitCount_0f7a4_7 : decode cJ6_bitCount_0f7a4 7 = .ok (.iand, 1) := by decide +kernel
theorem dJ6_bitCount_0f7a4_8 : decode cJ6_bitCount_0f7a4 8 = .ok (.isub, 1) := by decide +kernel
theorem dJ6_bitCount_0f7a4_9 : decode cJ6_bitCount_0f7a4 9 = .ok (.istore_n 0, 1) := by decide +kernel
theorem dJ6_bitCount_0f7a4_10 : decode cJ6_bitCount_0f7a4 10 = .ok (.iload_n 0, 1) := by decide +kernel
theorem dJ6_bitCount_0f7a4_11 : decode cJ6_bitCount_0f7a4 11 = .ok (.ldc_w 266, 3) := by decide +kernel
theorem dJ6_bitCount_0f7a4_14 : decode cJ6_bitCount_0f7a4 14 = .ok (.iand, 1) := by decide +kernel
theorem dJ6_bitCount_0f7a4_15 : decode cJ6_bitCount_0f7a4 15 = .ok (.iload_n 0, 1) := by decide +kernel
theorem dJ6_bitCount_0f7a4_16 : decode cJ6_bitCount_0f7a4 16 = .ok (.iconst 2, 1) := by decide +kernel
theorem dJ6_bitCount_0f7a4_17 : decode cJ6_bitCount_0f7a4 17 = .ok (.iushr, 1) := by decide +kernel
theorem dJ6_bitCount_0f7a4_18 : decode cJ6_bitCount_0f7a4 18 = .ok (.ldc_w 266, 3) := by decide +kernel
theorem dJ6_bitCount_0f7a4_21 : decode cJ6_bitCount_0f7a4 21 = .ok (.iand, 1) := by decide +kernel
theorem dJ6_bitCount_0f7a4_22 : decode cJ6_bitCount_0f7a4 22 = .ok (.iadd, 1) := by decide +kernel
theorem dJ6_bitCount_0f7a4_23 : decode cJ6_bitCount_0f7a4 23 = .ok (.istore_n 0, 1) := by decide +kernel
theorem dJ6_bitCount_0f7a4_24 : decode cJ6_bitCount_0f7a4 24 = .ok (.iload_n 0, 1) := by decide +kernel
theorem dJ6_bitCount_0f7a4_25 : decode cJ6_bitCount_0f7a4 25 = .ok (.iload_n 0, 1) := by decide +kernel
theorem dJ6_bitCount_0f7a4_26 : decode cJ6_bitCount_0f7a4 26 = .ok (.iconst 4, 1) := by decide +kernel
theorem dJ6_bitCount_0f7a4_27 : decode cJ6_bitCount_0f7a4 27 = .ok (.iushr, 1) := by decide +kernel
theorem dJ6_bitCount_0f7a4_28 : decode cJ6_bitCount_0f7a4 28 = .ok (.iadd, 1) := by decide +kernel
theorem dJ6_bitCount_0f7a4_29 : decode cJ6_bitCount_0f7a4 29 = .ok (.ldc_w 267, 3) := by decide +kernel
theorem dJ6_bitCount_0f7a4_32 : decode cJ6_bitCount_0f7a4 32 = .ok (.iand, 1) := by decide +kernel
theorem dJ6_bitCount_0f7a4_33 : decode cJ6_bitCount_0f7a4 33 = .ok (.istore_n 0, 1) := by decide +kernel
theorem dJ6_bitCount_0f7a4_34 : decode cJ6_bitCount_0f7a4 34 = .ok (.iload_n 0, 1) := by decide +kernel
theorem dJ6_bitCount_0f7a4_35 : decode cJ6_bitCount_0f7a4 35 = .ok (.iload_n 0, 1) := by decide +kernel
theorem dJ6_bitCount_0f7a4_36 : decode cJ6_bitCount_0f7a4 36 = .ok (.bipush 8, 2) := by decide +kernel
theorem dJ6_bitCount_0f7a4_38 : decode cJ6_bitCount_0f7a4 38 = .ok (.iushr, 1) := by decide +kernel
theorem dJ6_bitCount_0f7a4_39 : decode cJ6_bitCount_0f7a4 39 = .ok (.iadd, 1) := by decide +kernel
theorem dJ6_bitCount_0f7a4_40 : decode cJ6_bitCount_0f7a4 40 = .ok (.istore_n 0, 1) := by decide +kernel
theorem dJ6_bitCount_0f7a4_41 : decode cJ6_bitCount_0f7a4 41 = .ok (.iload_n 0, 1) := by decide +kernel
theorem dJ6_bitCount_0f7a4_42 : decode cJ6_bitCount_0f7a4 42 = .ok (.iload_n 0, 1) := by decide +kernel
theorem dJ6_bitCount_0f7a4_43 : decode cJ6_bitCount_0f7a4 43 = .ok (.bipush 16, 2) := by decide +kernel
theorem dJ6_bitCount_0f7a4_45 : decode cJ6_bitCount_0f7a4 45 = .ok (.iushr, 1) := by decide +kernel
theorem dJ6_bitCount_0f7a4_46 : decode cJ6_bitCount_0f7a4 46 = .ok (.iadd, 1) := by decide +kernel
theorem dJ6_bitCount_0f7a4_47 : decode cJ6_bitCount_0f7a4 47 = .ok (.istore_n 0, 1) := by decide +kernel
theorem dJ6_bitCount_0f7a4_48 : decode cJ6_bitCount_0f7a4 48 = .ok (.iload_n 0, 1) := by decide +kernel
theorem dJ6_bitCount_0f7a4_49 : decode cJ6_bitCount_0f7a4 49 = .ok (.bipush 63, 2) := by decide +kernel
theorem dJ6_bitCount_0f7a4_51 : decode cJ6_bitCount_0f7a4 51 = .ok (.iand, 1) := by decide +kernel
theorem dJ6_bitCount_0f7a4_52 : decode cJ6_bitCount_0f7a4 52 = .ok (.ireturn, 1) := by decide +kernel
theorem dJ9_max_7cf53_0 : decode cJ9_max_7cf53 0 = .ok (.iload_n 0, 1) := by decide +kernel
theorem dJ9_max_7cf53_1 : decode cJ9_max_7cf53 1 = .ok (.iload_n 1, 1) := by decide +kernel
theorem dJ9_max_7cf53_2 : decode cJ9_max_7cf53 2 = .ok (.if_icmp .lt 7, 3) := by decide +kernel
theorem dJ9_max_7cf53_5 : decode cJ9_max_7cf53 5 = .ok (.iload_n 0, 1) := by decide +kernel
theorem dJ9_max_7cf53_6 : decode cJ9_max_7cf53 6 = .ok (.goto 4, 3) := by decide +kernel
theorem dJ9_max_7cf53_9 : decode cJ9_max_7cf53 9 = .ok (.iload_n 1, 1) := by decide +kernel
theorem dJ9_max_7cf53_10 : decode cJ9_max_7cf53 10 = .ok (.ireturn, 1) := by decide +kernel
theorem dJ9_min_7cf53_0 : decode cJ9_min_7cf53 0 = .ok (.iload_n 0, 1) := by decide +kernel
theorem dJ9_min_7cf53_1 : decode cJ9_min_7cf53 1 = .ok (.iload_n 1, 1) := by decide +kernel
theorem dJ9_min_7cf53_2 : decode cJ9_min_7cf53 2 = .ok (.if_icmp .gt 7, 3) := by decide +kernel
theorem dJ9_min_7cf53_5 : decode cJ9_min_7cf53 5 = .ok (.iload_n 0, 1) := by decide +kernel
theorem dJ9_min_7cf53_6 : decode cJ9_min_7cf53 6 = .ok (.goto 4, 3) := by decide +kernel
theorem dJ9_min_7cf53_9 : decode cJ9_min_7cf53 9 = .ok (.iload_n 1, 1) := by decide +kernel
theorem dJ9_min_7cf53_10 : decode cJ9_min_7cf53 10 = .ok (.ireturn, 1) := by decide +kernel
theorem dJ0_length_8abf5_0 : decode cJ0_length_8abf5 0 = .ok (.aload_n 0, 1) := by decide +kernel
theorem dJ0_length_8abf5_1 : decode cJ0_length_8abf5 1 = .ok (.getfield 9, 3) := by decide +kernel
theorem dJ0_length_8abf5_4 : decode cJ0_length_8abf5 4 = .ok (.arraylength, 1) := by decide +kernel
theorem dJ0_length_8abf5_5 : decode cJ0_length_8abf5 5 = .ok (.aload_n 0, 1) := by decide +kernel
theorem dJ0_length_8abf5_6 : decode cJ0_length_8abf5 6 = .ok (.invokevirtual 335, 3) := by decide +kernel
theorem dJ0_length_8abf5_9 : decode cJ0_length_8abf5 9 = .ok (.ishr, 1) := by decide +kernel
theorem dJ0_length_8abf5_10 : decode cJ0_length_8abf5 10 = .ok (.ireturn, 1) := by decide +kernel
theorem dJ0_charAt_5068e_0 : decode cJ0_charAt_5068e 0 = .ok (.aload_n 0, 1) := by decide +kernel
theorem dJ0_charAt_5068e_1 : decode cJ0_charAt_5068e 1 = .ok (.invokevirtual 492, 3) := by decide +kernel
theorem dJ0_charAt_5068e_4 : decode cJ0_charAt_5068e 4 = .ok (.ifCond .eq 12, 3) := by decide +kernel
theorem dJ0_charAt_5068e_7 : decode cJ0_charAt_5068e 7 = .ok (.aload_n 0, 1) := by decide +kernel
theorem dJ0_charAt_5068e_8 : decode cJ0_charAt_5068e 8 = .ok (.getfield 9, 3) := by decide +kernel
theorem dJ0_charAt_5068e_11 : decode cJ0_charAt_5068e 11 = .ok (.iload_n 1, 1) := by decide +kernel
theorem dJ0_charAt_5068e_12 : decode cJ0_charAt_5068e 12 = .ok (.invokestatic 495, 3) := by decide +kernel
theorem dJ0_charAt_5068e_15 : decode cJ0_charAt_5068e 15 = .ok (.ireturn, 1) := by decide +kernel
theorem dJ0_charAt_5068e_16 : decode cJ0_charAt_5068e 16 = .ok (.aload_n 0, 1) := by decide +kernel
theorem dJ0_charAt_5068e_17 : decode cJ0_charAt_5068e 17 = .ok (.getfield 9, 3) := by decide +kernel
theorem dJ0_charAt_5068e_20 : decode cJ0_charAt_5068e 20 = .ok (.iload_n 1, 1) := by decide +kernel
theorem dJ0_charAt_5068e_21 : decode cJ0_charAt_5068e 21 = .ok (.invokestatic 498, 3) := by decide +kernel
theorem dJ0_charAt_5068e_24 : decode cJ0_charAt_5068e 24 = .ok (.ireturn, 1) := by decide +kernel
theorem dJ0_coder_7d493_0 : decode cJ0_coder_7d493 0 = .ok (.getstatic 38, 3) := by decide +kernel
theorem dJ0_coder_7d493_3 : decode cJ0_coder_7d493 3 = .ok (.ifCond .eq 10, 3) := by decide +kernel
theorem dJ0_coder_7d493_6 : decode cJ0_coder_7d493 6 = .ok (.aload_n 0, 1) := by decide +kernel
theorem dJ0_coder_7d493_7 : decode cJ0_coder_7d493 7 = .ok (.getfield 15, 3) := by decide +kernel
theorem dJ0_coder_7d493_10 : decode cJ0_coder_7d493 10 = .ok (.goto 4, 3) := by decide +kernel
theorem dJ0_coder_7d493_13 : decode cJ0_coder_7d493 13 = .ok (.iconst 1, 1) := by decide +kernel
theorem dJ0_coder_7d493_14 : decode cJ0_coder_7d493 14 = .ok (.ireturn, 1) := by decide +kernel
theorem dJ0_isLatin1_aae02_0 : decode cJ0_isLatin1_aae02 0 = .ok (.getstatic 38, 3) := by decide +kernel
theorem dJ0_isLatin1_aae02_3 : decode cJ0_isLatin1_aae02 3 = .ok (.ifCond .eq 14, 3) := by decide +kernel
theorem dJ0_isLatin1_aae02_6 : decode cJ0_isLatin1_aae02 6 = .ok (.aload_n 0, 1) := by decide +kernel
theorem dJ0_isLatin1_aae02_7 : decode cJ0_isLatin1_aae02 7 = .ok (.getfield 15, 3) := by decide +kernel
theorem dJ0_isLatin1_aae02_10 : decode cJ0_isLatin1_aae02 10 = .ok (.ifCond .ne 7, 3) := by decide +kernel
theorem dJ0_isLatin1_aae02_13 : decode cJ0_isLatin1_aae02 13 = .ok (.iconst 1, 1) := by decide +kernel
theorem dJ0_isLatin1_aae02_14 : decode cJ0_isLatin1_aae02 14 = .ok (.goto 4, 3) := by decide +kernel
theorem dJ0_isLatin1_aae02_17 : decode cJ0_isLatin1_aae02 17 = .ok (.iconst 0, 1) := by decide +kernel
theorem dJ0_isLatin1_aae02_18 : decode cJ0_isLatin1_aae02 18 = .ok (.ireturn, 1) := by decide +kernel
theorem dJ0_checkIndex_df160_0 : decode cJ0_checkIndex_df160 0 = .ok (.iload_n 0, 1) := by decide +kernel
theorem dJ0_checkIndex_df160_1 : decode cJ0_checkIndex_df160 1 = .ok (.iload_n 1, 1) := by decide +kernel
theorem dJ0_checkIndex_df160_2 : decode cJ0_checkIndex_df160 2 = .ok (.getstatic 1053, 3) := by decide +kernel
theorem dJ0_checkIndex_df160_5 : decode cJ0_checkIndex_df160 5 = .ok (.invokestatic 1059, 3) := by decide +kernel
theorem dJ0_checkIndex_df160_8 : decode cJ0_checkIndex_df160 8 = .ok (.pop, 1) := by decide +kernel
theorem dJ0_checkIndex_df160_9 : decode cJ0_checkIndex_df160 9 = .ok (.return_, 1) := by decide +kernel
theorem dJ1_charAt_3b067_0 : decode cJ1_charAt_3b067 0 = .ok (.iload_n 1, 1) := by decide +kernel
theorem dJ1_charAt_3b067_1 : decode cJ1_charAt_3b067 1 = .ok (.aload_n 0, 1) := by decide +kernel
theorem dJ1_charAt_3b067_2 : decode cJ1_charAt_3b067 2 = .ok (.arraylength, 1) := by decide +kernel
theorem dJ1_charAt_3b067_3 : decode cJ1_charAt_3b067 3 = .ok (.invokestatic 9, 3) := by decide +kernel
theorem dJ1_charAt_3b067_6 : decode cJ1_charAt_3b067 6 = .ok (.aload_n 0, 1) := by decide +kernel
theorem dJ1_charAt_3b067_7 : decode cJ1_charAt_3b067 7 = .ok (.iload_n 1, 1) := by decide +kernel
theorem dJ1_charAt_3b067_8 : decode cJ1_charAt_3b067 8 = .ok (.baload, 1) := by decide +kernel
theorem dJ1_charAt_3b067_9 : decode cJ1_charAt_3b067 9 = .ok (.sipush 255, 3) := by decide +kernel
theorem dJ1_charAt_3b067_12 : decode cJ1_charAt_3b067 12 = .ok (.iand, 1) := by decide +kernel
theorem dJ1_charAt_3b067_13 : decode cJ1_charAt_3b067 13 = .ok (.i2c, 1) := by decide +kernel
theorem dJ1_charAt_3b067_14 : decode cJ1_charAt_3b067 14 = .ok (.ireturn, 1) := by decide +kernel
theorem dJ2_getChar_3b067_0 : decode cJ2_getChar_3b067 0 = .ok (.getstatic 44, 3) := by decide +kernel
theorem dJ2_getChar_3b067_3 : decode cJ2_getChar_3b067 3 = .ok (.ifCond .ne 25, 3) := by decide +kernel
theorem dJ2_getChar_3b067_6 : decode cJ2_getChar_3b067 6 = .ok (.iload_n 1, 1) := by decide +kernel
theorem dJ2_getChar_3b067_7 : decode cJ2_getChar_3b067 7 = .ok (.ifCond .lt 11, 3) := by decide +kernel
theorem dJ2_getChar_3b067_10 : decode cJ2_getChar_3b067 10 = .ok (.iload_n 1, 1) := by decide +kernel
theorem dJ2_getChar_3b067_11 : decode cJ2_getChar_3b067 11 = .ok (.aload_n 0, 1) := by decide +kernel
theorem dJ2_getChar_3b067_12 : decode cJ2_getChar_3b067 12 = .ok (.invokestatic 48, 3) := by decide +kernel
theorem dJ2_getChar_3b067_15 : decode cJ2_getChar_3b067 15 = .ok (.if_icmp .lt 13, 3) := by decide +kernel
theorem dJ2_getChar_3b067_18 : decode cJ2_getChar_3b067 18 = .ok (.new 52, 3) := by decide +kernel
theorem dJ2_getChar_3b067_21 : decode cJ2_getChar_3b067 21 = .ok (.dup, 1) := by decide +kernel
theorem dJ2_getChar_3b067_22 : decode cJ2_getChar_3b067 22 = .ok (.ldc 54, 2) := by decide +kernel
theorem dJ2_getChar_3b067_24 : decode cJ2_getChar_3b067 24 = .ok (.invokespecial 56, 3) := by decide +kernel
theorem dJ2_getChar_3b067_27 : decode cJ2_getChar_3b067 27 = .ok (.athrow, 1) := by decide +kernel
theorem dJ2_getChar_3b067_28 : decode cJ2_getChar_3b067 28 = .ok (.iload_n 1, 1) := by decide +kernel
theorem dJ2_getChar_3b067_29 : decode cJ2_getChar_3b067 29 = .ok (.iconst 1, 1) := by decide +kernel
theorem dJ2_getChar_3b067_30 : decode cJ2_getChar_3b067 30 = .ok (.ishl, 1) := by decide +kernel
theorem dJ2_getChar_3b067_31 : decode cJ2_getChar_3b067 31 = .ok (.istore_n 1, 1) := by decide +kernel
theorem dJ2_getChar_3b067_32 : decode cJ2_getChar_3b067 32 = .ok (.aload_n 0, 1) := by decide +kernel
theorem dJ2_getChar_3b067_33 : decode cJ2_getChar_3b067 33 = .ok (.iload_n 1, 1) := by decide +kernel
theorem dJ2_getChar_3b067_34 : decode cJ2_getChar_3b067 34 = .ok (.iinc 1 1, 3) := by decide +kernel
theorem dJ2_getChar_3b067_37 : decode cJ2_getChar_3b067 37 = .ok (.baload, 1) := by decide +kernel
theorem dJ2_getChar_3b067_38 : decode cJ2_getChar_3b067 38 = .ok (.sipush 255, 3) := by decide +kernel
theorem dJ2_getChar_3b067_41 : decode cJ2_getChar_3b067 41 = .ok (.iand, 1) := by decide +kernel
theorem dJ2_getChar_3b067_42 : decode cJ2_getChar_3b067 42 = .ok (.getstatic 59, 3) := by decide +kernel
theorem dJ2_getChar_3b067_45 : decode cJ2_getChar_3b067 45 = .ok (.ishl, 1) := by decide +kernel
theorem dJ2_getChar_3b067_46 : decode cJ2_getChar_3b067 46 = .ok (.aload_n 0, 1) := by decide +kernel
theorem dJ2_getChar_3b067_47 : decode cJ2_getChar_3b067 47 = .ok (.iload_n 1, 1) := by decide +kernel
theorem dJ2_getChar_3b067_48 : decode cJ2_getChar_3b067 48 = .ok (.baload, 1) := by decide +kernel
theorem dJ2_getChar_3b067_49 : decode cJ2_getChar_3b067 49 = .ok (.sipush 255, 3) := by decide +kernel
theorem dJ2_getChar_3b067_52 : decode cJ2_getChar_3b067 52 = .ok (.iand, 1) := by decide +kernel
theorem dJ2_getChar_3b067_53 : decode cJ2_getChar_3b067 53 = .ok (.getstatic 63, 3) := by decide +kernel
theorem dJ2_getChar_3b067_56 : decode cJ2_getChar_3b067 56 = .ok (.ishl, 1) := by decide +kernel
theorem dJ2_getChar_3b067_57 : decode cJ2_getChar_3b067 57 = .ok (.ior, 1) := by decide +kernel
theorem dJ2_getChar_3b067_58 : decode cJ2_getChar_3b067 58 = .ok (.i2c, 1) := by decide +kernel
theorem dJ2_getChar_3b067_59 : decode cJ2_getChar_3b067 59 = .ok (.ireturn, 1) := by decide +kernel
theorem dJ2_length_9d52b_0 : decode cJ2_length_9d52b 0 = .ok (.aload_n 0, 1) := by decide +kernel
theorem dJ2_length_9d52b_1 : decode cJ2_length_9d52b 1 = .ok (.arraylength, 1) := by decide +kernel
theorem dJ2_length_9d52b_2 : decode cJ2_length_9d52b 2 = .ok (.iconst 1, 1) := by decide +kernel
theorem dJ2_length_9d52b_3 : decode cJ2_length_9d52b 3 = .ok (.ishr, 1) := by decide +kernel
theorem dJ2_length_9d52b_4 : decode cJ2_length_9d52b 4 = .ok (.ireturn, 1) := by decide +kernel
theorem dJ2_charAt_3b067_0 : decode cJ2_charAt_3b067 0 = .ok (.iload_n 1, 1) := by decide +kernel
theorem dJ2_charAt_3b067_1 : decode cJ2_charAt_3b067 1 = .ok (.aload_n 0, 1) := by decide +kernel
theorem dJ2_charAt_3b067_2 : decode cJ2_charAt_3b067 2 = .ok (.invokestatic 67, 3) := by decide +kernel
theorem dJ2_charAt_3b067_5 : decode cJ2_charAt_3b067 5 = .ok (.aload_n 0, 1) := by decide +kernel
theorem dJ2_charAt_3b067_6 : decode cJ2_charAt_3b067 6 = .ok (.iload_n 1, 1) := by decide +kernel
theorem dJ2_charAt_3b067_7 : decode cJ2_charAt_3b067 7 = .ok (.invokestatic 71, 3) := by decide +kernel
theorem dJ2_charAt_3b067_10 : decode cJ2_charAt_3b067 10 = .ok (.ireturn, 1) := by decide +kernel
theorem dJ2_checkIndex_2214a_0 : decode cJ2_checkIndex_2214a 0 = .ok (.iload_n 0, 1) := by decide +kernel
theorem dJ2_checkIndex_2214a_1 : decode cJ2_checkIndex_2214a 1 = .ok (.aload_n 1, 1) := by decide +kernel
theorem dJ2_checkIndex_2214a_2 : decode cJ2_checkIndex_2214a 2 = .ok (.invokestatic 48, 3) := by decide +kernel
theorem dJ2_checkIndex_2214a_5 : decode cJ2_checkIndex_2214a 5 = .ok (.invokestatic 414, 3) := by decide +kernel
theorem dJ2_checkIndex_2214a_8 : decode cJ2_checkIndex_2214a 8 = .ok (.return_, 1) := by decide +kernel
theorem dJ7_fill_53178_0 : decode cJ7_fill_53178 0 = .ok (.iconst 0, 1) := by decide +kernel
theorem dJ7_fill_53178_1 : decode cJ7_fill_53178 1 = .ok (.istore_n 2, 1) := by decide +kernel
theorem dJ7_fill_53178_2 : decode cJ7_fill_53178 2 = .ok (.aload_n 0, 1) := by decide +kernel
theorem dJ7_fill_53178_3 : decode cJ7_fill_53178 3 = .ok (.arraylength, 1) := by decide +kernel
theorem dJ7_fill_53178_4 : decode cJ7_fill_53178 4 = .ok (.istore_n 3, 1) := by decide +kernel
theorem dJ7_fill_53178_5 : decode cJ7_fill_53178 5 = .ok (.iload_n 2, 1) := by decide +kernel
theorem dJ7_fill_53178_6 : decode cJ7_fill_53178 6 = .ok (.iload_n 3, 1) := by decide +kernel
theorem dJ7_fill_53178_7 : decode cJ7_fill_53178 7 = .ok (.if_icmp .ge 13, 3) := by decide +kernel
theorem dJ7_fill_53178_10 : decode cJ7_fill_53178 10 = .ok (.aload_n 0, 1) := by decide +kernel
theorem dJ7_fill_53178_11 : decode cJ7_fill_53178 11 = .ok (.iload_n 2, 1) := by decide +kernel
theorem dJ7_fill_53178_12 : decode cJ7_fill_53178 12 = .ok (.iload_n 1, 1) := by decide +kernel
theorem dJ7_fill_53178_13 : decode cJ7_fill_53178 13 = .ok (.iastore, 1) := by decide +kernel
theorem dJ7_fill_53178_14 : decode cJ7_fill_53178 14 = .ok (.iinc 2 1, 3) := by decide +kernel
theorem dJ7_fill_53178_17 : decode cJ7_fill_53178 17 = .ok (.goto (-12), 3) := by decide +kernel
theorem dJ7_fill_53178_20 : decode cJ7_fill_53178 20 = .ok (.return_, 1) := by decide +kernel
theorem dJ3_checkIndex_8e157_0 : decode cJ3_checkIndex_8e157 0 = .ok (.iload_n 0, 1) := by decide +kernel
theorem dJ3_checkIndex_8e157_1 : decode cJ3_checkIndex_8e157 1 = .ok (.ifCond .lt 8, 3) := by decide +kernel
theorem dJ3_checkIndex_8e157_4 : decode cJ3_checkIndex_8e157 4 = .ok (.iload_n 0, 1) := by decide +kernel
theorem dJ3_checkIndex_8e157_5 : decode cJ3_checkIndex_8e157 5 = .ok (.iload_n 1, 1) := by decide +kernel
theorem dJ3_checkIndex_8e157_6 : decode cJ3_checkIndex_8e157 6 = .ok (.if_icmp .lt 10, 3) := by decide +kernel
theorem dJ3_checkIndex_8e157_9 : decode cJ3_checkIndex_8e157 9 = .ok (.aload_n 2, 1) := by decide +kernel
theorem dJ3_checkIndex_8e157_10 : decode cJ3_checkIndex_8e157 10 = .ok (.iload_n 0, 1) := by decide +kernel
theorem dJ3_checkIndex_8e157_11 : decode cJ3_checkIndex_8e157 11 = .ok (.iload_n 1, 1) := by decide +kernel
theorem dJ3_checkIndex_8e157_12 : decode cJ3_checkIndex_8e157 12 = .ok (.invokestatic 95, 3) := by decide +kernel
theorem dJ3_checkIndex_8e157_15 : decode cJ3_checkIndex_8e157 15 = .ok (.athrow, 1) := by decide +kernel
theorem dJ3_checkIndex_8e157_16 : decode cJ3_checkIndex_8e157 16 = .ok (.iload_n 0, 1) := by decide +kernel
theorem dJ3_checkIndex_8e157_17 : decode cJ3_checkIndex_8e157 17 = .ok (.ireturn, 1) := by decide +kernel
end
section
theorem dX7_init_0 : decode cX7_init 0 = .ok (.aload_n 0, 1) := by decide +kernel
theorem dX7_init_1 : decode cX7_init 1 = .ok (.invokespecial 1, 3) := by decide +kernel
theorem dX7_init_4 : decode cX7_init 4 = .ok (.aload_n 0, 1) := by decide +kernel
theorem dX7_init_5 : decode cX7_init 5 = .ok (.new 7, 3) := by decide +kernel
theorem dX7_init_8 : decode cX7_init 8 = .ok (.dup, 1) := by decide +kernel
theorem dX7_init_9 : decode cX7_init 9 = .ok (.invokespecial 9, 3) := by decide +kernel
theorem dX7_init_12 : decode cX7_init 12 = .ok (.putfield 10, 3) := by decide +kernel
theorem dX7_init_15 : decode cX7_init 15 = .ok (.aload_n 0, 1) := by decide +kernel
theorem dX7_init_16 : decode cX7_init 16 = .ok (.new 16, 3) := by decide +kernel
theorem dX7_init_19 : decode cX7_init 19 = .ok (.dup, 1) := by decide +kernel
theorem dX7_init_20 : decode cX7_init 20 = .ok (.invokespecial 18, 3) := by decide +kernel
theorem dX7_init_23 : decode cX7_init 23 = .ok (.putfield 19, 3) := by decide +kernel
theorem dX7_init_26 : decode cX7_init 26 = .ok (.aload_n 0, 1) := by decide +kernel
theorem dX7_init_27 : decode cX7_init 27 = .ok (.new 23, 3) := by decide +kernel
theorem dX7_init_30 : decode cX7_init 30 = .ok (.dup, 1) := by decide +kernel
theorem dX7_init_31 : decode cX7_init 31 = .ok (.aload_n 0, 1) := by decide +kernel
theorem dX7_init_32 : decode cX7_init 32 = .ok (.getfield 10, 3) := by decide +kernel
theorem dX7_init_35 : decode cX7_init 35 = .ok (.invokespecial 25, 3) := by decide +kernel
theorem dX7_init_38 : decode cX7_init 38 = .ok (.putfield 28, 3) := by decide +kernel
theorem dX7_init_41 : decode cX7_init 41 = .ok (.aload_n 0, 1) := by decide +kernel
theorem dX7_init_42 : decode cX7_init 42 = .ok (.new 32, 3) := by decide +kernel
theorem dX7_init_45 : decode cX7_init 45 = .ok (.dup, 1) := by decide +kernel
theorem dX7_init_46 : decode cX7_init 46 = .ok (.invokespecial 34, 3) := by decide +kernel
theorem dX7_init_49 : decode cX7_init 49 = .ok (.putfield 35, 3) := by decide +kernel
theorem dX7_init_52 : decode cX7_init 52 = .ok (.aload_n 0, 1) := by decide +kernel
theorem dX7_init_53 : decode cX7_init 53 = .ok (.getfield 35, 3) := by decide +kernel
theorem dX7_init_56 : decode cX7_init 56 = .ok (.aload_n 0, 1) := by decide +kernel
theorem dX7_init_57 : decode cX7_init 57 = .ok (.getfield 19, 3) := by decide +kernel
theorem dX7_init_60 : decode cX7_init 60 = .ok (.invokevirtual 39, 3) := by decide +kernel
theorem dX7_init_63 : decode cX7_init 63 = .ok (.aload_n 0, 1) := by decide +kernel
theorem dX7_init_64 : decode cX7_init 64 = .ok (.iconst 2, 1) := by decide +kernel
theorem dX7_init_65 : decode cX7_init 65 = .ok (.anewarray 32, 3) := by decide +kernel
theorem dX7_init_68 : decode cX7_init 68 = .ok (.putfield 43, 3) := by decide +kernel
theorem dX7_init_71 : decode cX7_init 71 = .ok (.iconst 0, 1) := by decide +kernel
theorem dX7_init_72 : decode cX7_init 72 = .ok (.istore_n 1, 1) := by decide +kernel
theorem dX7_init_73 : decode cX7_init 73 = .ok (.iload_n 1, 1) := by decide +kernel
theorem dX7_init_74 : decode cX7_init 74 = .ok (.iconst 2, 1) := by decide +kernel
theorem dX7_init_75 : decode cX7_init 75 = .ok (.if_icmp .ge 22, 3) := by decide +kernel
theorem dX7_init_78 : decode cX7_init 78 = .ok (.aload_n 0, 1) := by decide +kernel
theorem dX7_init_79 : decode cX7_init 79 = .ok (.getfield 43, 3) := by decide +kernel
theorem dX7_init_82 : decode cX7_init 82 = .ok (.iload_n 1, 1) := by decide +kernel
theorem dX7_init_83 : decode cX7_init 83 = .ok (.new 32, 3) := by decide +kernel
theorem dX7_init_86 : decode cX7_init 86 = .ok (.dup, 1) := by decide +kernel
theorem dX7_init_87 : decode cX7_init 87 = .ok (.invokespecial 34, 3) := by decide +kernel
theorem dX7_init_90 : decode cX7_init 90 = .ok (.aastore, 1) := by decide +kernel
theorem dX7_init_91 : decode cX7_init 91 = .ok (.iinc 1 1, 3) := by decide +kernel
theorem dX7_init_94 : decode cX7_init 94 = .ok (.goto (-21), 3) := by decide +kernel
theorem dX7_init_97 : decode cX7_init 97 = .ok (.aload_n 0, 1) := by decide +kernel
theorem dX7_init_98 : decode cX7_init 98 = .ok (.iconst 2, 1) := by decide +kernel
theorem dX7_init_99 : decode cX7_init 99 = .ok (.newarray .boolean, 2) := by decide +kernel
theorem dX7_init_101 : decode cX7_init 101 = .ok (.putfield 47, 3) := by decide +kernel
theorem dX7_init_104 : decode cX7_init 104 = .ok (.aload_n 0, 1) := by decide +kernel
theorem dX7_init_105 : decode cX7_init 105 = .ok (.new 51, 3) := by decide +kernel
theorem dX7_init_108 : decode cX7_init 108 = .ok (.dup, 1) := by decide +kernel
theorem dX7_init_109 : decode cX7_init 109 = .ok (.aload_n 0, 1) := by decide +kernel
theorem dX7_init_110 : decode cX7_init 110 = .ok (.getfield 19, 3) := by decide +kernel
theorem dX7_init_113 : decode cX7_init 113 = .ok (.aload_n 0, 1) := by decide +kernel
theorem dX7_init_114 : decode cX7_init 114 = .ok (.getfield 35, 3) := by decide +kernel
theorem dX7_init_117 : decode cX7_init 117 = .ok (.invokespecial 53, 3) := by decide +kernel
theorem dX7_init_120 : decode cX7_init 120 = .ok (.putfield 56, 3) := by decide +kernel
theorem dX7_init_123 : decode cX7_init 123 = .ok (.aload_n 0, 1) := by decide +kernel
theorem dX7_init_124 : decode cX7_init 124 = .ok (.new 60, 3) := by decide +kernel
theorem dX7_init_127 : decode cX7_init 127 = .ok (.dup, 1) := by decide +kernel
theorem dX7_init_128 : decode cX7_init 128 = .ok (.invokespecial 62, 3) := by decide +kernel
theorem dX7_init_131 : decode cX7_init 131 = .ok (.putfield 63, 3) := by decide +kernel
theorem dX7_init_134 : decode cX7_init 134 = .ok (.aload_n 0, 1) := by decide +kernel
theorem dX7_init_135 : decode cX7_init 135 = .ok (.new 67, 3) := by decide +kernel
theorem dX7_init_138 : decode cX7_init 138 = .ok (.dup, 1) := by decide +kernel
theorem dX7_init_139 : decode cX7_init 139 = .ok (.invokespecial 69, 3) := by decide +kernel
theorem dX7_init_142 : decode cX7_init 142 = .ok (.putfield 70, 3) := by decide +kernel
theorem dX7_init_145 : decode cX7_init 145 = .ok (.return_, 1) := by decide +kernel
theorem dX7_write_0 : decode cX7_write 0 = .ok (.iload_n 3, 1) := by decide +kernel
theorem dX7_write_1 : decode cX7_write 1 = .ok (.iconst 1, 1) := by decide +kernel
theorem dX7_write_2 : decode cX7_write 2 = .ok (.if_icmp .lt 9, 3) := by decide +kernel
theorem dX7_write_5 : decode cX7_write 5 = .ok (.iload_n 3, 1) := by decide +kernel
theorem dX7_write_6 : decode cX7_write 6 = .ok (.bipush 8, 2) := by decide +kernel
theorem dX7_write_8 : decode cX7_write 8 = .ok (.if_icmp .le 6, 3) := by decide +kernel
theorem dX7_write_11 : decode cX7_write 11 = .ok (.bipush (-3), 2) := by decide +kernel
theorem dX7_write_13 : decode cX7_write 13 = .ok (.ireturn, 1) := by decide +kernel
theorem dX7_write_14 : decode cX7_write 14 = .ok (.aload_n 0, 1) := by decide +kernel
theorem dX7_write_15 : decode cX7_write 15 = .ok (.getfield 10, 3) := by decide +kernel
theorem dX7_write_18 : decode cX7_write 18 = .ok (.getfield 74, 3) := by decide +kernel
theorem dX7_write_21 : decode cX7_write 21 = .ok (.iload_n 3, 1) := by decide +kernel
theorem dX7_write_22 : decode cX7_write 22 = .ok (.iadd, 1) := by decide +kernel
theorem dX7_write_23 : decode cX7_write 23 = .ok (.sipush 200, 3) := by decide +kernel
theorem dX7_write_26 : decode cX7_write 26 = .ok (.if_icmp .le 6, 3) := by decide +kernel
theorem dX7_write_29 : decode cX7_write 29 = .ok (.bipush (-5), 2) := by decide +kernel
theorem dX7_write_31 : decode cX7_write 31 = .ok (.ireturn, 1) := by decide +kernel
theorem dX7_write_32 : decode cX7_write 32 = .ok (.iconst 0, 1) := by decide +kernel
theorem dX7_write_33 : decode cX7_write 33 = .ok (.istore 4, 2) := by decide +kernel
theorem dX7_write_35 : decode cX7_write 35 = .ok (.iload 4, 2) := by decide +kernel
theorem dX7_write_37 : decode cX7_write 37 = .ok (.iload_n 3, 1) := by decide +kernel
theorem dX7_write_38 : decode cX7_write 38 = .ok (.if_icmp .ge 28, 3) := by decide +kernel
theorem dX7_write_41 : decode cX7_write 41 = .ok (.aload_n 0, 1) := by decide +kernel
theorem dX7_write_42 : decode cX7_write 42 = .ok (.getfield 10, 3) := by decide +kernel
theorem dX7_write_45 : decode cX7_write 45 = .ok (.lload_n 1, 1) := by decide +kernel
theorem dX7_write_46 : decode cX7_write 46 = .ok (.bipush 8, 2) := by decide +kernel
theorem dX7_write_48 : decode cX7_write 48 = .ok (.iload 4, 2) := by decide +kernel
theorem dX7_write_50 : decode cX7_write 50 = .ok (.imul, 1) := by decide +kernel
theorem dX7_write_51 : decode cX7_write 51 = .ok (.lshr, 1) := by decide +kernel
theorem dX7_write_52 : decode cX7_write 52 = .ok (.ldc2_w 78, 3) := by decide +kernel
theorem dX7_write_55 : decode cX7_write 55 = .ok (.land, 1) := by decide +kernel
theorem dX7_write_56 : decode cX7_write 56 = .ok (.l2i, 1) := by decide +kernel
theorem dX7_write_57 : decode cX7_write 57 = .ok (.invokevirtual 80, 3) := by decide +kernel
theorem dX7_write_60 : decode cX7_write 60 = .ok (.iinc 4 1, 3) := by decide +kernel
theorem dX7_write_63 : decode cX7_write 63 = .ok (.goto (-28), 3) := by decide +kernel
theorem dX7_write_66 : decode cX7_write 66 = .ok (.aload_n 0, 1) := by decide +kernel
theorem dX7_write_67 : decode cX7_write 67 = .ok (.getfield 10, 3) := by decide +kernel
theorem dX7_write_70 : decode cX7_write 70 = .ok (.getfield 74, 3) := by decide +kernel
theorem dX7_write_73 : decode cX7_write 73 = .ok (.ireturn, 1) := by decide +kernel
theorem dX7_erase_0 : decode cX7_erase 0 = .ok (.aload_n 0, 1) := by decide +kernel
theorem dX7_erase_1 : decode cX7_erase 1 = .ok (.getfield 10, 3) := by decide +kernel
theorem dX7_erase_4 : decode cX7_erase 4 = .ok (.invokevirtual 84, 3) := by decide +kernel
theorem dX7_erase_7 : decode cX7_erase 7 = .ok (.ireturn, 1) := by decide +kernel
theorem dX7_fault_0 : decode cX7_fault 0 = .ok (.aload_n 0, 1) := by decide +kernel
theorem dX7_fault_1 : decode cX7_fault 1 = .ok (.getfield 28, 3) := by decide +kernel
theorem dX7_fault_4 : decode cX7_fault 4 = .ok (.aload_n 0, 1) := by decide +kernel
theorem dX7_fault_5 : decode cX7_fault 5 = .ok (.getfield 19, 3) := by decide +kernel
theorem dX7_fault_8 : decode cX7_fault 8 = .ok (.invokevirtual 88, 3) := by decide +kernel
theorem dX7_fault_11 : decode cX7_fault 11 = .ok (.aload_n 0, 1) := by decide +kernel
theorem dX7_fault_12 : decode cX7_fault 12 = .ok (.getfield 28, 3) := by decide +kernel
theorem dX7_fault_15 : decode cX7_fault 15 = .ok (.getfield 91, 3) := by decide +kernel
theorem dX7_fault_18 : decode cX7_fault 18 = .ok (.ireturn, 1) := by decide +kernel
theorem dX7_office_0 : decode cX7_office 0 = .ok (.aload_n 0, 1) := by decide +kernel
theorem dX7_office_1 : decode cX7_office 1 = .ok (.getfield 28, 3) := by decide +kernel
theorem dX7_office_4 : decode cX7_office 4 = .ok (.aload_n 0, 1) := by decide +kernel
theorem dX7_office_5 : decode cX7_office 5 = .ok (.getfield 19, 3) := by decide +kernel
theorem dX7_office_8 : decode cX7_office 8 = .ok (.invokevirtual 88, 3) := by decide +kernel
theorem dX7_office_11 : decode cX7_office 11 = .ok (.aload_n 0, 1) := by decide +kernel
theorem dX7_office_12 : decode cX7_office 12 = .ok (.getfield 28, 3) := by decide +kernel
theorem dX7_office_15 : decode cX7_office 15 = .ok (.getfield 91, 3) := by decide +kernel
theorem dX7_office_18 : decode cX7_office 18 = .ok (.iconst (-1), 1) := by decide +kernel
theorem dX7_office_19 : decode cX7_office 19 = .ok (.if_icmp .eq 6, 3) := by decide +kernel
theorem dX7_office_22 : decode cX7_office 22 = .ok (.bipush (-4), 2) := by decide +kernel
theorem dX7_office_24 : decode cX7_office 24 = .ok (.ireturn, 1) := by decide +kernel
theorem dX7_office_25 : decode cX7_office 25 = .ok (.aload_n 0, 1) := by decide +kernel
theorem dX7_office_26 : decode cX7_office 26 = .ok (.getfield 19, 3) := by decide +kernel
theorem dX7_office_29 : decode cX7_office 29 = .ok (.aload_n 0, 1) := by decide +kernel
theorem dX7_office_30 : decode cX7_office 30 = .ok (.getfield 28, 3) := by decide +kernel
theorem dX7_office_33 : decode cX7_office 33 = .ok (.getfield 94, 3) := by decide +kernel
theorem dX7_office_36 : decode cX7_office 36 = .ok (.invokevirtual 97, 3) := by decide +kernel
theorem dX7_office_39 : decode cX7_office 39 = .ok (.aload_n 0, 1) := by decide +kernel
theorem dX7_office_40 : decode cX7_office 40 = .ok (.getfield 10, 3) := by decide +kernel
theorem dX7_office_43 : decode cX7_office 43 = .ok (.invokevirtual 84, 3) := by decide +kernel
theorem dX7_office_46 : decode cX7_office 46 = .ok (.pop, 1) := by decide +kernel
theorem dX7_office_47 : decode cX7_office 47 = .ok (.aload_n 0, 1) := by decide +kernel
theorem dX7_office_48 : decode cX7_office 48 = .ok (.getfield 35, 3) := by decide +kernel
theorem dX7_office_51 : decode cX7_office 51 = .ok (.aload_n 0, 1) := by decide +kernel
theorem dX7_office_52 : decode cX7_office 52 = .ok (.getfield 19, 3) := by decide +kernel
theorem dX7_office_55 : decode cX7_office 55 = .ok (.invokevirtual 39, 3) := by decide +kernel
theorem dX7_office_58 : decode cX7_office 58 = .ok (.iconst 0, 1) := by decide +kernel
theorem dX7_office_59 : decode cX7_office 59 = .ok (.istore_n 1, 1) := by decide +kernel
theorem dX7_office_60 : decode cX7_office 60 = .ok (.iload_n 1, 1) := by decide +kernel
theorem dX7_office_61 : decode cX7_office 61 = .ok (.iconst 2, 1) := by decide +kernel
theorem dX7_office_62 : decode cX7_office 62 = .ok (.if_icmp .ge 16, 3) := by decide +kernel
theorem dX7_office_65 : decode cX7_office 65 = .ok (.aload_n 0, 1) := by decide +kernel
theorem dX7_office_66 : decode cX7_office 66 = .ok (.getfield 47, 3) := by decide +kernel
theorem dX7_office_69 : decode cX7_office 69 = .ok (.iload_n 1, 1) := by decide +kernel
theorem dX7_office_70 : decode cX7_office 70 = .ok (.iconst 0, 1) := by decide +kernel
theorem dX7_office_71 : decode cX7_office 71 = .ok (.bastore, 1) := by decide +kernel
theorem dX7_office_72 : decode cX7_office 72 = .ok (.iinc 1 1, 3) := by decide +kernel
theorem dX7_office_75 : decode cX7_office 75 = .ok (.goto (-15), 3) := by decide +kernel
theorem dX7_office_78 : decode cX7_office 78 = .ok (.aload_n 0, 1) := by decide +kernel
theorem dX7_office_79 : decode cX7_office 79 = .ok (.getfield 63, 3) := by decide +kernel
theorem dX7_office_82 : decode cX7_office 82 = .ok (.invokevirtual 100, 3) := by decide +kernel
theorem dX7_office_85 : decode cX7_office 85 = .ok (.pop, 1) := by decide +kernel
theorem dX7_office_86 : decode cX7_office 86 = .ok (.aload_n 0, 1) := by decide +kernel
theorem dX7_office_87 : decode cX7_office 87 = .ok (.getfield 70, 3) := by decide +kernel
theorem dX7_office_90 : decode cX7_office 90 = .ok (.invokevirtual 101, 3) := by decide +kernel
theorem dX7_office_93 : decode cX7_office 93 = .ok (.aload_n 0, 1) := by decide +kernel
theorem dX7_office_94 : decode cX7_office 94 = .ok (.getfield 28, 3) := by decide +kernel
theorem dX7_office_97 : decode cX7_office 97 = .ok (.getfield 103, 3) := by decide +kernel
theorem dX7_office_100 : decode cX7_office 100 = .ok (.ireturn, 1) := by decide +kernel
theorem dX7_desk_0 : decode cX7_desk 0 = .ok (.aload_n 0, 1) := by decide +kernel
theorem dX7_desk_1 : decode cX7_desk 1 = .ok (.iload_n 1, 1) := by decide +kernel
theorem dX7_desk_2 : decode cX7_desk 2 = .ok (.invokevirtual 106, 3) := by decide +kernel
theorem dX7_desk_5 : decode cX7_desk 5 = .ok (.ifCond .ne 6, 3) := by decide +kernel
theorem dX7_desk_8 : decode cX7_desk 8 = .ok (.bipush (-2), 2) := by decide +kernel
theorem dX7_desk_10 : decode cX7_desk 10 = .ok (.ireturn, 1) := by decide +kernel
theorem dX7_desk_11 : decode cX7_desk 11 = .ok (.iload_n 2, 1) := by decide +kernel
theorem dX7_desk_12 : decode cX7_desk 12 = .ok (.tableswitch 63 0 2 #[28, 38, 54], 28) := by decide +kernel
theorem dX7_desk_40 : decode cX7_desk 40 = .ok (.aload_n 0, 1) := by decide +kernel
theorem dX7_desk_41 : decode cX7_desk 41 = .ok (.getfield 19, 3) := by decide +kernel
theorem dX7_desk_44 : decode cX7_desk 44 = .ok (.getfield 110, 3) := by decide +kernel
theorem dX7_desk_47 : decode cX7_desk 47 = .ok (.iload_n 1, 1) := by decide +kernel
theorem dX7_desk_48 : decode cX7_desk 48 = .ok (.iaload, 1) := by decide +kernel
theorem dX7_desk_49 : decode cX7_desk 49 = .ok (.ireturn, 1) := by decide +kernel
theorem dX7_desk_50 : decode cX7_desk 50 = .ok (.aload_n 0, 1) := by decide +kernel
theorem dX7_desk_51 : decode cX7_desk 51 = .ok (.getfield 35, 3) := by decide +kernel
theorem dX7_desk_54 : decode cX7_desk 54 = .ok (.iload_n 1, 1) := by decide +kernel
theorem dX7_desk_55 : decode cX7_desk 55 = .ok (.aload_n 0, 1) := by decide +kernel
theorem dX7_desk_56 : decode cX7_desk 56 = .ok (.getfield 19, 3) := by decide +kernel
theorem dX7_desk_59 : decode cX7_desk 59 = .ok (.getfield 114, 3) := by decide +kernel
theorem dX7_desk_62 : decode cX7_desk 62 = .ok (.invokevirtual 117, 3) := by decide +kernel
theorem dX7_desk_65 : decode cX7_desk 65 = .ok (.ireturn, 1) := by decide +kernel
theorem dX7_desk_66 : decode cX7_desk 66 = .ok (.aload_n 0, 1) := by decide +kernel
theorem dX7_desk_67 : decode cX7_desk 67 = .ok (.getfield 19, 3) := by decide +kernel
theorem dX7_desk_70 : decode cX7_desk 70 = .ok (.iload_n 1, 1) := by decide +kernel
theorem dX7_desk_71 : decode cX7_desk 71 = .ok (.invokevirtual 121, 3) := by decide +kernel
theorem dX7_desk_74 : decode cX7_desk 74 = .ok (.ireturn, 1) := by decide +kernel
theorem dX7_desk_75 : decode cX7_desk 75 = .ok (.bipush (-3), 2) := by decide +kernel
theorem dX7_desk_77 : decode cX7_desk 77 = .ok (.ireturn, 1) := by decide +kernel
theorem dX7_trail_0 : decode cX7_trail 0 = .ok (.aload_n 0, 1) := by decide +kernel
theorem dX7_trail_1 : decode cX7_trail 1 = .ok (.iload_n 1, 1) := by decide +kernel
theorem dX7_trail_2 : decode cX7_trail 2 = .ok (.invokevirtual 125, 3) := by decide +kernel
theorem dX7_trail_5 : decode cX7_trail 5 = .ok (.ifCond .ne 6, 3) := by decide +kernel
theorem dX7_trail_8 : decode cX7_trail 8 = .ok (.bipush (-2), 2) := by decide +kernel
theorem dX7_trail_10 : decode cX7_trail 10 = .ok (.ireturn, 1) := by decide +kernel
theorem dX7_trail_11 : decode cX7_trail 11 = .ok (.iload_n 2, 1) := by decide +kernel
theorem dX7_trail_12 : decode cX7_trail 12 = .ok (.tableswitch 58 0 2 #[28, 38, 48], 28) := by decide +kernel
theorem dX7_trail_40 : decode cX7_trail 40 = .ok (.aload_n 0, 1) := by decide +kernel
theorem dX7_trail_41 : decode cX7_trail 41 = .ok (.getfield 19, 3) := by decide +kernel
theorem dX7_trail_44 : decode cX7_trail 44 = .ok (.getfield 128, 3) := by decide +kernel
theorem dX7_trail_47 : decode cX7_trail 47 = .ok (.iload_n 1, 1) := by decide +kernel
theorem dX7_trail_48 : decode cX7_trail 48 = .ok (.iaload, 1) := by decide +kernel
theorem dX7_trail_49 : decode cX7_trail 49 = .ok (.ireturn, 1) := by decide +kernel
theorem dX7_trail_50 : decode cX7_trail 50 = .ok (.aload_n 0, 1) := by decide +kernel
theorem dX7_trail_51 : decode cX7_trail 51 = .ok (.getfield 19, 3) := by decide +kernel
theorem dX7_trail_54 : decode cX7_trail 54 = .ok (.getfield 131, 3) := by decide +kernel
theorem dX7_trail_57 : decode cX7_trail 57 = .ok (.iload_n 1, 1) := by decide +kernel
theorem dX7_trail_58 : decode cX7_trail 58 = .ok (.iaload, 1) := by decide +kernel
theorem dX7_trail_59 : decode cX7_trail 59 = .ok (.ireturn, 1) := by decide +kernel
theorem dX7_trail_60 : decode cX7_trail 60 = .ok (.aload_n 0, 1) := by decide +kernel
theorem dX7_trail_61 : decode cX7_trail 61 = .ok (.getfield 35, 3) := by decide +kernel
theorem dX7_trail_64 : decode cX7_trail 64 = .ok (.getfield 134, 3) := by decide +kernel
theorem dX7_trail_67 : decode cX7_trail 67 = .ok (.iload_n 1, 1) := by decide +kernel
theorem dX7_trail_68 : decode cX7_trail 68 = .ok (.iaload, 1) := by decide +kernel
theorem dX7_trail_69 : decode cX7_trail 69 = .ok (.ireturn, 1) := by decide +kernel
theorem dX7_trail_70 : decode cX7_trail 70 = .ok (.bipush (-3), 2) := by decide +kernel
theorem dX7_trail_72 : decode cX7_trail 72 = .ok (.ireturn, 1) := by decide +kernel
theorem dX7_file_0 : decode cX7_file 0 = .ok (.aload_n 0, 1) := by decide +kernel
theorem dX7_file_1 : decode cX7_file 1 = .ok (.iload_n 1, 1) := by decide +kernel
theorem dX7_file_2 : decode cX7_file 2 = .ok (.invokevirtual 137, 3) := by decide +kernel
theorem dX7_file_5 : decode cX7_file 5 = .ok (.ifCond .ne 6, 3) := by decide +kernel
theorem dX7_file_8 : decode cX7_file 8 = .ok (.bipush (-2), 2) := by decide +kernel
theorem dX7_file_10 : decode cX7_file 10 = .ok (.ireturn, 1) := by decide +kernel
theorem dX7_file_11 : decode cX7_file 11 = .ok (.iload_n 2, 1) := by decide +kernel
theorem dX7_file_12 : decode cX7_file 12 = .ok (.tableswitch 86 0 4 #[36, 46, 56, 66, 76], 36) := by decide +kernel
theorem dX7_file_48 : decode cX7_file 48 = .ok (.aload_n 0, 1) := by decide +kernel
theorem dX7_file_49 : decode cX7_file 49 = .ok (.getfield 35, 3) := by decide +kernel
theorem dX7_file_52 : decode cX7_file 52 = .ok (.getfield 140, 3) := by decide +kernel
theorem dX7_file_55 : decode cX7_file 55 = .ok (.iload_n 1, 1) := by decide +kernel
theorem dX7_file_56 : decode cX7_file 56 = .ok (.iaload, 1) := by decide +kernel
theorem dX7_file_57 : decode cX7_file 57 = .ok (.ireturn, 1) := by decide +kernel
theorem dX7_file_58 : decode cX7_file 58 = .ok (.aload_n 0, 1) := by decide +kernel
theorem dX7_file_59 : decode cX7_file 59 = .ok (.getfield 19, 3) := by decide +kernel
theorem dX7_file_62 : decode cX7_file 62 = .ok (.getfield 143, 3) := by decide +kernel
theorem dX7_file_65 : decode cX7_file 65 = .ok (.iload_n 1, 1) := by decide +kernel
theorem dX7_file_66 : decode cX7_file 66 = .ok (.iaload, 1) := by decide +kernel
theorem dX7_file_67 : decode cX7_file 67 = .ok (.ireturn, 1) := by decide +kernel
theorem dX7_file_68 : decode cX7_file 68 = .ok (.aload_n 0, 1) := by decide +kernel
theorem dX7_file_69 : decode cX7_file 69 = .ok (.getfield 35, 3) := by decide +kernel
theorem dX7_file_72 : decode cX7_file 72 = .ok (.getfield 146, 3) := by decide +kernel
theorem dX7_file_75 : decode cX7_file 75 = .ok (.iload_n 1, 1) := by decide +kernel
theorem dX7_file_76 : decode cX7_file 76 = .ok (.iaload, 1) := by decide +kernel
theorem dX7_file_77 : decode cX7_file 77 = .ok (.ireturn, 1) := by decide +kernel
theorem dX7_file_78 : decode cX7_file 78 = .ok (.aload_n 0, 1) := by decide +kernel
theorem dX7_file_79 : decode cX7_file 79 = .ok (.getfield 35, 3) := by decide +kernel
theorem dX7_file_82 : decode cX7_file 82 = .ok (.getfield 149, 3) := by decide +kernel
theorem dX7_file_85 : decode cX7_file 85 = .ok (.iload_n 1, 1) := by decide +kernel
theorem dX7_file_86 : decode cX7_file 86 = .ok (.iaload, 1) := by decide +kernel
theorem dX7_file_87 : decode cX7_file 87 = .ok (.ireturn, 1) := by decide +kernel
theorem dX7_file_88 : decode cX7_file 88 = .ok (.aload_n 0, 1) := by decide +kernel
theorem dX7_file_89 : decode cX7_file 89 = .ok (.getfield 35, 3) := by decide +kernel
theorem dX7_file_92 : decode cX7_file 92 = .ok (.getfield 152, 3) := by decide +kernel
theorem dX7_file_95 : decode cX7_file 95 = .ok (.iload_n 1, 1) := by decide +kernel
theorem dX7_file_96 : decode cX7_file 96 = .ok (.iaload, 1) := by decide +kernel
theorem dX7_file_97 : decode cX7_file 97 = .ok (.ireturn, 1) := by decide +kernel
theorem dX7_file_98 : decode cX7_file 98 = .ok (.bipush (-3), 2) := by decide +kernel
theorem dX7_file_100 : decode cX7_file 100 = .ok (.ireturn, 1) := by decide +kernel
theorem dX7_as_0 : decode cX7_as 0 = .ok (.aload_n 0, 1) := by decide +kernel
theorem dX7_as_1 : decode cX7_as 1 = .ok (.iload_n 1, 1) := by decide +kernel
theorem dX7_as_2 : decode cX7_as 2 = .ok (.invokevirtual 106, 3) := by decide +kernel
theorem dX7_as_5 : decode cX7_as 5 = .ok (.ifCond .ne 6, 3) := by decide +kernel
theorem dX7_as_8 : decode cX7_as 8 = .ok (.bipush (-2), 2) := by decide +kernel
theorem dX7_as_10 : decode cX7_as 10 = .ok (.ireturn, 1) := by decide +kernel
theorem dX7_as_11 : decode cX7_as 11 = .ok (.iload_n 2, 1) := by decide +kernel
theorem dX7_as_12 : decode cX7_as 12 = .ok (.ifCond .lt 8, 3) := by decide +kernel
theorem dX7_as_15 : decode cX7_as 15 = .ok (.iload_n 2, 1) := by decide +kernel
theorem dX7_as_16 : decode cX7_as 16 = .ok (.iconst 4, 1) := by decide +kernel
theorem dX7_as_17 : decode cX7_as 17 = .ok (.if_icmp .le 6, 3) := by decide +kernel
theorem dX7_as_20 : decode cX7_as 20 = .ok (.bipush (-3), 2) := by decide +kernel
theorem dX7_as_22 : decode cX7_as 22 = .ok (.ireturn, 1) := by decide +kernel
theorem dX7_as_23 : decode cX7_as 23 = .ok (.aload_n 0, 1) := by decide +kernel
theorem dX7_as_24 : decode cX7_as 24 = .ok (.getfield 19, 3) := by decide +kernel
theorem dX7_as_27 : decode cX7_as 27 = .ok (.iload_n 1, 1) := by decide +kernel
theorem dX7_as_28 : decode cX7_as 28 = .ok (.iload_n 2, 1) := by decide +kernel
theorem dX7_as_29 : decode cX7_as 29 = .ok (.invokevirtual 155, 3) := by decide +kernel
theorem dX7_as_32 : decode cX7_as 32 = .ok (.ifCond .ne 6, 3) := by decide +kernel
theorem dX7_as_35 : decode cX7_as 35 = .ok (.bipush (-4), 2) := by decide +kernel
theorem dX7_as_37 : decode cX7_as 37 = .ok (.ireturn, 1) := by decide +kernel
theorem dX7_as_38 : decode cX7_as 38 = .ok (.aload_n 0, 1) := by decide +kernel
theorem dX7_as_39 : decode cX7_as 39 = .ok (.getfield 19, 3) := by decide +kernel
theorem dX7_as_42 : decode cX7_as 42 = .ok (.iload_n 1, 1) := by decide +kernel
theorem dX7_as_43 : decode cX7_as 43 = .ok (.iconst 5, 1) := by decide +kernel
theorem dX7_as_44 : decode cX7_as 44 = .ok (.invokevirtual 159, 3) := by decide +kernel
theorem dX7_as_47 : decode cX7_as 47 = .ok (.ireturn, 1) := by decide +kernel
theorem dX7_go_0 : decode cX7_go 0 = .ok (.iload_n 1, 1) := by decide +kernel
theorem dX7_go_1 : decode cX7_go 1 = .ok (.iconst 1, 1) := by decide +kernel
theorem dX7_go_2 : decode cX7_go 2 = .ok (.if_icmp .lt 9, 3) := by decide +kernel
theorem dX7_go_5 : decode cX7_go 5 = .ok (.iload_n 1, 1) := by decide +kernel
theorem dX7_go_6 : decode cX7_go 6 = .ok (.bipush 99, 2) := by decide +kernel
theorem dX7_go_8 : decode cX7_go 8 = .ok (.if_icmp .le 6, 3) := by decide +kernel
theorem dX7_go_11 : decode cX7_go 11 = .ok (.bipush (-3), 2) := by decide +kernel
theorem dX7_go_13 : decode cX7_go 13 = .ok (.ireturn, 1) := by decide +kernel
theorem dX7_go_14 : decode cX7_go 14 = .ok (.aload_n 0, 1) := by decide +kernel
theorem dX7_go_15 : decode cX7_go 15 = .ok (.getfield 35, 3) := by decide +kernel
theorem dX7_go_18 : decode cX7_go 18 = .ok (.getfield 162, 3) := by decide +kernel
theorem dX7_go_21 : decode cX7_go 21 = .ok (.iload_n 1, 1) := by decide +kernel
theorem dX7_go_22 : decode cX7_go 22 = .ok (.iadd, 1) := by decide +kernel
theorem dX7_go_23 : decode cX7_go 23 = .ok (.sipush 9999, 3) := by decide +kernel
theorem dX7_go_26 : decode cX7_go 26 = .ok (.if_icmp .le 6, 3) := by decide +kernel
theorem dX7_go_29 : decode cX7_go 29 = .ok (.bipush (-5), 2) := by decide +kernel
theorem dX7_go_31 : decode cX7_go 31 = .ok (.ireturn, 1) := by decide +kernel
theorem dX7_go_32 : decode cX7_go 32 = .ok (.aload_n 0, 1) := by decide +kernel
theorem dX7_go_33 : decode cX7_go 33 = .ok (.getfield 35, 3) := by decide +kernel
theorem dX7_go_36 : decode cX7_go 36 = .ok (.aload_n 0, 1) := by decide +kernel
theorem dX7_go_37 : decode cX7_go 37 = .ok (.getfield 19, 3) := by decide +kernel
theorem dX7_go_40 : decode cX7_go 40 = .ok (.iload_n 1, 1) := by decide +kernel
theorem dX7_go_41 : decode cX7_go 41 = .ok (.invokevirtual 165, 3) := by decide +kernel
theorem dX7_go_44 : decode cX7_go 44 = .ok (.aload_n 0, 1) := by decide +kernel
theorem dX7_go_45 : decode cX7_go 45 = .ok (.getfield 35, 3) := by decide +kernel
theorem dX7_go_48 : decode cX7_go 48 = .ok (.getfield 162, 3) := by decide +kernel
theorem dX7_go_51 : decode cX7_go 51 = .ok (.ireturn, 1) := by decide +kernel
theorem dX7_next_0 : decode cX7_next 0 = .ok (.aload_n 0, 1) := by decide +kernel
theorem dX7_next_1 : decode cX7_next 1 = .ok (.iload_n 1, 1) := by decide +kernel
theorem dX7_next_2 : decode cX7_next 2 = .ok (.invokevirtual 137, 3) := by decide +kernel
theorem dX7_next_5 : decode cX7_next 5 = .ok (.ifCond .ne 6, 3) := by decide +kernel
theorem dX7_next_8 : decode cX7_next 8 = .ok (.bipush (-2), 2) := by decide +kernel
theorem dX7_next_10 : decode cX7_next 10 = .ok (.ireturn, 1) := by decide +kernel
theorem dX7_next_11 : decode cX7_next 11 = .ok (.aload_n 0, 1) := by decide +kernel
theorem dX7_next_12 : decode cX7_next 12 = .ok (.getfield 35, 3) := by decide +kernel
theorem dX7_next_15 : decode cX7_next 15 = .ok (.aload_n 0, 1) := by decide +kernel
theorem dX7_next_16 : decode cX7_next 16 = .ok (.getfield 19, 3) := by decide +kernel
theorem dX7_next_19 : decode cX7_next 19 = .ok (.invokevirtual 169, 3) := by decide +kernel
theorem dX7_next_22 : decode cX7_next 22 = .ok (.pop, 1) := by decide +kernel
theorem dX7_next_23 : decode cX7_next 23 = .ok (.aload_n 0, 1) := by decide +kernel
theorem dX7_next_24 : decode cX7_next 24 = .ok (.getfield 35, 3) := by decide +kernel
theorem dX7_next_27 : decode cX7_next 27 = .ok (.getfield 173, 3) := by decide +kernel
theorem dX7_next_30 : decode cX7_next 30 = .ok (.iload_n 1, 1) := by decide +kernel
theorem dX7_next_31 : decode cX7_next 31 = .ok (.iaload, 1) := by decide +kernel
theorem dX7_next_32 : decode cX7_next 32 = .ok (.ireturn, 1) := by decide +kernel
theorem dX7_spill_0 : decode cX7_spill 0 = .ok (.aload_n 0, 1) := by decide +kernel
theorem dX7_spill_1 : decode cX7_spill 1 = .ok (.iload_n 1, 1) := by decide +kernel
theorem dX7_spill_2 : decode cX7_spill 2 = .ok (.invokevirtual 125, 3) := by decide +kernel
theorem dX7_spill_5 : decode cX7_spill 5 = .ok (.ifCond .ne 6, 3) := by decide +kernel
theorem dX7_spill_8 : decode cX7_spill 8 = .ok (.bipush (-2), 2) := by decide +kernel
theorem dX7_spill_10 : decode cX7_spill 10 = .ok (.ireturn, 1) := by decide +kernel
theorem dX7_spill_11 : decode cX7_spill 11 = .ok (.iload_n 2, 1) := by decide +kernel
theorem dX7_spill_12 : decode cX7_spill 12 = .ok (.ifCond .lt 9, 3) := by decide +kernel
theorem dX7_spill_15 : decode cX7_spill 15 = .ok (.iload_n 2, 1) := by decide +kernel
theorem dX7_spill_16 : decode cX7_spill 16 = .ok (.bipush 99, 2) := by decide +kernel
theorem dX7_spill_18 : decode cX7_spill 18 = .ok (.if_icmp .le 6, 3) := by decide +kernel
theorem dX7_spill_21 : decode cX7_spill 21 = .ok (.bipush (-3), 2) := by decide +kernel
theorem dX7_spill_23 : decode cX7_spill 23 = .ok (.ireturn, 1) := by decide +kernel
theorem dX7_spill_24 : decode cX7_spill 24 = .ok (.aload_n 0, 1) := by decide +kernel
theorem dX7_spill_25 : decode cX7_spill 25 = .ok (.getfield 35, 3) := by decide +kernel
theorem dX7_spill_28 : decode cX7_spill 28 = .ok (.getfield 134, 3) := by decide +kernel
theorem dX7_spill_31 : decode cX7_spill 31 = .ok (.iload_n 1, 1) := by decide +kernel
theorem dX7_spill_32 : decode cX7_spill 32 = .ok (.iaload, 1) := by decide +kernel
theorem dX7_spill_33 : decode cX7_spill 33 = .ok (.istore_n 3, 1) := by decide +kernel
theorem dX7_spill_34 : decode cX7_spill 34 = .ok (.aload_n 0, 1) := by decide +kernel
theorem dX7_spill_35 : decode cX7_spill 35 = .ok (.getfield 35, 3) := by decide +kernel
theorem dX7_spill_38 : decode cX7_spill 38 = .ok (.getfield 134, 3) := by decide +kernel
theorem dX7_spill_41 : decode cX7_spill 41 = .ok (.iload_n 1, 1) := by decide +kernel
theorem dX7_spill_42 : decode cX7_spill 42 = .ok (.iload_n 2, 1) := by decide +kernel
theorem dX7_spill_43 : decode cX7_spill 43 = .ok (.iastore, 1) := by decide +kernel
theorem dX7_spill_44 : decode cX7_spill 44 = .ok (.iload_n 3, 1) := by decide +kernel
theorem dX7_spill_45 : decode cX7_spill 45 = .ok (.ireturn, 1) := by decide +kernel
theorem dX7_stamp_0 : decode cX7_stamp 0 = .ok (.aload_n 0, 1) := by decide +kernel
theorem dX7_stamp_1 : decode cX7_stamp 1 = .ok (.iload_n 1, 1) := by decide +kernel
theorem dX7_stamp_2 : decode cX7_stamp 2 = .ok (.invokevirtual 137, 3) := by decide +kernel
theorem dX7_stamp_5 : decode cX7_stamp 5 = .ok (.ifCond .ne 6, 3) := by decide +kernel
theorem dX7_stamp_8 : decode cX7_stamp 8 = .ok (.bipush (-2), 2) := by decide +kernel
theorem dX7_stamp_10 : decode cX7_stamp 10 = .ok (.ireturn, 1) := by decide +kernel
theorem dX7_stamp_11 : decode cX7_stamp 11 = .ok (.iload_n 2, 1) := by decide +kernel
theorem dX7_stamp_12 : decode cX7_stamp 12 = .ok (.ifCond .lt 9, 3) := by decide +kernel
theorem dX7_stamp_15 : decode cX7_stamp 15 = .ok (.iload_n 2, 1) := by decide +kernel
theorem dX7_stamp_16 : decode cX7_stamp 16 = .ok (.bipush 9, 2) := by decide +kernel
theorem dX7_stamp_18 : decode cX7_stamp 18 = .ok (.if_icmp .le 6, 3) := by decide +kernel
theorem dX7_stamp_21 : decode cX7_stamp 21 = .ok (.bipush (-3), 2) := by decide +kernel
theorem dX7_stamp_23 : decode cX7_stamp 23 = .ok (.ireturn, 1) := by decide +kernel
theorem dX7_stamp_24 : decode cX7_stamp 24 = .ok (.aload_n 0, 1) := by decide +kernel
theorem dX7_stamp_25 : decode cX7_stamp 25 = .ok (.getfield 35, 3) := by decide +kernel
theorem dX7_stamp_28 : decode cX7_stamp 28 = .ok (.iload_n 1, 1) := by decide +kernel
theorem dX7_stamp_29 : decode cX7_stamp 29 = .ok (.invokevirtual 176, 3) := by decide +kernel
theorem dX7_stamp_32 : decode cX7_stamp 32 = .ok (.ifCond .eq 6, 3) := by decide +kernel
theorem dX7_stamp_35 : decode cX7_stamp 35 = .ok (.bipush (-4), 2) := by decide +kernel
theorem dX7_stamp_37 : decode cX7_stamp 37 = .ok (.ireturn, 1) := by decide +kernel
theorem dX7_stamp_38 : decode cX7_stamp 38 = .ok (.aload_n 0, 1) := by decide +kernel
theorem dX7_stamp_39 : decode cX7_stamp 39 = .ok (.getfield 35, 3) := by decide +kernel
theorem dX7_stamp_42 : decode cX7_stamp 42 = .ok (.getfield 146, 3) := by decide +kernel
theorem dX7_stamp_45 : decode cX7_stamp 45 = .ok (.iload_n 1, 1) := by decide +kernel
theorem dX7_stamp_46 : decode cX7_stamp 46 = .ok (.iaload, 1) := by decide +kernel
theorem dX7_stamp_47 : decode cX7_stamp 47 = .ok (.istore_n 3, 1) := by decide +kernel
theorem dX7_stamp_48 : decode cX7_stamp 48 = .ok (.aload_n 0, 1) := by decide +kernel
theorem dX7_stamp_49 : decode cX7_stamp 49 = .ok (.getfield 35, 3) := by decide +kernel
theorem dX7_stamp_52 : decode cX7_stamp 52 = .ok (.getfield 146, 3) := by decide +kernel
theorem dX7_stamp_55 : decode cX7_stamp 55 = .ok (.iload_n 1, 1) := by decide +kernel
theorem dX7_stamp_56 : decode cX7_stamp 56 = .ok (.iload_n 2, 1) := by decide +kernel
theorem dX7_stamp_57 : decode cX7_stamp 57 = .ok (.iastore, 1) := by decide +kernel
theorem dX7_stamp_58 : decode cX7_stamp 58 = .ok (.iload_n 3, 1) := by decide +kernel
theorem dX7_stamp_59 : decode cX7_stamp 59 = .ok (.ireturn, 1) := by decide +kernel
theorem dX7_rain_0 : decode cX7_rain 0 = .ok (.aload_n 0, 1) := by decide +kernel
theorem dX7_rain_1 : decode cX7_rain 1 = .ok (.getfield 35, 3) := by decide +kernel
theorem dX7_rain_4 : decode cX7_rain 4 = .ok (.aload_n 0, 1) := by decide +kernel
theorem dX7_rain_5 : decode cX7_rain 5 = .ok (.getfield 19, 3) := by decide +kernel
theorem dX7_rain_8 : decode cX7_rain 8 = .ok (.getfield 179, 3) := by decide +kernel
theorem dX7_rain_11 : decode cX7_rain 11 = .ok (.invokevirtual 182, 3) := by decide +kernel
theorem dX7_rain_14 : decode cX7_rain 14 = .ok (.ireturn, 1) := by decide +kernel
theorem dX7_sit_0 : decode cX7_sit 0 = .ok (.iload_n 1, 1) := by decide +kernel
theorem dX7_sit_1 : decode cX7_sit 1 = .ok (.iconst (-1), 1) := by decide +kernel
theorem dX7_sit_2 : decode cX7_sit 2 = .ok (.if_icmp .eq 14, 3) := by decide +kernel
theorem dX7_sit_5 : decode cX7_sit 5 = .ok (.aload_n 0, 1) := by decide +kernel
theorem dX7_sit_6 : decode cX7_sit 6 = .ok (.iload_n 1, 1) := by decide +kernel
theorem dX7_sit_7 : decode cX7_sit 7 = .ok (.invokevirtual 106, 3) := by decide +kernel
theorem dX7_sit_10 : decode cX7_sit 10 = .ok (.ifCond .ne 6, 3) := by decide +kernel
theorem dX7_sit_13 : decode cX7_sit 13 = .ok (.bipush (-2), 2) := by decide +kernel
theorem dX7_sit_15 : decode cX7_sit 15 = .ok (.ireturn, 1) := by decide +kernel
theorem dX7_sit_16 : decode cX7_sit 16 = .ok (.aload_n 0, 1) := by decide +kernel
theorem dX7_sit_17 : decode cX7_sit 17 = .ok (.getfield 35, 3) := by decide +kernel
theorem dX7_sit_20 : decode cX7_sit 20 = .ok (.getfield 185, 3) := by decide +kernel
theorem dX7_sit_23 : decode cX7_sit 23 = .ok (.istore_n 2, 1) := by decide +kernel
theorem dX7_sit_24 : decode cX7_sit 24 = .ok (.aload_n 0, 1) := by decide +kernel
theorem dX7_sit_25 : decode cX7_sit 25 = .ok (.getfield 35, 3) := by decide +kernel
theorem dX7_sit_28 : decode cX7_sit 28 = .ok (.iload_n 1, 1) := by decide +kernel
theorem dX7_sit_29 : decode cX7_sit 29 = .ok (.putfield 185, 3) := by decide +kernel
theorem dX7_sit_32 : decode cX7_sit 32 = .ok (.iload_n 2, 1) := by decide +kernel
theorem dX7_sit_33 : decode cX7_sit 33 = .ok (.ireturn, 1) := by decide +kernel
theorem dX7_keep_0 : decode cX7_keep 0 = .ok (.iload_n 1, 1) := by decide +kernel
theorem dX7_keep_1 : decode cX7_keep 1 = .ok (.ifCond .lt 8, 3) := by decide +kernel
theorem dX7_keep_4 : decode cX7_keep 4 = .ok (.iload_n 1, 1) := by decide +kernel
theorem dX7_keep_5 : decode cX7_keep 5 = .ok (.iconst 2, 1) := by decide +kernel
theorem dX7_keep_6 : decode cX7_keep 6 = .ok (.if_icmp .lt 6, 3) := by decide +kernel
theorem dX7_keep_9 : decode cX7_keep 9 = .ok (.bipush (-2), 2) := by decide +kernel
theorem dX7_keep_11 : decode cX7_keep 11 = .ok (.ireturn, 1) := by decide +kernel
theorem dX7_keep_12 : decode cX7_keep 12 = .ok (.aload_n 0, 1) := by decide +kernel
theorem dX7_keep_13 : decode cX7_keep 13 = .ok (.getfield 43, 3) := by decide +kernel
theorem dX7_keep_16 : decode cX7_keep 16 = .ok (.iload_n 1, 1) := by decide +kernel
theorem dX7_keep_17 : decode cX7_keep 17 = .ok (.aaload, 1) := by decide +kernel
theorem dX7_keep_18 : decode cX7_keep 18 = .ok (.aload_n 0, 1) := by decide +kernel
theorem dX7_keep_19 : decode cX7_keep 19 = .ok (.getfield 35, 3) := by decide +kernel
theorem dX7_keep_22 : decode cX7_keep 22 = .ok (.invokevirtual 188, 3) := by decide +kernel
theorem dX7_keep_25 : decode cX7_keep 25 = .ok (.aload_n 0, 1) := by decide +kernel
theorem dX7_keep_26 : decode cX7_keep 26 = .ok (.getfield 47, 3) := by decide +kernel
theorem dX7_keep_29 : decode cX7_keep 29 = .ok (.iload_n 1, 1) := by decide +kernel
theorem dX7_keep_30 : decode cX7_keep 30 = .ok (.iconst 1, 1) := by decide +kernel
theorem dX7_keep_31 : decode cX7_keep 31 = .ok (.bastore, 1) := by decide +kernel
theorem dX7_keep_32 : decode cX7_keep 32 = .ok (.aload_n 0, 1) := by decide +kernel
theorem dX7_keep_33 : decode cX7_keep 33 = .ok (.getfield 35, 3) := by decide +kernel
theorem dX7_keep_36 : decode cX7_keep 36 = .ok (.getfield 162, 3) := by decide +kernel
theorem dX7_keep_39 : decode cX7_keep 39 = .ok (.ireturn, 1) := by decide +kernel
theorem dX7_back_0 : decode cX7_back 0 = .ok (.iload_n 1, 1) := by decide +kernel
theorem dX7_back_1 : decode cX7_back 1 = .ok (.ifCond .lt 8, 3) := by decide +kernel
theorem dX7_back_4 : decode cX7_back 4 = .ok (.iload_n 1, 1) := by decide +kernel
theorem dX7_back_5 : decode cX7_back 5 = .ok (.iconst 2, 1) := by decide +kernel
theorem dX7_back_6 : decode cX7_back 6 = .ok (.if_icmp .lt 6, 3) := by decide +kernel
theorem dX7_back_9 : decode cX7_back 9 = .ok (.bipush (-2), 2) := by decide +kernel
theorem dX7_back_11 : decode cX7_back 11 = .ok (.ireturn, 1) := by decide +kernel
theorem dX7_back_12 : decode cX7_back 12 = .ok (.aload_n 0, 1) := by decide +kernel
theorem dX7_back_13 : decode cX7_back 13 = .ok (.getfield 47, 3) := by decide +kernel
theorem dX7_back_16 : decode cX7_back 16 = .ok (.iload_n 1, 1) := by decide +kernel
theorem dX7_back_17 : decode cX7_back 17 = .ok (.baload, 1) := by decide +kernel
theorem dX7_back_18 : decode cX7_back 18 = .ok (.ifCond .ne 6, 3) := by decide +kernel
theorem dX7_back_21 : decode cX7_back 21 = .ok (.bipush (-4), 2) := by decide +kernel
theorem dX7_back_23 : decode cX7_back 23 = .ok (.ireturn, 1) := by decide +kernel
theorem dX7_back_24 : decode cX7_back 24 = .ok (.aload_n 0, 1) := by decide +kernel
theorem dX7_back_25 : decode cX7_back 25 = .ok (.getfield 35, 3) := by decide +kernel
theorem dX7_back_28 : decode cX7_back 28 = .ok (.aload_n 0, 1) := by decide +kernel
theorem dX7_back_29 : decode cX7_back 29 = .ok (.getfield 43, 3) := by decide +kernel
theorem dX7_back_32 : decode cX7_back 32 = .ok (.iload_n 1, 1) := by decide +kernel
theorem dX7_back_33 : decode cX7_back 33 = .ok (.aaload, 1) := by decide +kernel
theorem dX7_back_34 : decode cX7_back 34 = .ok (.invokevirtual 188, 3) := by decide +kernel
theorem dX7_back_37 : decode cX7_back 37 = .ok (.aload_n 0, 1) := by decide +kernel
theorem dX7_back_38 : decode cX7_back 38 = .ok (.getfield 35, 3) := by decide +kernel
theorem dX7_back_41 : decode cX7_back 41 = .ok (.getfield 162, 3) := by decide +kernel
theorem dX7_back_44 : decode cX7_back 44 = .ok (.ireturn, 1) := by decide +kernel
theorem dX7_later_0 : decode cX7_later 0 = .ok (.iload_n 3, 1) := by decide +kernel
theorem dX7_later_1 : decode cX7_later 1 = .ok (.ifCond .lt 8, 3) := by decide +kernel
theorem dX7_later_4 : decode cX7_later 4 = .ok (.iload_n 3, 1) := by decide +kernel
theorem dX7_later_5 : decode cX7_later 5 = .ok (.iconst 2, 1) := by decide +kernel
theorem dX7_later_6 : decode cX7_later 6 = .ok (.if_icmp .le 6, 3) := by decide +kernel
theorem dX7_later_9 : decode cX7_later 9 = .ok (.bipush (-3), 2) := by decide +kernel
theorem dX7_later_11 : decode cX7_later 11 = .ok (.ireturn, 1) := by decide +kernel
theorem dX7_later_12 : decode cX7_later 12 = .ok (.iload_n 3, 1) := by decide +kernel
theorem dX7_later_13 : decode cX7_later 13 = .ok (.iconst 2, 1) := by decide +kernel
theorem dX7_later_14 : decode cX7_later 14 = .ok (.if_icmp .ne 14, 3) := by decide +kernel
theorem dX7_later_17 : decode cX7_later 17 = .ok (.aload_n 0, 1) := by decide +kernel
theorem dX7_later_18 : decode cX7_later 18 = .ok (.iload_n 1, 1) := by decide +kernel
theorem dX7_later_19 : decode cX7_later 19 = .ok (.invokevirtual 125, 3) := by decide +kernel
theorem dX7_later_22 : decode cX7_later 22 = .ok (.ifCond .ne 17, 3) := by decide +kernel
theorem dX7_later_25 : decode cX7_later 25 = .ok (.goto 11, 3) := by decide +kernel
theorem dX7_later_28 : decode cX7_later 28 = .ok (.aload_n 0, 1) := by decide +kernel
theorem dX7_later_29 : decode cX7_later 29 = .ok (.iload_n 1, 1) := by decide +kernel
theorem dX7_later_30 : decode cX7_later 30 = .ok (.invokevirtual 137, 3) := by decide +kernel
theorem dX7_later_33 : decode cX7_later 33 = .ok (.ifCond .ne 6, 3) := by decide +kernel
theorem dX7_later_36 : decode cX7_later 36 = .ok (.bipush (-2), 2) := by decide +kernel
theorem dX7_later_38 : decode cX7_later 38 = .ok (.ireturn, 1) := by decide +kernel
theorem dX7_later_39 : decode cX7_later 39 = .ok (.iload_n 2, 1) := by decide +kernel
theorem dX7_later_40 : decode cX7_later 40 = .ok (.ifCond .lt 9, 3) := by decide +kernel
theorem dX7_later_43 : decode cX7_later 43 = .ok (.iload_n 2, 1) := by decide +kernel
theorem dX7_later_44 : decode cX7_later 44 = .ok (.bipush 99, 2) := by decide +kernel
theorem dX7_later_46 : decode cX7_later 46 = .ok (.if_icmp .le 6, 3) := by decide +kernel
theorem dX7_later_49 : decode cX7_later 49 = .ok (.bipush (-3), 2) := by decide +kernel
theorem dX7_later_51 : decode cX7_later 51 = .ok (.ireturn, 1) := by decide +kernel
theorem dX7_later_52 : decode cX7_later 52 = .ok (.aload_n 0, 1) := by decide +kernel
theorem dX7_later_53 : decode cX7_later 53 = .ok (.getfield 56, 3) := by decide +kernel
theorem dX7_later_56 : decode cX7_later 56 = .ok (.iload_n 2, 1) := by decide +kernel
theorem dX7_later_57 : decode cX7_later 57 = .ok (.invokevirtual 191, 3) := by decide +kernel
theorem dX7_later_60 : decode cX7_later 60 = .ok (.astore 4, 2) := by decide +kernel
theorem dX7_later_62 : decode cX7_later 62 = .ok (.iload_n 3, 1) := by decide +kernel
theorem dX7_later_63 : decode cX7_later 63 = .ok (.iconst 2, 1) := by decide +kernel
theorem dX7_later_64 : decode cX7_later 64 = .ok (.if_icmp .ne 11, 3) := by decide +kernel
theorem dX7_later_67 : decode cX7_later 67 = .ok (.aload 4, 2) := by decide +kernel
theorem dX7_later_69 : decode cX7_later 69 = .ok (.getfield 134, 3) := by decide +kernel
theorem dX7_later_72 : decode cX7_later 72 = .ok (.iload_n 1, 1) := by decide +kernel
theorem dX7_later_73 : decode cX7_later 73 = .ok (.iaload, 1) := by decide +kernel
theorem dX7_later_74 : decode cX7_later 74 = .ok (.ireturn, 1) := by decide +kernel
theorem dX7_later_75 : decode cX7_later 75 = .ok (.iload_n 3, 1) := by decide +kernel
theorem dX7_later_76 : decode cX7_later 76 = .ok (.iconst 1, 1) := by decide +kernel
theorem dX7_later_77 : decode cX7_later 77 = .ok (.if_icmp .ne 13, 3) := by decide +kernel
theorem dX7_later_80 : decode cX7_later 80 = .ok (.aload 4, 2) := by decide +kernel
theorem dX7_later_82 : decode cX7_later 82 = .ok (.getfield 146, 3) := by decide +kernel
theorem dX7_later_85 : decode cX7_later 85 = .ok (.iload_n 1, 1) := by decide +kernel
theorem dX7_later_86 : decode cX7_later 86 = .ok (.iaload, 1) := by decide +kernel
theorem dX7_later_87 : decode cX7_later 87 = .ok (.goto 10, 3) := by decide +kernel
theorem dX7_later_90 : decode cX7_later 90 = .ok (.aload 4, 2) := by decide +kernel
theorem dX7_later_92 : decode cX7_later 92 = .ok (.getfield 140, 3) := by decide +kernel
theorem dX7_later_95 : decode cX7_later 95 = .ok (.iload_n 1, 1) := by decide +kernel
theorem dX7_later_96 : decode cX7_later 96 = .ok (.iaload, 1) := by decide +kernel
theorem dX7_later_97 : decode cX7_later 97 = .ok (.ireturn, 1) := by decide +kernel
theorem dX7_filed_0 : decode cX7_filed 0 = .ok (.aload_n 0, 1) := by decide +kernel
theorem dX7_filed_1 : decode cX7_filed 1 = .ok (.iload_n 1, 1) := by decide +kernel
theorem dX7_filed_2 : decode cX7_filed 2 = .ok (.invokevirtual 137, 3) := by decide +kernel
theorem dX7_filed_5 : decode cX7_filed 5 = .ok (.ifCond .ne 6, 3) := by decide +kernel
theorem dX7_filed_8 : decode cX7_filed 8 = .ok (.bipush (-2), 2) := by decide +kernel
theorem dX7_filed_10 : decode cX7_filed 10 = .ok (.ireturn, 1) := by decide +kernel
theorem dX7_filed_11 : decode cX7_filed 11 = .ok (.aload_n 0, 1) := by decide +kernel
theorem dX7_filed_12 : decode cX7_filed 12 = .ok (.getfield 56, 3) := by decide +kernel
theorem dX7_filed_15 : decode cX7_filed 15 = .ok (.iload_n 1, 1) := by decide +kernel
theorem dX7_filed_16 : decode cX7_filed 16 = .ok (.invokevirtual 195, 3) := by decide +kernel
theorem dX7_filed_19 : decode cX7_filed 19 = .ok (.ireturn, 1) := by decide +kernel
theorem dX7_queue_0 : decode cX7_queue 0 = .ok (.aload_n 0, 1) := by decide +kernel
theorem dX7_queue_1 : decode cX7_queue 1 = .ok (.iload_n 1, 1) := by decide +kernel
theorem dX7_queue_2 : decode cX7_queue 2 = .ok (.invokevirtual 106, 3) := by decide +kernel
theorem dX7_queue_5 : decode cX7_queue 5 = .ok (.ifCond .ne 6, 3) := by decide +kernel
theorem dX7_queue_8 : decode cX7_queue 8 = .ok (.bipush (-2), 2) := by decide +kernel
theorem dX7_queue_10 : decode cX7_queue 10 = .ok (.ireturn, 1) := by decide +kernel
theorem dX7_queue_11 : decode cX7_queue 11 = .ok (.iload_n 2, 1) := by decide +kernel
theorem dX7_queue_12 : decode cX7_queue 12 = .ok (.ifCond .lt 9, 3) := by decide +kernel
theorem dX7_queue_15 : decode cX7_queue 15 = .ok (.iload_n 2, 1) := by decide +kernel
theorem dX7_queue_16 : decode cX7_queue 16 = .ok (.bipush 99, 2) := by decide +kernel
theorem dX7_queue_18 : decode cX7_queue 18 = .ok (.if_icmp .le 6, 3) := by decide +kernel
theorem dX7_queue_21 : decode cX7_queue 21 = .ok (.bipush (-3), 2) := by decide +kernel
theorem dX7_queue_23 : decode cX7_queue 23 = .ok (.ireturn, 1) := by decide +kernel
theorem dX7_queue_24 : decode cX7_queue 24 = .ok (.aload_n 0, 1) := by decide +kernel
theorem dX7_queue_25 : decode cX7_queue 25 = .ok (.getfield 56, 3) := by decide +kernel
theorem dX7_queue_28 : decode cX7_queue 28 = .ok (.iload_n 2, 1) := by decide +kernel
theorem dX7_queue_29 : decode cX7_queue 29 = .ok (.invokevirtual 191, 3) := by decide +kernel
theorem dX7_queue_32 : decode cX7_queue 32 = .ok (.astore_n 3, 1) := by decide +kernel
theorem dX7_queue_33 : decode cX7_queue 33 = .ok (.aload_n 3, 1) := by decide +kernel
theorem dX7_queue_34 : decode cX7_queue 34 = .ok (.iload_n 1, 1) := by decide +kernel
theorem dX7_queue_35 : decode cX7_queue 35 = .ok (.aload_n 0, 1) := by decide +kernel
theorem dX7_queue_36 : decode cX7_queue 36 = .ok (.getfield 19, 3) := by decide +kernel
theorem dX7_queue_39 : decode cX7_queue 39 = .ok (.getfield 114, 3) := by decide +kernel
theorem dX7_queue_42 : decode cX7_queue 42 = .ok (.invokevirtual 117, 3) := by decide +kernel
theorem dX7_queue_45 : decode cX7_queue 45 = .ok (.aload_n 3, 1) := by decide +kernel
theorem dX7_queue_46 : decode cX7_queue 46 = .ok (.getfield 198, 3) := by decide +kernel
theorem dX7_queue_49 : decode cX7_queue 49 = .ok (.iconst (-1), 1) := by decide +kernel
theorem dX7_queue_50 : decode cX7_queue 50 = .ok (.ixor, 1) := by decide +kernel
theorem dX7_queue_51 : decode cX7_queue 51 = .ok (.iand, 1) := by decide +kernel
theorem dX7_queue_52 : decode cX7_queue 52 = .ok (.invokestatic 201, 3) := by decide +kernel
theorem dX7_queue_55 : decode cX7_queue 55 = .ok (.ireturn, 1) := by decide +kernel
theorem dX7_honey_0 : decode cX7_honey 0 = .ok (.iload_n 1, 1) := by decide +kernel
theorem dX7_honey_1 : decode cX7_honey 1 = .ok (.ifCond .lt 15, 3) := by decide +kernel
theorem dX7_honey_4 : decode cX7_honey 4 = .ok (.iload_n 1, 1) := by decide +kernel
theorem dX7_honey_5 : decode cX7_honey 5 = .ok (.aload_n 0, 1) := by decide +kernel
theorem dX7_honey_6 : decode cX7_honey 6 = .ok (.getfield 19, 3) := by decide +kernel
theorem dX7_honey_9 : decode cX7_honey 9 = .ok (.getfield 114, 3) := by decide +kernel
theorem dX7_honey_12 : decode cX7_honey 12 = .ok (.ishr, 1) := by decide +kernel
theorem dX7_honey_13 : decode cX7_honey 13 = .ok (.ifCond .eq 6, 3) := by decide +kernel
theorem dX7_honey_16 : decode cX7_honey 16 = .ok (.bipush (-2), 2) := by decide +kernel
theorem dX7_honey_18 : decode cX7_honey 18 = .ok (.ireturn, 1) := by decide +kernel
theorem dX7_honey_19 : decode cX7_honey 19 = .ok (.iload_n 2, 1) := by decide +kernel
theorem dX7_honey_20 : decode cX7_honey 20 = .ok (.iconst 1, 1) := by decide +kernel
theorem dX7_honey_21 : decode cX7_honey 21 = .ok (.if_icmp .lt 14, 3) := by decide +kernel
theorem dX7_honey_24 : decode cX7_honey 24 = .ok (.iload_n 2, 1) := by decide +kernel
theorem dX7_honey_25 : decode cX7_honey 25 = .ok (.bipush 60, 2) := by decide +kernel
theorem dX7_honey_27 : decode cX7_honey 27 = .ok (.if_icmp .gt 8, 3) := by decide +kernel
theorem dX7_honey_30 : decode cX7_honey 30 = .ok (.iload_n 3, 1) := by decide +kernel
theorem dX7_honey_31 : decode cX7_honey 31 = .ok (.iconst (-1), 1) := by decide +kernel
theorem dX7_honey_32 : decode cX7_honey 32 = .ok (.if_icmp .ge 6, 3) := by decide +kernel
theorem dX7_honey_35 : decode cX7_honey 35 = .ok (.bipush (-3), 2) := by decide +kernel
theorem dX7_honey_37 : decode cX7_honey 37 = .ok (.ireturn, 1) := by decide +kernel
theorem dX7_honey_38 : decode cX7_honey 38 = .ok (.iload_n 1, 1) := by decide +kernel
theorem dX7_honey_39 : decode cX7_honey 39 = .ok (.invokestatic 201, 3) := by decide +kernel
theorem dX7_honey_42 : decode cX7_honey 42 = .ok (.istore 4, 2) := by decide +kernel
theorem dX7_honey_44 : decode cX7_honey 44 = .ok (.iload 4, 2) := by decide +kernel
theorem dX7_honey_46 : decode cX7_honey 46 = .ok (.iconst 4, 1) := by decide +kernel
theorem dX7_honey_47 : decode cX7_honey 47 = .ok (.if_icmp .gt 15, 3) := by decide +kernel
theorem dX7_honey_50 : decode cX7_honey 50 = .ok (.iload_n 1, 1) := by decide +kernel
theorem dX7_honey_51 : decode cX7_honey 51 = .ok (.aload_n 0, 1) := by decide +kernel
theorem dX7_honey_52 : decode cX7_honey 52 = .ok (.getfield 35, 3) := by decide +kernel
theorem dX7_honey_55 : decode cX7_honey 55 = .ok (.getfield 198, 3) := by decide +kernel
theorem dX7_honey_58 : decode cX7_honey 58 = .ok (.iand, 1) := by decide +kernel
theorem dX7_honey_59 : decode cX7_honey 59 = .ok (.ifCond .eq 6, 3) := by decide +kernel
theorem dX7_honey_62 : decode cX7_honey 62 = .ok (.bipush (-4), 2) := by decide +kernel
theorem dX7_honey_64 : decode cX7_honey 64 = .ok (.ireturn, 1) := by decide +kernel
theorem dX7_honey_65 : decode cX7_honey 65 = .ok (.iload_n 3, 1) := by decide +kernel
theorem dX7_honey_66 : decode cX7_honey 66 = .ok (.iload 4, 2) := by decide +kernel
theorem dX7_honey_68 : decode cX7_honey 68 = .ok (.if_icmp .lt 5, 3) := by decide +kernel
theorem dX7_honey_71 : decode cX7_honey 71 = .ok (.iconst (-1), 1) := by decide +kernel
theorem dX7_honey_72 : decode cX7_honey 72 = .ok (.ireturn, 1) := by decide +kernel
theorem dX7_honey_73 : decode cX7_honey 73 = .ok (.aload_n 0, 1) := by decide +kernel
theorem dX7_honey_74 : decode cX7_honey 74 = .ok (.getfield 56, 3) := by decide +kernel
theorem dX7_honey_77 : decode cX7_honey 77 = .ok (.iload_n 1, 1) := by decide +kernel
theorem dX7_honey_78 : decode cX7_honey 78 = .ok (.iload_n 2, 1) := by decide +kernel
theorem dX7_honey_79 : decode cX7_honey 79 = .ok (.invokevirtual 206, 3) := by decide +kernel
theorem dX7_honey_82 : decode cX7_honey 82 = .ok (.istore 5, 2) := by decide +kernel
theorem dX7_honey_84 : decode cX7_honey 84 = .ok (.iload 5, 2) := by decide +kernel
theorem dX7_honey_86 : decode cX7_honey 86 = .ok (.iconst (-1), 1) := by decide +kernel
theorem dX7_honey_87 : decode cX7_honey 87 = .ok (.if_icmp .eq 8, 3) := by decide +kernel
theorem dX7_honey_90 : decode cX7_honey 90 = .ok (.iload_n 3, 1) := by decide +kernel
theorem dX7_honey_91 : decode cX7_honey 91 = .ok (.iconst (-1), 1) := by decide +kernel
theorem dX7_honey_92 : decode cX7_honey 92 = .ok (.if_icmp .ne 8, 3) := by decide +kernel
theorem dX7_honey_95 : decode cX7_honey 95 = .ok (.iload 5, 2) := by decide +kernel
theorem dX7_honey_97 : decode cX7_honey 97 = .ok (.goto 12, 3) := by decide +kernel
theorem dX7_honey_100 : decode cX7_honey 100 = .ok (.aload_n 0, 1) := by decide +kernel
theorem dX7_honey_101 : decode cX7_honey 101 = .ok (.getfield 56, 3) := by decide +kernel
theorem dX7_honey_104 : decode cX7_honey 104 = .ok (.getfield 209, 3) := by decide +kernel
theorem dX7_honey_107 : decode cX7_honey 107 = .ok (.iload_n 3, 1) := by decide +kernel
theorem dX7_honey_108 : decode cX7_honey 108 = .ok (.iaload, 1) := by decide +kernel
theorem dX7_honey_109 : decode cX7_honey 109 = .ok (.ireturn, 1) := by decide +kernel
theorem dX7_smear_0 : decode cX7_smear 0 = .ok (.aload_n 0, 1) := by decide +kernel
theorem dX7_smear_1 : decode cX7_smear 1 = .ok (.iload_n 1, 1) := by decide +kernel
theorem dX7_smear_2 : decode cX7_smear 2 = .ok (.invokevirtual 137, 3) := by decide +kernel
theorem dX7_smear_5 : decode cX7_smear 5 = .ok (.ifCond .ne 6, 3) := by decide +kernel
theorem dX7_smear_8 : decode cX7_smear 8 = .ok (.bipush (-2), 2) := by decide +kernel
theorem dX7_smear_10 : decode cX7_smear 10 = .ok (.ireturn, 1) := by decide +kernel
theorem dX7_smear_11 : decode cX7_smear 11 = .ok (.iload_n 2, 1) := by decide +kernel
theorem dX7_smear_12 : decode cX7_smear 12 = .ok (.iconst 1, 1) := by decide +kernel
theorem dX7_smear_13 : decode cX7_smear 13 = .ok (.if_icmp .lt 18, 3) := by decide +kernel
theorem dX7_smear_16 : decode cX7_smear 16 = .ok (.iload_n 2, 1) := by decide +kernel
theorem dX7_smear_17 : decode cX7_smear 17 = .ok (.bipush 99, 2) := by decide +kernel
theorem dX7_smear_19 : decode cX7_smear 19 = .ok (.if_icmp .gt 12, 3) := by decide +kernel
theorem dX7_smear_22 : decode cX7_smear 22 = .ok (.iload_n 3, 1) := by decide +kernel
theorem dX7_smear_23 : decode cX7_smear 23 = .ok (.ifCond .lt 8, 3) := by decide +kernel
theorem dX7_smear_26 : decode cX7_smear 26 = .ok (.iload_n 3, 1) := by decide +kernel
theorem dX7_smear_27 : decode cX7_smear 27 = .ok (.iconst 2, 1) := by decide +kernel
theorem dX7_smear_28 : decode cX7_smear 28 = .ok (.if_icmp .le 6, 3) := by decide +kernel
theorem dX7_smear_31 : decode cX7_smear 31 = .ok (.bipush (-3), 2) := by decide +kernel
theorem dX7_smear_33 : decode cX7_smear 33 = .ok (.ireturn, 1) := by decide +kernel
theorem dX7_smear_34 : decode cX7_smear 34 = .ok (.aload_n 0, 1) := by decide +kernel
theorem dX7_smear_35 : decode cX7_smear 35 = .ok (.getfield 35, 3) := by decide +kernel
theorem dX7_smear_38 : decode cX7_smear 38 = .ok (.iload_n 1, 1) := by decide +kernel
theorem dX7_smear_39 : decode cX7_smear 39 = .ok (.invokevirtual 176, 3) := by decide +kernel
theorem dX7_smear_42 : decode cX7_smear 42 = .ok (.ifCond .eq 6, 3) := by decide +kernel
theorem dX7_smear_45 : decode cX7_smear 45 = .ok (.bipush (-4), 2) := by decide +kernel
theorem dX7_smear_47 : decode cX7_smear 47 = .ok (.ireturn, 1) := by decide +kernel
theorem dX7_smear_48 : decode cX7_smear 48 = .ok (.aload_n 0, 1) := by decide +kernel
theorem dX7_smear_49 : decode cX7_smear 49 = .ok (.getfield 56, 3) := by decide +kernel
theorem dX7_smear_52 : decode cX7_smear 52 = .ok (.iload_n 1, 1) := by decide +kernel
theorem dX7_smear_53 : decode cX7_smear 53 = .ok (.iload_n 2, 1) := by decide +kernel
theorem dX7_smear_54 : decode cX7_smear 54 = .ok (.invokevirtual 212, 3) := by decide +kernel
theorem dX7_smear_57 : decode cX7_smear 57 = .ok (.aload_n 0, 1) := by decide +kernel
theorem dX7_smear_58 : decode cX7_smear 58 = .ok (.getfield 56, 3) := by decide +kernel
theorem dX7_smear_61 : decode cX7_smear 61 = .ok (.getfield 216, 3) := by decide +kernel
theorem dX7_smear_64 : decode cX7_smear 64 = .ok (.iload_n 3, 1) := by decide +kernel
theorem dX7_smear_65 : decode cX7_smear 65 = .ok (.iaload, 1) := by decide +kernel
theorem dX7_smear_66 : decode cX7_smear 66 = .ok (.ireturn, 1) := by decide +kernel
theorem dX7_quiet_0 : decode cX7_quiet 0 = .ok (.aload_n 0, 1) := by decide +kernel
theorem dX7_quiet_1 : decode cX7_quiet 1 = .ok (.iload_n 1, 1) := by decide +kernel
theorem dX7_quiet_2 : decode cX7_quiet 2 = .ok (.invokevirtual 106, 3) := by decide +kernel
theorem dX7_quiet_5 : decode cX7_quiet 5 = .ok (.ifCond .eq 11, 3) := by decide +kernel
theorem dX7_quiet_8 : decode cX7_quiet 8 = .ok (.aload_n 0, 1) := by decide +kernel
theorem dX7_quiet_9 : decode cX7_quiet 9 = .ok (.iload_n 2, 1) := by decide +kernel
theorem dX7_quiet_10 : decode cX7_quiet 10 = .ok (.invokevirtual 106, 3) := by decide +kernel
theorem dX7_quiet_13 : decode cX7_quiet 13 = .ok (.ifCond .ne 6, 3) := by decide +kernel
theorem dX7_quiet_16 : decode cX7_quiet 16 = .ok (.bipush (-2), 2) := by decide +kernel
theorem dX7_quiet_18 : decode cX7_quiet 18 = .ok (.ireturn, 1) := by decide +kernel
theorem dX7_quiet_19 : decode cX7_quiet 19 = .ok (.aload_n 0, 1) := by decide +kernel
theorem dX7_quiet_20 : decode cX7_quiet 20 = .ok (.getfield 56, 3) := by decide +kernel
theorem dX7_quiet_23 : decode cX7_quiet 23 = .ok (.iload_n 1, 1) := by decide +kernel
theorem dX7_quiet_24 : decode cX7_quiet 24 = .ok (.iload_n 2, 1) := by decide +kernel
theorem dX7_quiet_25 : decode cX7_quiet 25 = .ok (.iconst 1, 1) := by decide +kernel
theorem dX7_quiet_26 : decode cX7_quiet 26 = .ok (.invokevirtual 219, 3) := by decide +kernel
theorem dX7_quiet_29 : decode cX7_quiet 29 = .ok (.ireturn, 1) := by decide +kernel
theorem dX7_harm_0 : decode cX7_harm 0 = .ok (.aload_n 0, 1) := by decide +kernel
theorem dX7_harm_1 : decode cX7_harm 1 = .ok (.iload_n 1, 1) := by decide +kernel
theorem dX7_harm_2 : decode cX7_harm 2 = .ok (.invokevirtual 106, 3) := by decide +kernel
theorem dX7_harm_5 : decode cX7_harm 5 = .ok (.ifCond .ne 6, 3) := by decide +kernel
theorem dX7_harm_8 : decode cX7_harm 8 = .ok (.bipush (-2), 2) := by decide +kernel
theorem dX7_harm_10 : decode cX7_harm 10 = .ok (.ireturn, 1) := by decide +kernel
theorem dX7_harm_11 : decode cX7_harm 11 = .ok (.iload_n 2, 1) := by decide +kernel
theorem dX7_harm_12 : decode cX7_harm 12 = .ok (.iconst 1, 1) := by decide +kernel
theorem dX7_harm_13 : decode cX7_harm 13 = .ok (.if_icmp .lt 9, 3) := by decide +kernel
theorem dX7_harm_16 : decode cX7_harm 16 = .ok (.iload_n 2, 1) := by decide +kernel
theorem dX7_harm_17 : decode cX7_harm 17 = .ok (.bipush 99, 2) := by decide +kernel
theorem dX7_harm_19 : decode cX7_harm 19 = .ok (.if_icmp .le 6, 3) := by decide +kernel
theorem dX7_harm_22 : decode cX7_harm 22 = .ok (.bipush (-3), 2) := by decide +kernel
theorem dX7_harm_24 : decode cX7_harm 24 = .ok (.ireturn, 1) := by decide +kernel
theorem dX7_harm_25 : decode cX7_harm 25 = .ok (.aload_n 0, 1) := by decide +kernel
theorem dX7_harm_26 : decode cX7_harm 26 = .ok (.getfield 56, 3) := by decide +kernel
theorem dX7_harm_29 : decode cX7_harm 29 = .ok (.iconst (-1), 1) := by decide +kernel
theorem dX7_harm_30 : decode cX7_harm 30 = .ok (.iload_n 2, 1) := by decide +kernel
theorem dX7_harm_31 : decode cX7_harm 31 = .ok (.invokevirtual 223, 3) := by decide +kernel
theorem dX7_harm_34 : decode cX7_harm 34 = .ok (.aload_n 0, 1) := by decide +kernel
theorem dX7_harm_35 : decode cX7_harm 35 = .ok (.getfield 56, 3) := by decide +kernel
theorem dX7_harm_38 : decode cX7_harm 38 = .ok (.iload_n 1, 1) := by decide +kernel
theorem dX7_harm_39 : decode cX7_harm 39 = .ok (.iload_n 2, 1) := by decide +kernel
theorem dX7_harm_40 : decode cX7_harm 40 = .ok (.invokevirtual 223, 3) := by decide +kernel
theorem dX7_harm_43 : decode cX7_harm 43 = .ok (.isub, 1) := by decide +kernel
theorem dX7_harm_44 : decode cX7_harm 44 = .ok (.bipush 100, 2) := by decide +kernel
theorem dX7_harm_46 : decode cX7_harm 46 = .ok (.iadd, 1) := by decide +kernel
theorem dX7_harm_47 : decode cX7_harm 47 = .ok (.ireturn, 1) := by decide +kernel
theorem dX7_worst_0 : decode cX7_worst 0 = .ok (.iload_n 1, 1) := by decide +kernel
theorem dX7_worst_1 : decode cX7_worst 1 = .ok (.iconst 1, 1) := by decide +kernel
theorem dX7_worst_2 : decode cX7_worst 2 = .ok (.if_icmp .lt 9, 3) := by decide +kernel
theorem dX7_worst_5 : decode cX7_worst 5 = .ok (.iload_n 1, 1) := by decide +kernel
theorem dX7_worst_6 : decode cX7_worst 6 = .ok (.bipush 99, 2) := by decide +kernel
theorem dX7_worst_8 : decode cX7_worst 8 = .ok (.if_icmp .le 6, 3) := by decide +kernel
theorem dX7_worst_11 : decode cX7_worst 11 = .ok (.bipush (-3), 2) := by decide +kernel
theorem dX7_worst_13 : decode cX7_worst 13 = .ok (.ireturn, 1) := by decide +kernel
theorem dX7_worst_14 : decode cX7_worst 14 = .ok (.aload_n 0, 1) := by decide +kernel
theorem dX7_worst_15 : decode cX7_worst 15 = .ok (.getfield 56, 3) := by decide +kernel
theorem dX7_worst_18 : decode cX7_worst 18 = .ok (.iload_n 1, 1) := by decide +kernel
theorem dX7_worst_19 : decode cX7_worst 19 = .ok (.invokevirtual 226, 3) := by decide +kernel
theorem dX7_worst_22 : decode cX7_worst 22 = .ok (.ireturn, 1) := by decide +kernel
theorem dX7_seen_0 : decode cX7_seen 0 = .ok (.aload_n 0, 1) := by decide +kernel
theorem dX7_seen_1 : decode cX7_seen 1 = .ok (.iload_n 1, 1) := by decide +kernel
theorem dX7_seen_2 : decode cX7_seen 2 = .ok (.invokevirtual 137, 3) := by decide +kernel
theorem dX7_seen_5 : decode cX7_seen 5 = .ok (.ifCond .eq 11, 3) := by decide +kernel
theorem dX7_seen_8 : decode cX7_seen 8 = .ok (.aload_n 0, 1) := by decide +kernel
theorem dX7_seen_9 : decode cX7_seen 9 = .ok (.iload_n 2, 1) := by decide +kernel
theorem dX7_seen_10 : decode cX7_seen 10 = .ok (.invokevirtual 106, 3) := by decide +kernel
theorem dX7_seen_13 : decode cX7_seen 13 = .ok (.ifCond .ne 6, 3) := by decide +kernel
theorem dX7_seen_16 : decode cX7_seen 16 = .ok (.bipush (-2), 2) := by decide +kernel
theorem dX7_seen_18 : decode cX7_seen 18 = .ok (.ireturn, 1) := by decide +kernel
theorem dX7_seen_19 : decode cX7_seen 19 = .ok (.iload_n 3, 1) := by decide +kernel
theorem dX7_seen_20 : decode cX7_seen 20 = .ok (.ifCond .lt 9, 3) := by decide +kernel
theorem dX7_seen_23 : decode cX7_seen 23 = .ok (.iload_n 3, 1) := by decide +kernel
theorem dX7_seen_24 : decode cX7_seen 24 = .ok (.bipush 99, 2) := by decide +kernel
theorem dX7_seen_26 : decode cX7_seen 26 = .ok (.if_icmp .le 6, 3) := by decide +kernel
theorem dX7_seen_29 : decode cX7_seen 29 = .ok (.bipush (-3), 2) := by decide +kernel
theorem dX7_seen_31 : decode cX7_seen 31 = .ok (.ireturn, 1) := by decide +kernel
theorem dX7_seen_32 : decode cX7_seen 32 = .ok (.aload_n 0, 1) := by decide +kernel
theorem dX7_seen_33 : decode cX7_seen 33 = .ok (.getfield 63, 3) := by decide +kernel
theorem dX7_seen_36 : decode cX7_seen 36 = .ok (.getfield 229, 3) := by decide +kernel
theorem dX7_seen_39 : decode cX7_seen 39 = .ok (.bipush 6, 2) := by decide +kernel
theorem dX7_seen_41 : decode cX7_seen 41 = .ok (.if_icmp .lt 6, 3) := by decide +kernel
theorem dX7_seen_44 : decode cX7_seen 44 = .ok (.bipush (-5), 2) := by decide +kernel
theorem dX7_seen_46 : decode cX7_seen 46 = .ok (.ireturn, 1) := by decide +kernel
theorem dX7_seen_47 : decode cX7_seen 47 = .ok (.aload_n 0, 1) := by decide +kernel
theorem dX7_seen_48 : decode cX7_seen 48 = .ok (.getfield 63, 3) := by decide +kernel
theorem dX7_seen_51 : decode cX7_seen 51 = .ok (.iload_n 1, 1) := by decide +kernel
theorem dX7_seen_52 : decode cX7_seen 52 = .ok (.iload_n 2, 1) := by decide +kernel
theorem dX7_seen_53 : decode cX7_seen 53 = .ok (.iload_n 3, 1) := by decide +kernel
theorem dX7_seen_54 : decode cX7_seen 54 = .ok (.invokevirtual 232, 3) := by decide +kernel
theorem dX7_seen_57 : decode cX7_seen 57 = .ok (.ireturn, 1) := by decide +kernel
theorem dX7_forget_0 : decode cX7_forget 0 = .ok (.aload_n 0, 1) := by decide +kernel
theorem dX7_forget_1 : decode cX7_forget 1 = .ok (.getfield 63, 3) := by decide +kernel
theorem dX7_forget_4 : decode cX7_forget 4 = .ok (.invokevirtual 100, 3) := by decide +kernel
theorem dX7_forget_7 : decode cX7_forget 7 = .ok (.ireturn, 1) := by decide +kernel
theorem dX7_stamps_0 : decode cX7_stamps 0 = .ok (.aload_n 0, 1) := by decide +kernel
theorem dX7_stamps_1 : decode cX7_stamps 1 = .ok (.iload_n 1, 1) := by decide +kernel
theorem dX7_stamps_2 : decode cX7_stamps 2 = .ok (.invokevirtual 137, 3) := by decide +kernel
theorem dX7_stamps_5 : decode cX7_stamps 5 = .ok (.ifCond .ne 6, 3) := by decide +kernel
theorem dX7_stamps_8 : decode cX7_stamps 8 = .ok (.bipush (-2), 2) := by decide +kernel
theorem dX7_stamps_10 : decode cX7_stamps 10 = .ok (.ireturn, 1) := by decide +kernel
theorem dX7_stamps_11 : decode cX7_stamps 11 = .ok (.aload_n 0, 1) := by decide +kernel
theorem dX7_stamps_12 : decode cX7_stamps 12 = .ok (.getfield 56, 3) := by decide +kernel
theorem dX7_stamps_15 : decode cX7_stamps 15 = .ok (.aload_n 0, 1) := by decide +kernel
theorem dX7_stamps_16 : decode cX7_stamps 16 = .ok (.getfield 63, 3) := by decide +kernel
theorem dX7_stamps_19 : decode cX7_stamps 19 = .ok (.iload_n 1, 1) := by decide +kernel
theorem dX7_stamps_20 : decode cX7_stamps 20 = .ok (.invokevirtual 236, 3) := by decide +kernel
theorem dX7_stamps_23 : decode cX7_stamps 23 = .ok (.ireturn, 1) := by decide +kernel
theorem dX7_crumbs_0 : decode cX7_crumbs 0 = .ok (.aload_n 0, 1) := by decide +kernel
theorem dX7_crumbs_1 : decode cX7_crumbs 1 = .ok (.iload_n 1, 1) := by decide +kernel
theorem dX7_crumbs_2 : decode cX7_crumbs 2 = .ok (.invokevirtual 106, 3) := by decide +kernel
theorem dX7_crumbs_5 : decode cX7_crumbs 5 = .ok (.ifCond .ne 6, 3) := by decide +kernel
theorem dX7_crumbs_8 : decode cX7_crumbs 8 = .ok (.bipush (-2), 2) := by decide +kernel
theorem dX7_crumbs_10 : decode cX7_crumbs 10 = .ok (.ireturn, 1) := by decide +kernel
theorem dX7_crumbs_11 : decode cX7_crumbs 11 = .ok (.iload_n 2, 1) := by decide +kernel
theorem dX7_crumbs_12 : decode cX7_crumbs 12 = .ok (.ifCond .lt 9, 3) := by decide +kernel
theorem dX7_crumbs_15 : decode cX7_crumbs 15 = .ok (.iload_n 2, 1) := by decide +kernel
theorem dX7_crumbs_16 : decode cX7_crumbs 16 = .ok (.bipush 99, 2) := by decide +kernel
theorem dX7_crumbs_18 : decode cX7_crumbs 18 = .ok (.if_icmp .le 6, 3) := by decide +kernel
theorem dX7_crumbs_21 : decode cX7_crumbs 21 = .ok (.bipush (-3), 2) := by decide +kernel
theorem dX7_crumbs_23 : decode cX7_crumbs 23 = .ok (.ireturn, 1) := by decide +kernel
theorem dX7_crumbs_24 : decode cX7_crumbs 24 = .ok (.aload_n 0, 1) := by decide +kernel
theorem dX7_crumbs_25 : decode cX7_crumbs 25 = .ok (.getfield 70, 3) := by decide +kernel
theorem dX7_crumbs_28 : decode cX7_crumbs 28 = .ok (.getfield 240, 3) := by decide +kernel
theorem dX7_crumbs_31 : decode cX7_crumbs 31 = .ok (.iload_n 1, 1) := by decide +kernel
theorem dX7_crumbs_32 : decode cX7_crumbs 32 = .ok (.iaload, 1) := by decide +kernel
theorem dX7_crumbs_33 : decode cX7_crumbs 33 = .ok (.istore_n 3, 1) := by decide +kernel
theorem dX7_crumbs_34 : decode cX7_crumbs 34 = .ok (.aload_n 0, 1) := by decide +kernel
theorem dX7_crumbs_35 : decode cX7_crumbs 35 = .ok (.getfield 70, 3) := by decide +kernel
theorem dX7_crumbs_38 : decode cX7_crumbs 38 = .ok (.getfield 240, 3) := by decide +kernel
theorem dX7_crumbs_41 : decode cX7_crumbs 41 = .ok (.iload_n 1, 1) := by decide +kernel
theorem dX7_crumbs_42 : decode cX7_crumbs 42 = .ok (.iload_n 2, 1) := by decide +kernel
theorem dX7_crumbs_43 : decode cX7_crumbs 43 = .ok (.iastore, 1) := by decide +kernel
theorem dX7_crumbs_44 : decode cX7_crumbs 44 = .ok (.iload_n 3, 1) := by decide +kernel
theorem dX7_crumbs_45 : decode cX7_crumbs 45 = .ok (.ireturn, 1) := by decide +kernel
theorem dX7_odds_0 : decode cX7_odds 0 = .ok (.aload_n 0, 1) := by decide +kernel
theorem dX7_odds_1 : decode cX7_odds 1 = .ok (.iload_n 1, 1) := by decide +kernel
theorem dX7_odds_2 : decode cX7_odds 2 = .ok (.invokevirtual 106, 3) := by decide +kernel
theorem dX7_odds_5 : decode cX7_odds 5 = .ok (.ifCond .ne 6, 3) := by decide +kernel
theorem dX7_odds_8 : decode cX7_odds 8 = .ok (.bipush (-2), 2) := by decide +kernel
theorem dX7_odds_10 : decode cX7_odds 10 = .ok (.ireturn, 1) := by decide +kernel
theorem dX7_odds_11 : decode cX7_odds 11 = .ok (.iload_n 2, 1) := by decide +kernel
theorem dX7_odds_12 : decode cX7_odds 12 = .ok (.ifCond .lt 8, 3) := by decide +kernel
theorem dX7_odds_15 : decode cX7_odds 15 = .ok (.iload_n 2, 1) := by decide +kernel
theorem dX7_odds_16 : decode cX7_odds 16 = .ok (.iconst 1, 1) := by decide +kernel
theorem dX7_odds_17 : decode cX7_odds 17 = .ok (.if_icmp .le 6, 3) := by decide +kernel
theorem dX7_odds_20 : decode cX7_odds 20 = .ok (.bipush (-3), 2) := by decide +kernel
theorem dX7_odds_22 : decode cX7_odds 22 = .ok (.ireturn, 1) := by decide +kernel
theorem dX7_odds_23 : decode cX7_odds 23 = .ok (.aload_n 0, 1) := by decide +kernel
theorem dX7_odds_24 : decode cX7_odds 24 = .ok (.getfield 70, 3) := by decide +kernel
theorem dX7_odds_27 : decode cX7_odds 27 = .ok (.invokevirtual 241, 3) := by decide +kernel
theorem dX7_odds_30 : decode cX7_odds 30 = .ok (.istore_n 3, 1) := by decide +kernel
theorem dX7_odds_31 : decode cX7_odds 31 = .ok (.iload_n 3, 1) := by decide +kernel
theorem dX7_odds_32 : decode cX7_odds 32 = .ok (.iconst 1, 1) := by decide +kernel
theorem dX7_odds_33 : decode cX7_odds 33 = .ok (.if_icmp .ge 6, 3) := by decide +kernel
theorem dX7_odds_36 : decode cX7_odds 36 = .ok (.bipush (-4), 2) := by decide +kernel
theorem dX7_odds_38 : decode cX7_odds 38 = .ok (.ireturn, 1) := by decide +kernel
theorem dX7_odds_39 : decode cX7_odds 39 = .ok (.aload_n 0, 1) := by decide +kernel
theorem dX7_odds_40 : decode cX7_odds 40 = .ok (.getfield 70, 3) := by decide +kernel
theorem dX7_odds_43 : decode cX7_odds 43 = .ok (.getfield 240, 3) := by decide +kernel
theorem dX7_odds_46 : decode cX7_odds 46 = .ok (.iload_n 1, 1) := by decide +kernel
theorem dX7_odds_47 : decode cX7_odds 47 = .ok (.iaload, 1) := by decide +kernel
theorem dX7_odds_48 : decode cX7_odds 48 = .ok (.istore 4, 2) := by decide +kernel
theorem dX7_odds_50 : decode cX7_odds 50 = .ok (.iload 4, 2) := by decide +kernel
theorem dX7_odds_52 : decode cX7_odds 52 = .ok (.iload_n 3, 1) := by decide +kernel
theorem dX7_odds_53 : decode cX7_odds 53 = .ok (.invokestatic 244, 3) := by decide +kernel
theorem dX7_odds_56 : decode cX7_odds 56 = .ok (.istore 5, 2) := by decide +kernel
theorem dX7_odds_58 : decode cX7_odds 58 = .ok (.iload_n 2, 1) := by decide +kernel
theorem dX7_odds_59 : decode cX7_odds 59 = .ok (.ifCond .ne 8, 3) := by decide +kernel
theorem dX7_odds_62 : decode cX7_odds 62 = .ok (.iload 4, 2) := by decide +kernel
theorem dX7_odds_64 : decode cX7_odds 64 = .ok (.goto 4, 3) := by decide +kernel
theorem dX7_odds_67 : decode cX7_odds 67 = .ok (.iload_n 3, 1) := by decide +kernel
theorem dX7_odds_68 : decode cX7_odds 68 = .ok (.iload 5, 2) := by decide +kernel
theorem dX7_odds_70 : decode cX7_odds 70 = .ok (.idiv, 1) := by decide +kernel
theorem dX7_odds_71 : decode cX7_odds 71 = .ok (.ireturn, 1) := by decide +kernel
theorem dX7_count_0 : decode cX7_count 0 = .ok (.iload_n 1, 1) := by decide +kernel
theorem dX7_count_1 : decode cX7_count 1 = .ok (.tableswitch 135 0 9 #[55, 63, 71, 79, 87, 95, 103, 111, 119, 127], 55) := by decide +kernel
theorem dX7_count_56 : decode cX7_count 56 = .ok (.aload_n 0, 1) := by decide +kernel
theorem dX7_count_57 : decode cX7_count 57 = .ok (.getfield 19, 3) := by decide +kernel
theorem dX7_count_60 : decode cX7_count 60 = .ok (.getfield 247, 3) := by decide +kernel
theorem dX7_count_63 : decode cX7_count 63 = .ok (.ireturn, 1) := by decide +kernel
theorem dX7_count_64 : decode cX7_count 64 = .ok (.aload_n 0, 1) := by decide +kernel
theorem dX7_count_65 : decode cX7_count 65 = .ok (.getfield 19, 3) := by decide +kernel
theorem dX7_count_68 : decode cX7_count 68 = .ok (.getfield 179, 3) := by decide +kernel
theorem dX7_count_71 : decode cX7_count 71 = .ok (.ireturn, 1) := by decide +kernel
theorem dX7_count_72 : decode cX7_count 72 = .ok (.aload_n 0, 1) := by decide +kernel
theorem dX7_count_73 : decode cX7_count 73 = .ok (.getfield 19, 3) := by decide +kernel
theorem dX7_count_76 : decode cX7_count 76 = .ok (.getfield 114, 3) := by decide +kernel
theorem dX7_count_79 : decode cX7_count 79 = .ok (.ireturn, 1) := by decide +kernel
theorem dX7_count_80 : decode cX7_count 80 = .ok (.aload_n 0, 1) := by decide +kernel
theorem dX7_count_81 : decode cX7_count 81 = .ok (.getfield 19, 3) := by decide +kernel
theorem dX7_count_84 : decode cX7_count 84 = .ok (.getfield 250, 3) := by decide +kernel
theorem dX7_count_87 : decode cX7_count 87 = .ok (.ireturn, 1) := by decide +kernel
theorem dX7_count_88 : decode cX7_count 88 = .ok (.aload_n 0, 1) := by decide +kernel
theorem dX7_count_89 : decode cX7_count 89 = .ok (.getfield 35, 3) := by decide +kernel
theorem dX7_count_92 : decode cX7_count 92 = .ok (.getfield 253, 3) := by decide +kernel
theorem dX7_count_95 : decode cX7_count 95 = .ok (.ireturn, 1) := by decide +kernel
theorem dX7_count_96 : decode cX7_count 96 = .ok (.aload_n 0, 1) := by decide +kernel
theorem dX7_count_97 : decode cX7_count 97 = .ok (.getfield 35, 3) := by decide +kernel
theorem dX7_count_100 : decode cX7_count 100 = .ok (.getfield 162, 3) := by decide +kernel
theorem dX7_count_103 : decode cX7_count 103 = .ok (.ireturn, 1) := by decide +kernel
theorem dX7_count_104 : decode cX7_count 104 = .ok (.aload_n 0, 1) := by decide +kernel
theorem dX7_count_105 : decode cX7_count 105 = .ok (.getfield 35, 3) := by decide +kernel
theorem dX7_count_108 : decode cX7_count 108 = .ok (.getfield 185, 3) := by decide +kernel
theorem dX7_count_111 : decode cX7_count 111 = .ok (.ireturn, 1) := by decide +kernel
theorem dX7_count_112 : decode cX7_count 112 = .ok (.aload_n 0, 1) := by decide +kernel
theorem dX7_count_113 : decode cX7_count 113 = .ok (.getfield 35, 3) := by decide +kernel
theorem dX7_count_116 : decode cX7_count 116 = .ok (.getfield 198, 3) := by decide +kernel
theorem dX7_count_119 : decode cX7_count 119 = .ok (.ireturn, 1) := by decide +kernel
theorem dX7_count_120 : decode cX7_count 120 = .ok (.aload_n 0, 1) := by decide +kernel
theorem dX7_count_121 : decode cX7_count 121 = .ok (.getfield 63, 3) := by decide +kernel
theorem dX7_count_124 : decode cX7_count 124 = .ok (.getfield 229, 3) := by decide +kernel
theorem dX7_count_127 : decode cX7_count 127 = .ok (.ireturn, 1) := by decide +kernel
theorem dX7_count_128 : decode cX7_count 128 = .ok (.aload_n 0, 1) := by decide +kernel
theorem dX7_count_129 : decode cX7_count 129 = .ok (.getfield 10, 3) := by decide +kernel
theorem dX7_count_132 : decode cX7_count 132 = .ok (.getfield 74, 3) := by decide +kernel
theorem dX7_count_135 : decode cX7_count 135 = .ok (.ireturn, 1) := by decide +kernel
theorem dX7_count_136 : decode cX7_count 136 = .ok (.bipush (-3), 2) := by decide +kernel
theorem dX7_count_138 : decode cX7_count 138 = .ok (.ireturn, 1) := by decide +kernel
theorem dX7_isDesk_0 : decode cX7_isDesk 0 = .ok (.iload_n 1, 1) := by decide +kernel
theorem dX7_isDesk_1 : decode cX7_isDesk 1 = .ok (.ifCond .lt 18, 3) := by decide +kernel
theorem dX7_isDesk_4 : decode cX7_isDesk 4 = .ok (.iload_n 1, 1) := by decide +kernel
theorem dX7_isDesk_5 : decode cX7_isDesk 5 = .ok (.aload_n 0, 1) := by decide +kernel
theorem dX7_isDesk_6 : decode cX7_isDesk 6 = .ok (.getfield 19, 3) := by decide +kernel
theorem dX7_isDesk_9 : decode cX7_isDesk 9 = .ok (.getfield 247, 3) := by decide +kernel
theorem dX7_isDesk_12 : decode cX7_isDesk 12 = .ok (.if_icmp .ge 7, 3) := by decide +kernel
theorem dX7_isDesk_15 : decode cX7_isDesk 15 = .ok (.iconst 1, 1) := by decide +kernel
theorem dX7_isDesk_16 : decode cX7_isDesk 16 = .ok (.goto 4, 3) := by decide +kernel
theorem dX7_isDesk_19 : decode cX7_isDesk 19 = .ok (.iconst 0, 1) := by decide +kernel
theorem dX7_isDesk_20 : decode cX7_isDesk 20 = .ok (.ireturn, 1) := by decide +kernel
theorem dX7_isTrail_0 : decode cX7_isTrail 0 = .ok (.iload_n 1, 1) := by decide +kernel
theorem dX7_isTrail_1 : decode cX7_isTrail 1 = .ok (.ifCond .lt 18, 3) := by decide +kernel
theorem dX7_isTrail_4 : decode cX7_isTrail 4 = .ok (.iload_n 1, 1) := by decide +kernel
theorem dX7_isTrail_5 : decode cX7_isTrail 5 = .ok (.aload_n 0, 1) := by decide +kernel
theorem dX7_isTrail_6 : decode cX7_isTrail 6 = .ok (.getfield 19, 3) := by decide +kernel
theorem dX7_isTrail_9 : decode cX7_isTrail 9 = .ok (.getfield 179, 3) := by decide +kernel
theorem dX7_isTrail_12 : decode cX7_isTrail 12 = .ok (.if_icmp .ge 7, 3) := by decide +kernel
theorem dX7_isTrail_15 : decode cX7_isTrail 15 = .ok (.iconst 1, 1) := by decide +kernel
theorem dX7_isTrail_16 : decode cX7_isTrail 16 = .ok (.goto 4, 3) := by decide +kernel
theorem dX7_isTrail_19 : decode cX7_isTrail 19 = .ok (.iconst 0, 1) := by decide +kernel
theorem dX7_isTrail_20 : decode cX7_isTrail 20 = .ok (.ireturn, 1) := by decide +kernel
theorem dX7_isFile_0 : decode cX7_isFile 0 = .ok (.iload_n 1, 1) := by decide +kernel
theorem dX7_isFile_1 : decode cX7_isFile 1 = .ok (.ifCond .lt 18, 3) := by decide +kernel
theorem dX7_isFile_4 : decode cX7_isFile 4 = .ok (.iload_n 1, 1) := by decide +kernel
theorem dX7_isFile_5 : decode cX7_isFile 5 = .ok (.aload_n 0, 1) := by decide +kernel
theorem dX7_isFile_6 : decode cX7_isFile 6 = .ok (.getfield 19, 3) := by decide +kernel
theorem dX7_isFile_9 : decode cX7_isFile 9 = .ok (.getfield 114, 3) := by decide +kernel
theorem dX7_isFile_12 : decode cX7_isFile 12 = .ok (.if_icmp .ge 7, 3) := by decide +kernel
theorem dX7_isFile_15 : decode cX7_isFile 15 = .ok (.iconst 1, 1) := by decide +kernel
theorem dX7_isFile_16 : decode cX7_isFile 16 = .ok (.goto 4, 3) := by decide +kernel
theorem dX7_isFile_19 : decode cX7_isFile 19 = .ok (.iconst 0, 1) := by decide +kernel
theorem dX7_isFile_20 : decode cX7_isFile 20 = .ok (.ireturn, 1) := by decide +kernel
theorem dL_law_0 : decode cL_law 0 = .ok (.new 7, 3) := by decide +kernel
theorem dL_law_3 : decode cL_law 3 = .ok (.dup, 1) := by decide +kernel
theorem dL_law_4 : decode cL_law 4 = .ok (.invokespecial 9, 3) := by decide +kernel
theorem dL_law_7 : decode cL_law 7 = .ok (.astore_n 1, 1) := by decide +kernel
theorem dL_law_8 : decode cL_law 8 = .ok (.new 10, 3) := by decide +kernel
theorem dL_law_11 : decode cL_law 11 = .ok (.dup, 1) := by decide +kernel
theorem dL_law_12 : decode cL_law 12 = .ok (.invokespecial 12, 3) := by decide +kernel
theorem dL_law_15 : decode cL_law 15 = .ok (.astore_n 2, 1) := by decide +kernel
theorem dL_law_16 : decode cL_law 16 = .ok (.iconst 0, 1) := by decide +kernel
theorem dL_law_17 : decode cL_law 17 = .ok (.istore_n 3, 1) := by decide +kernel
theorem dL_law_18 : decode cL_law 18 = .ok (.iload_n 3, 1) := by decide +kernel
theorem dL_law_19 : decode cL_law 19 = .ok (.aload_n 0, 1) := by decide +kernel
theorem dL_law_20 : decode cL_law 20 = .ok (.arraylength, 1) := by decide +kernel
theorem dL_law_21 : decode cL_law 21 = .ok (.iconst 4, 1) := by decide +kernel
theorem dL_law_22 : decode cL_law 22 = .ok (.isub, 1) := by decide +kernel
theorem dL_law_23 : decode cL_law 23 = .ok (.if_icmp .gt 1021, 3) := by decide +kernel
theorem dL_law_26 : decode cL_law 26 = .ok (.aload_n 0, 1) := by decide +kernel
theorem dL_law_27 : decode cL_law 27 = .ok (.iload_n 3, 1) := by decide +kernel
theorem dL_law_28 : decode cL_law 28 = .ok (.iaload, 1) := by decide +kernel
theorem dL_law_29 : decode cL_law 29 = .ok (.bipush 31, 2) := by decide +kernel
theorem dL_law_31 : decode cL_law 31 = .ok (.iand, 1) := by decide +kernel
theorem dL_law_32 : decode cL_law 32 = .ok (.tableswitch 1006 0 29 #[136, 199, 212, 225, 238, 271, 304, 337, 370, 393, 416, 449, 482, 495, 518, 541, 564, 607, 630, 663, 706, 749, 782, 815, 838, 881, 894, 917, 950, 983], 136) := by decide +kernel
theorem dL_law_168 : decode cL_law 168 = .ok (.aload_n 1, 1) := by decide +kernel
theorem dL_law_169 : decode cL_law 169 = .ok (.aload_n 0, 1) := by decide +kernel
theorem dL_law_170 : decode cL_law 170 = .ok (.iload_n 3, 1) := by decide +kernel
theorem dL_law_171 : decode cL_law 171 = .ok (.iconst 1, 1) := by decide +kernel
theorem dL_law_172 : decode cL_law 172 = .ok (.iadd, 1) := by decide +kernel
theorem dL_law_173 : decode cL_law 173 = .ok (.iaload, 1) := by decide +kernel
theorem dL_law_174 : decode cL_law 174 = .ok (.i2l, 1) := by decide +kernel
theorem dL_law_175 : decode cL_law 175 = .ok (.bipush 32, 2) := by decide +kernel
theorem dL_law_177 : decode cL_law 177 = .ok (.lshl, 1) := by decide +kernel
theorem dL_law_178 : decode cL_law 178 = .ok (.aload_n 0, 1) := by decide +kernel
theorem dL_law_179 : decode cL_law 179 = .ok (.iload_n 3, 1) := by decide +kernel
theorem dL_law_180 : decode cL_law 180 = .ok (.iconst 2, 1) := by decide +kernel
theorem dL_law_181 : decode cL_law 181 = .ok (.iadd, 1) := by decide +kernel
theorem dL_law_182 : decode cL_law 182 = .ok (.iaload, 1) := by decide +kernel
theorem dL_law_183 : decode cL_law 183 = .ok (.i2l, 1) := by decide +kernel
theorem dL_law_184 : decode cL_law 184 = .ok (.ldc2_w 13, 3) := by decide +kernel
theorem dL_law_187 : decode cL_law 187 = .ok (.land, 1) := by decide +kernel
theorem dL_law_188 : decode cL_law 188 = .ok (.lor, 1) := by decide +kernel
theorem dL_law_189 : decode cL_law 189 = .ok (.aload_n 0, 1) := by decide +kernel
theorem dL_law_190 : decode cL_law 190 = .ok (.iload_n 3, 1) := by decide +kernel
theorem dL_law_191 : decode cL_law 191 = .ok (.iconst 3, 1) := by decide +kernel
theorem dL_law_192 : decode cL_law 192 = .ok (.iadd, 1) := by decide +kernel
theorem dL_law_193 : decode cL_law 193 = .ok (.iaload, 1) := by decide +kernel
theorem dL_law_194 : decode cL_law 194 = .ok (.invokevirtual 15, 3) := by decide +kernel
theorem dL_law_197 : decode cL_law 197 = .ok (.aload_n 2, 1) := by decide +kernel
theorem dL_law_198 : decode cL_law 198 = .ok (.aload_n 0, 1) := by decide +kernel
theorem dL_law_199 : decode cL_law 199 = .ok (.iload_n 3, 1) := by decide +kernel
theorem dL_law_200 : decode cL_law 200 = .ok (.iconst 1, 1) := by decide +kernel
theorem dL_law_201 : decode cL_law 201 = .ok (.iadd, 1) := by decide +kernel
theorem dL_law_202 : decode cL_law 202 = .ok (.iaload, 1) := by decide +kernel
theorem dL_law_203 : decode cL_law 203 = .ok (.i2l, 1) := by decide +kernel
theorem dL_law_204 : decode cL_law 204 = .ok (.bipush 32, 2) := by decide +kernel
theorem dL_law_206 : decode cL_law 206 = .ok (.lshl, 1) := by decide +kernel
theorem dL_law_207 : decode cL_law 207 = .ok (.aload_n 0, 1) := by decide +kernel
theorem dL_law_208 : decode cL_law 208 = .ok (.iload_n 3, 1) := by decide +kernel
theorem dL_law_209 : decode cL_law 209 = .ok (.iconst 2, 1) := by decide +kernel
theorem dL_law_210 : decode cL_law 210 = .ok (.iadd, 1) := by decide +kernel
theorem dL_law_211 : decode cL_law 211 = .ok (.iaload, 1) := by decide +kernel
theorem dL_law_212 : decode cL_law 212 = .ok (.i2l, 1) := by decide +kernel
theorem dL_law_213 : decode cL_law 213 = .ok (.ldc2_w 13, 3) := by decide +kernel
theorem dL_law_216 : decode cL_law 216 = .ok (.land, 1) := by decide +kernel
theorem dL_law_217 : decode cL_law 217 = .ok (.lor, 1) := by decide +kernel
theorem dL_law_218 : decode cL_law 218 = .ok (.aload_n 0, 1) := by decide +kernel
theorem dL_law_219 : decode cL_law 219 = .ok (.iload_n 3, 1) := by decide +kernel
theorem dL_law_220 : decode cL_law 220 = .ok (.iconst 3, 1) := by decide +kernel
theorem dL_law_221 : decode cL_law 221 = .ok (.iadd, 1) := by decide +kernel
theorem dL_law_222 : decode cL_law 222 = .ok (.iaload, 1) := by decide +kernel
theorem dL_law_223 : decode cL_law 223 = .ok (.invokevirtual 19, 3) := by decide +kernel
theorem dL_law_226 : decode cL_law 226 = .ok (.if_icmp .eq 812, 3) := by decide +kernel
theorem dL_law_229 : decode cL_law 229 = .ok (.iconst 0, 1) := by decide +kernel
theorem dL_law_230 : decode cL_law 230 = .ok (.ireturn, 1) := by decide +kernel
theorem dL_law_231 : decode cL_law 231 = .ok (.aload_n 1, 1) := by decide +kernel
theorem dL_law_232 : decode cL_law 232 = .ok (.invokevirtual 20, 3) := by decide +kernel
theorem dL_law_235 : decode cL_law 235 = .ok (.aload_n 2, 1) := by decide +kernel
theorem dL_law_236 : decode cL_law 236 = .ok (.invokevirtual 24, 3) := by decide +kernel
theorem dL_law_239 : decode cL_law 239 = .ok (.if_icmp .eq 799, 3) := by decide +kernel
theorem dL_law_242 : decode cL_law 242 = .ok (.iconst 0, 1) := by decide +kernel
theorem dL_law_243 : decode cL_law 243 = .ok (.ireturn, 1) := by decide +kernel
theorem dL_law_244 : decode cL_law 244 = .ok (.aload_n 1, 1) := by decide +kernel
theorem dL_law_245 : decode cL_law 245 = .ok (.invokevirtual 25, 3) := by decide +kernel
theorem dL_law_248 : decode cL_law 248 = .ok (.aload_n 2, 1) := by decide +kernel
theorem dL_law_249 : decode cL_law 249 = .ok (.invokevirtual 28, 3) := by decide +kernel
theorem dL_law_252 : decode cL_law 252 = .ok (.if_icmp .eq 786, 3) := by decide +kernel
theorem dL_law_255 : decode cL_law 255 = .ok (.iconst 0, 1) := by decide +kernel
theorem dL_law_256 : decode cL_law 256 = .ok (.ireturn, 1) := by decide +kernel
theorem dL_law_257 : decode cL_law 257 = .ok (.aload_n 1, 1) := by decide +kernel
theorem dL_law_258 : decode cL_law 258 = .ok (.invokevirtual 29, 3) := by decide +kernel
theorem dL_law_261 : decode cL_law 261 = .ok (.aload_n 2, 1) := by decide +kernel
theorem dL_law_262 : decode cL_law 262 = .ok (.invokevirtual 32, 3) := by decide +kernel
theorem dL_law_265 : decode cL_law 265 = .ok (.if_icmp .eq 773, 3) := by decide +kernel
theorem dL_law_268 : decode cL_law 268 = .ok (.iconst 0, 1) := by decide +kernel
theorem dL_law_269 : decode cL_law 269 = .ok (.ireturn, 1) := by decide +kernel
theorem dL_law_270 : decode cL_law 270 = .ok (.aload_n 1, 1) := by decide +kernel
theorem dL_law_271 : decode cL_law 271 = .ok (.aload_n 0, 1) := by decide +kernel
theorem dL_law_272 : decode cL_law 272 = .ok (.iload_n 3, 1) := by decide +kernel
theorem dL_law_273 : decode cL_law 273 = .ok (.iconst 1, 1) := by decide +kernel
theorem dL_law_274 : decode cL_law 274 = .ok (.iadd, 1) := by decide +kernel
theorem dL_law_275 : decode cL_law 275 = .ok (.iaload, 1) := by decide +kernel
theorem dL_law_276 : decode cL_law 276 = .ok (.aload_n 0, 1) := by decide +kernel
theorem dL_law_277 : decode cL_law 277 = .ok (.iload_n 3, 1) := by decide +kernel
theorem dL_law_278 : decode cL_law 278 = .ok (.iconst 2, 1) := by decide +kernel
theorem dL_law_279 : decode cL_law 279 = .ok (.iadd, 1) := by decide +kernel
theorem dL_law_280 : decode cL_law 280 = .ok (.iaload, 1) := by decide +kernel
theorem dL_law_281 : decode cL_law 281 = .ok (.invokevirtual 33, 3) := by decide +kernel
theorem dL_law_284 : decode cL_law 284 = .ok (.aload_n 2, 1) := by decide +kernel
theorem dL_law_285 : decode cL_law 285 = .ok (.aload_n 0, 1) := by decide +kernel
theorem dL_law_286 : decode cL_law 286 = .ok (.iload_n 3, 1) := by decide +kernel
theorem dL_law_287 : decode cL_law 287 = .ok (.iconst 1, 1) := by decide +kernel
theorem dL_law_288 : decode cL_law 288 = .ok (.iadd, 1) := by decide +kernel
theorem dL_law_289 : decode cL_law 289 = .ok (.iaload, 1) := by decide +kernel
theorem dL_law_290 : decode cL_law 290 = .ok (.aload_n 0, 1) := by decide +kernel
theorem dL_law_291 : decode cL_law 291 = .ok (.iload_n 3, 1) := by decide +kernel
theorem dL_law_292 : decode cL_law 292 = .ok (.iconst 2, 1) := by decide +kernel
theorem dL_law_293 : decode cL_law 293 = .ok (.iadd, 1) := by decide +kernel
theorem dL_law_294 : decode cL_law 294 = .ok (.iaload, 1) := by decide +kernel
theorem dL_law_295 : decode cL_law 295 = .ok (.invokevirtual 37, 3) := by decide +kernel
theorem dL_law_298 : decode cL_law 298 = .ok (.if_icmp .eq 740, 3) := by decide +kernel
theorem dL_law_301 : decode cL_law 301 = .ok (.iconst 0, 1) := by decide +kernel
theorem dL_law_302 : decode cL_law 302 = .ok (.ireturn, 1) := by decide +kernel
theorem dL_law_303 : decode cL_law 303 = .ok (.aload_n 1, 1) := by decide +kernel
theorem dL_law_304 : decode cL_law 304 = .ok (.aload_n 0, 1) := by decide +kernel
theorem dL_law_305 : decode cL_law 305 = .ok (.iload_n 3, 1) := by decide +kernel
theorem dL_law_306 : decode cL_law 306 = .ok (.iconst 1, 1) := by decide +kernel
theorem dL_law_307 : decode cL_law 307 = .ok (.iadd, 1) := by decide +kernel
theorem dL_law_308 : decode cL_law 308 = .ok (.iaload, 1) := by decide +kernel
theorem dL_law_309 : decode cL_law 309 = .ok (.aload_n 0, 1) := by decide +kernel
theorem dL_law_310 : decode cL_law 310 = .ok (.iload_n 3, 1) := by decide +kernel
theorem dL_law_311 : decode cL_law 311 = .ok (.iconst 2, 1) := by decide +kernel
theorem dL_law_312 : decode cL_law 312 = .ok (.iadd, 1) := by decide +kernel
theorem dL_law_313 : decode cL_law 313 = .ok (.iaload, 1) := by decide +kernel
theorem dL_law_314 : decode cL_law 314 = .ok (.invokevirtual 38, 3) := by decide +kernel
theorem dL_law_317 : decode cL_law 317 = .ok (.aload_n 2, 1) := by decide +kernel
theorem dL_law_318 : decode cL_law 318 = .ok (.aload_n 0, 1) := by decide +kernel
theorem dL_law_319 : decode cL_law 319 = .ok (.iload_n 3, 1) := by decide +kernel
theorem dL_law_320 : decode cL_law 320 = .ok (.iconst 1, 1) := by decide +kernel
theorem dL_law_321 : decode cL_law 321 = .ok (.iadd, 1) := by decide +kernel
theorem dL_law_322 : decode cL_law 322 = .ok (.iaload, 1) := by decide +kernel
theorem dL_law_323 : decode cL_law 323 = .ok (.aload_n 0, 1) := by decide +kernel
theorem dL_law_324 : decode cL_law 324 = .ok (.iload_n 3, 1) := by decide +kernel
theorem dL_law_325 : decode cL_law 325 = .ok (.iconst 2, 1) := by decide +kernel
theorem dL_law_326 : decode cL_law 326 = .ok (.iadd, 1) := by decide +kernel
theorem dL_law_327 : decode cL_law 327 = .ok (.iaload, 1) := by decide +kernel
theorem dL_law_328 : decode cL_law 328 = .ok (.invokevirtual 41, 3) := by decide +kernel
theorem dL_law_331 : decode cL_law 331 = .ok (.if_icmp .eq 707, 3) := by decide +kernel
theorem dL_law_334 : decode cL_law 334 = .ok (.iconst 0, 1) := by decide +kernel
theorem dL_law_335 : decode cL_law 335 = .ok (.ireturn, 1) := by decide +kernel
theorem dL_law_336 : decode cL_law 336 = .ok (.aload_n 1, 1) := by decide +kernel
theorem dL_law_337 : decode cL_law 337 = .ok (.aload_n 0, 1) := by decide +kernel
theorem dL_law_338 : decode cL_law 338 = .ok (.iload_n 3, 1) := by decide +kernel
theorem dL_law_339 : decode cL_law 339 = .ok (.iconst 1, 1) := by decide +kernel
theorem dL_law_340 : decode cL_law 340 = .ok (.iadd, 1) := by decide +kernel
theorem dL_law_341 : decode cL_law 341 = .ok (.iaload, 1) := by decide +kernel
theorem dL_law_342 : decode cL_law 342 = .ok (.aload_n 0, 1) := by decide +kernel
theorem dL_law_343 : decode cL_law 343 = .ok (.iload_n 3, 1) := by decide +kernel
theorem dL_law_344 : decode cL_law 344 = .ok (.iconst 2, 1) := by decide +kernel
theorem dL_law_345 : decode cL_law 345 = .ok (.iadd, 1) := by decide +kernel
theorem dL_law_346 : decode cL_law 346 = .ok (.iaload, 1) := by decide +kernel
theorem dL_law_347 : decode cL_law 347 = .ok (.invokevirtual 42, 3) := by decide +kernel
theorem dL_law_350 : decode cL_law 350 = .ok (.aload_n 2, 1) := by decide +kernel
theorem dL_law_351 : decode cL_law 351 = .ok (.aload_n 0, 1) := by decide +kernel
theorem dL_law_352 : decode cL_law 352 = .ok (.iload_n 3, 1) := by decide +kernel
theorem dL_law_353 : decode cL_law 353 = .ok (.iconst 1, 1) := by decide +kernel
theorem dL_law_354 : decode cL_law 354 = .ok (.iadd, 1) := by decide +kernel
theorem dL_law_355 : decode cL_law 355 = .ok (.iaload, 1) := by decide +kernel
theorem dL_law_356 : decode cL_law 356 = .ok (.aload_n 0, 1) := by decide +kernel
theorem dL_law_357 : decode cL_law 357 = .ok (.iload_n 3, 1) := by decide +kernel
theorem dL_law_358 : decode cL_law 358 = .ok (.iconst 2, 1) := by decide +kernel
theorem dL_law_359 : decode cL_law 359 = .ok (.iadd, 1) := by decide +kernel
theorem dL_law_360 : decode cL_law 360 = .ok (.iaload, 1) := by decide +kernel
theorem dL_law_361 : decode cL_law 361 = .ok (.invokevirtual 45, 3) := by decide +kernel
theorem dL_law_364 : decode cL_law 364 = .ok (.if_icmp .eq 674, 3) := by decide +kernel
theorem dL_law_367 : decode cL_law 367 = .ok (.iconst 0, 1) := by decide +kernel
theorem dL_law_368 : decode cL_law 368 = .ok (.ireturn, 1) := by decide +kernel
theorem dL_law_369 : decode cL_law 369 = .ok (.aload_n 1, 1) := by decide +kernel
theorem dL_law_370 : decode cL_law 370 = .ok (.aload_n 0, 1) := by decide +kernel
theorem dL_law_371 : decode cL_law 371 = .ok (.iload_n 3, 1) := by decide +kernel
theorem dL_law_372 : decode cL_law 372 = .ok (.iconst 1, 1) := by decide +kernel
theorem dL_law_373 : decode cL_law 373 = .ok (.iadd, 1) := by decide +kernel
theorem dL_law_374 : decode cL_law 374 = .ok (.iaload, 1) := by decide +kernel
theorem dL_law_375 : decode cL_law 375 = .ok (.aload_n 0, 1) := by decide +kernel
theorem dL_law_376 : decode cL_law 376 = .ok (.iload_n 3, 1) := by decide +kernel
theorem dL_law_377 : decode cL_law 377 = .ok (.iconst 2, 1) := by decide +kernel
theorem dL_law_378 : decode cL_law 378 = .ok (.iadd, 1) := by decide +kernel
theorem dL_law_379 : decode cL_law 379 = .ok (.iaload, 1) := by decide +kernel
theorem dL_law_380 : decode cL_law 380 = .ok (.invokevirtual 46, 3) := by decide +kernel
theorem dL_law_383 : decode cL_law 383 = .ok (.aload_n 2, 1) := by decide +kernel
theorem dL_law_384 : decode cL_law 384 = .ok (.aload_n 0, 1) := by decide +kernel
theorem dL_law_385 : decode cL_law 385 = .ok (.iload_n 3, 1) := by decide +kernel
theorem dL_law_386 : decode cL_law 386 = .ok (.iconst 1, 1) := by decide +kernel
theorem dL_law_387 : decode cL_law 387 = .ok (.iadd, 1) := by decide +kernel
theorem dL_law_388 : decode cL_law 388 = .ok (.iaload, 1) := by decide +kernel
theorem dL_law_389 : decode cL_law 389 = .ok (.aload_n 0, 1) := by decide +kernel
theorem dL_law_390 : decode cL_law 390 = .ok (.iload_n 3, 1) := by decide +kernel
theorem dL_law_391 : decode cL_law 391 = .ok (.iconst 2, 1) := by decide +kernel
theorem dL_law_392 : decode cL_law 392 = .ok (.iadd, 1) := by decide +kernel
theorem dL_law_393 : decode cL_law 393 = .ok (.iaload, 1) := by decide +kernel
theorem dL_law_394 : decode cL_law 394 = .ok (.invokevirtual 49, 3) := by decide +kernel
theorem dL_law_397 : decode cL_law 397 = .ok (.if_icmp .eq 641, 3) := by decide +kernel
theorem dL_law_400 : decode cL_law 400 = .ok (.iconst 0, 1) := by decide +kernel
theorem dL_law_401 : decode cL_law 401 = .ok (.ireturn, 1) := by decide +kernel
theorem dL_law_402 : decode cL_law 402 = .ok (.aload_n 1, 1) := by decide +kernel
theorem dL_law_403 : decode cL_law 403 = .ok (.aload_n 0, 1) := by decide +kernel
theorem dL_law_404 : decode cL_law 404 = .ok (.iload_n 3, 1) := by decide +kernel
theorem dL_law_405 : decode cL_law 405 = .ok (.iconst 1, 1) := by decide +kernel
theorem dL_law_406 : decode cL_law 406 = .ok (.iadd, 1) := by decide +kernel
theorem dL_law_407 : decode cL_law 407 = .ok (.iaload, 1) := by decide +kernel
theorem dL_law_408 : decode cL_law 408 = .ok (.invokevirtual 50, 3) := by decide +kernel
theorem dL_law_411 : decode cL_law 411 = .ok (.aload_n 2, 1) := by decide +kernel
theorem dL_law_412 : decode cL_law 412 = .ok (.aload_n 0, 1) := by decide +kernel
theorem dL_law_413 : decode cL_law 413 = .ok (.iload_n 3, 1) := by decide +kernel
theorem dL_law_414 : decode cL_law 414 = .ok (.iconst 1, 1) := by decide +kernel
theorem dL_law_415 : decode cL_law 415 = .ok (.iadd, 1) := by decide +kernel
theorem dL_law_416 : decode cL_law 416 = .ok (.iaload, 1) := by decide +kernel
theorem dL_law_417 : decode cL_law 417 = .ok (.invokevirtual 54, 3) := by decide +kernel
theorem dL_law_420 : decode cL_law 420 = .ok (.if_icmp .eq 618, 3) := by decide +kernel
theorem dL_law_423 : decode cL_law 423 = .ok (.iconst 0, 1) := by decide +kernel
theorem dL_law_424 : decode cL_law 424 = .ok (.ireturn, 1) := by decide +kernel
theorem dL_law_425 : decode cL_law 425 = .ok (.aload_n 1, 1) := by decide +kernel
theorem dL_law_426 : decode cL_law 426 = .ok (.aload_n 0, 1) := by decide +kernel
theorem dL_law_427 : decode cL_law 427 = .ok (.iload_n 3, 1) := by decide +kernel
theorem dL_law_428 : decode cL_law 428 = .ok (.iconst 1, 1) := by decide +kernel
theorem dL_law_429 : decode cL_law 429 = .ok (.iadd, 1) := by decide +kernel
theorem dL_law_430 : decode cL_law 430 = .ok (.iaload, 1) := by decide +kernel
theorem dL_law_431 : decode cL_law 431 = .ok (.invokevirtual 55, 3) := by decide +kernel
theorem dL_law_434 : decode cL_law 434 = .ok (.aload_n 2, 1) := by decide +kernel
theorem dL_law_435 : decode cL_law 435 = .ok (.aload_n 0, 1) := by decide +kernel
theorem dL_law_436 : decode cL_law 436 = .ok (.iload_n 3, 1) := by decide +kernel
theorem dL_law_437 : decode cL_law 437 = .ok (.iconst 1, 1) := by decide +kernel
theorem dL_law_438 : decode cL_law 438 = .ok (.iadd, 1) := by decide +kernel
theorem dL_law_439 : decode cL_law 439 = .ok (.iaload, 1) := by decide +kernel
theorem dL_law_440 : decode cL_law 440 = .ok (.invokevirtual 58, 3) := by decide +kernel
theorem dL_law_443 : decode cL_law 443 = .ok (.if_icmp .eq 595, 3) := by decide +kernel
theorem dL_law_446 : decode cL_law 446 = .ok (.iconst 0, 1) := by decide +kernel
theorem dL_law_447 : decode cL_law 447 = .ok (.ireturn, 1) := by decide +kernel
theorem dL_law_448 : decode cL_law 448 = .ok (.aload_n 1, 1) := by decide +kernel
theorem dL_law_449 : decode cL_law 449 = .ok (.aload_n 0, 1) := by decide +kernel
theorem dL_law_450 : decode cL_law 450 = .ok (.iload_n 3, 1) := by decide +kernel
theorem dL_law_451 : decode cL_law 451 = .ok (.iconst 1, 1) := by decide +kernel
theorem dL_law_452 : decode cL_law 452 = .ok (.iadd, 1) := by decide +kernel
theorem dL_law_453 : decode cL_law 453 = .ok (.iaload, 1) := by decide +kernel
theorem dL_law_454 : decode cL_law 454 = .ok (.aload_n 0, 1) := by decide +kernel
theorem dL_law_455 : decode cL_law 455 = .ok (.iload_n 3, 1) := by decide +kernel
theorem dL_law_456 : decode cL_law 456 = .ok (.iconst 2, 1) := by decide +kernel
theorem dL_law_457 : decode cL_law 457 = .ok (.iadd, 1) := by decide +kernel
theorem dL_law_458 : decode cL_law 458 = .ok (.iaload, 1) := by decide +kernel
theorem dL_law_459 : decode cL_law 459 = .ok (.invokevirtual 59, 3) := by decide +kernel
theorem dL_law_462 : decode cL_law 462 = .ok (.aload_n 2, 1) := by decide +kernel
theorem dL_law_463 : decode cL_law 463 = .ok (.aload_n 0, 1) := by decide +kernel
theorem dL_law_464 : decode cL_law 464 = .ok (.iload_n 3, 1) := by decide +kernel
theorem dL_law_465 : decode cL_law 465 = .ok (.iconst 1, 1) := by decide +kernel
theorem dL_law_466 : decode cL_law 466 = .ok (.iadd, 1) := by decide +kernel
theorem dL_law_467 : decode cL_law 467 = .ok (.iaload, 1) := by decide +kernel
theorem dL_law_468 : decode cL_law 468 = .ok (.aload_n 0, 1) := by decide +kernel
theorem dL_law_469 : decode cL_law 469 = .ok (.iload_n 3, 1) := by decide +kernel
theorem dL_law_470 : decode cL_law 470 = .ok (.iconst 2, 1) := by decide +kernel
theorem dL_law_471 : decode cL_law 471 = .ok (.iadd, 1) := by decide +kernel
theorem dL_law_472 : decode cL_law 472 = .ok (.iaload, 1) := by decide +kernel
theorem dL_law_473 : decode cL_law 473 = .ok (.invokevirtual 62, 3) := by decide +kernel
theorem dL_law_476 : decode cL_law 476 = .ok (.if_icmp .eq 562, 3) := by decide +kernel
theorem dL_law_479 : decode cL_law 479 = .ok (.iconst 0, 1) := by decide +kernel
theorem dL_law_480 : decode cL_law 480 = .ok (.ireturn, 1) := by decide +kernel
theorem dL_law_481 : decode cL_law 481 = .ok (.aload_n 1, 1) := by decide +kernel
theorem dL_law_482 : decode cL_law 482 = .ok (.aload_n 0, 1) := by decide +kernel
theorem dL_law_483 : decode cL_law 483 = .ok (.iload_n 3, 1) := by decide +kernel
theorem dL_law_484 : decode cL_law 484 = .ok (.iconst 1, 1) := by decide +kernel
theorem dL_law_485 : decode cL_law 485 = .ok (.iadd, 1) := by decide +kernel
theorem dL_law_486 : decode cL_law 486 = .ok (.iaload, 1) := by decide +kernel
theorem dL_law_487 : decode cL_law 487 = .ok (.aload_n 0, 1) := by decide +kernel
theorem dL_law_488 : decode cL_law 488 = .ok (.iload_n 3, 1) := by decide +kernel
theorem dL_law_489 : decode cL_law 489 = .ok (.iconst 2, 1) := by decide +kernel
theorem dL_law_490 : decode cL_law 490 = .ok (.iadd, 1) := by decide +kernel
theorem dL_law_491 : decode cL_law 491 = .ok (.iaload, 1) := by decide +kernel
theorem dL_law_492 : decode cL_law 492 = .ok (.invokevirtual 63, 3) := by decide +kernel
theorem dL_law_495 : decode cL_law 495 = .ok (.aload_n 2, 1) := by decide +kernel
theorem dL_law_496 : decode cL_law 496 = .ok (.aload_n 0, 1) := by decide +kernel
theorem dL_law_497 : decode cL_law 497 = .ok (.iload_n 3, 1) := by decide +kernel
theorem dL_law_498 : decode cL_law 498 = .ok (.iconst 1, 1) := by decide +kernel
theorem dL_law_499 : decode cL_law 499 = .ok (.iadd, 1) := by decide +kernel
theorem dL_law_500 : decode cL_law 500 = .ok (.iaload, 1) := by decide +kernel
theorem dL_law_501 : decode cL_law 501 = .ok (.aload_n 0, 1) := by decide +kernel
theorem dL_law_502 : decode cL_law 502 = .ok (.iload_n 3, 1) := by decide +kernel
theorem dL_law_503 : decode cL_law 503 = .ok (.iconst 2, 1) := by decide +kernel
theorem dL_law_504 : decode cL_law 504 = .ok (.iadd, 1) := by decide +kernel
theorem dL_law_505 : decode cL_law 505 = .ok (.iaload, 1) := by decide +kernel
theorem dL_law_506 : decode cL_law 506 = .ok (.invokevirtual 66, 3) := by decide +kernel
theorem dL_law_509 : decode cL_law 509 = .ok (.if_icmp .eq 529, 3) := by decide +kernel
theorem dL_law_512 : decode cL_law 512 = .ok (.iconst 0, 1) := by decide +kernel
theorem dL_law_513 : decode cL_law 513 = .ok (.ireturn, 1) := by decide +kernel
theorem dL_law_514 : decode cL_law 514 = .ok (.aload_n 1, 1) := by decide +kernel
theorem dL_law_515 : decode cL_law 515 = .ok (.invokevirtual 67, 3) := by decide +kernel
theorem dL_law_518 : decode cL_law 518 = .ok (.aload_n 2, 1) := by decide +kernel
theorem dL_law_519 : decode cL_law 519 = .ok (.invokevirtual 70, 3) := by decide +kernel
theorem dL_law_522 : decode cL_law 522 = .ok (.if_icmp .eq 516, 3) := by decide +kernel
theorem dL_law_525 : decode cL_law 525 = .ok (.iconst 0, 1) := by decide +kernel
theorem dL_law_526 : decode cL_law 526 = .ok (.ireturn, 1) := by decide +kernel
theorem dL_law_527 : decode cL_law 527 = .ok (.aload_n 1, 1) := by decide +kernel
theorem dL_law_528 : decode cL_law 528 = .ok (.aload_n 0, 1) := by decide +kernel
theorem dL_law_529 : decode cL_law 529 = .ok (.iload_n 3, 1) := by decide +kernel
theorem dL_law_530 : decode cL_law 530 = .ok (.iconst 1, 1) := by decide +kernel
theorem dL_law_531 : decode cL_law 531 = .ok (.iadd, 1) := by decide +kernel
theorem dL_law_532 : decode cL_law 532 = .ok (.iaload, 1) := by decide +kernel
theorem dL_law_533 : decode cL_law 533 = .ok (.invokevirtual 71, 3) := by decide +kernel
theorem dL_law_536 : decode cL_law 536 = .ok (.aload_n 2, 1) := by decide +kernel
theorem dL_law_537 : decode cL_law 537 = .ok (.aload_n 0, 1) := by decide +kernel
theorem dL_law_538 : decode cL_law 538 = .ok (.iload_n 3, 1) := by decide +kernel
theorem dL_law_539 : decode cL_law 539 = .ok (.iconst 1, 1) := by decide +kernel
theorem dL_law_540 : decode cL_law 540 = .ok (.iadd, 1) := by decide +kernel
theorem dL_law_541 : decode cL_law 541 = .ok (.iaload, 1) := by decide +kernel
theorem dL_law_542 : decode cL_law 542 = .ok (.invokevirtual 74, 3) := by decide +kernel
theorem dL_law_545 : decode cL_law 545 = .ok (.if_icmp .eq 493, 3) := by decide +kernel
theorem dL_law_548 : decode cL_law 548 = .ok (.iconst 0, 1) := by decide +kernel
theorem dL_law_549 : decode cL_law 549 = .ok (.ireturn, 1) := by decide +kernel
theorem dL_law_550 : decode cL_law 550 = .ok (.aload_n 1, 1) := by decide +kernel
theorem dL_law_551 : decode cL_law 551 = .ok (.aload_n 0, 1) := by decide +kernel
theorem dL_law_552 : decode cL_law 552 = .ok (.iload_n 3, 1) := by decide +kernel
theorem dL_law_553 : decode cL_law 553 = .ok (.iconst 1, 1) := by decide +kernel
theorem dL_law_554 : decode cL_law 554 = .ok (.iadd, 1) := by decide +kernel
theorem dL_law_555 : decode cL_law 555 = .ok (.iaload, 1) := by decide +kernel
theorem dL_law_556 : decode cL_law 556 = .ok (.invokevirtual 75, 3) := by decide +kernel
theorem dL_law_559 : decode cL_law 559 = .ok (.aload_n 2, 1) := by decide +kernel
theorem dL_law_560 : decode cL_law 560 = .ok (.aload_n 0, 1) := by decide +kernel
theorem dL_law_561 : decode cL_law 561 = .ok (.iload_n 3, 1) := by decide +kernel
theorem dL_law_562 : decode cL_law 562 = .ok (.iconst 1, 1) := by decide +kernel
theorem dL_law_563 : decode cL_law 563 = .ok (.iadd, 1) := by decide +kernel
theorem dL_law_564 : decode cL_law 564 = .ok (.iaload, 1) := by decide +kernel
theorem dL_law_565 : decode cL_law 565 = .ok (.invokevirtual 78, 3) := by decide +kernel
theorem dL_law_568 : decode cL_law 568 = .ok (.if_icmp .eq 470, 3) := by decide +kernel
theorem dL_law_571 : decode cL_law 571 = .ok (.iconst 0, 1) := by decide +kernel
theorem dL_law_572 : decode cL_law 572 = .ok (.ireturn, 1) := by decide +kernel
theorem dL_law_573 : decode cL_law 573 = .ok (.aload_n 1, 1) := by decide +kernel
theorem dL_law_574 : decode cL_law 574 = .ok (.aload_n 0, 1) := by decide +kernel
theorem dL_law_575 : decode cL_law 575 = .ok (.iload_n 3, 1) := by decide +kernel
theorem dL_law_576 : decode cL_law 576 = .ok (.iconst 1, 1) := by decide +kernel
theorem dL_law_577 : decode cL_law 577 = .ok (.iadd, 1) := by decide +kernel
theorem dL_law_578 : decode cL_law 578 = .ok (.iaload, 1) := by decide +kernel
theorem dL_law_579 : decode cL_law 579 = .ok (.invokevirtual 79, 3) := by decide +kernel
theorem dL_law_582 : decode cL_law 582 = .ok (.aload_n 2, 1) := by decide +kernel
theorem dL_law_583 : decode cL_law 583 = .ok (.aload_n 0, 1) := by decide +kernel
theorem dL_law_584 : decode cL_law 584 = .ok (.iload_n 3, 1) := by decide +kernel
theorem dL_law_585 : decode cL_law 585 = .ok (.iconst 1, 1) := by decide +kernel
theorem dL_law_586 : decode cL_law 586 = .ok (.iadd, 1) := by decide +kernel
theorem dL_law_587 : decode cL_law 587 = .ok (.iaload, 1) := by decide +kernel
theorem dL_law_588 : decode cL_law 588 = .ok (.invokevirtual 82, 3) := by decide +kernel
theorem dL_law_591 : decode cL_law 591 = .ok (.if_icmp .eq 447, 3) := by decide +kernel
theorem dL_law_594 : decode cL_law 594 = .ok (.iconst 0, 1) := by decide +kernel
theorem dL_law_595 : decode cL_law 595 = .ok (.ireturn, 1) := by decide +kernel
theorem dL_law_596 : decode cL_law 596 = .ok (.aload_n 1, 1) := by decide +kernel
theorem dL_law_597 : decode cL_law 597 = .ok (.aload_n 0, 1) := by decide +kernel
theorem dL_law_598 : decode cL_law 598 = .ok (.iload_n 3, 1) := by decide +kernel
theorem dL_law_599 : decode cL_law 599 = .ok (.iconst 1, 1) := by decide +kernel
theorem dL_law_600 : decode cL_law 600 = .ok (.iadd, 1) := by decide +kernel
theorem dL_law_601 : decode cL_law 601 = .ok (.iaload, 1) := by decide +kernel
theorem dL_law_602 : decode cL_law 602 = .ok (.aload_n 0, 1) := by decide +kernel
theorem dL_law_603 : decode cL_law 603 = .ok (.iload_n 3, 1) := by decide +kernel
theorem dL_law_604 : decode cL_law 604 = .ok (.iconst 2, 1) := by decide +kernel
theorem dL_law_605 : decode cL_law 605 = .ok (.iadd, 1) := by decide +kernel
theorem dL_law_606 : decode cL_law 606 = .ok (.iaload, 1) := by decide +kernel
theorem dL_law_607 : decode cL_law 607 = .ok (.aload_n 0, 1) := by decide +kernel
theorem dL_law_608 : decode cL_law 608 = .ok (.iload_n 3, 1) := by decide +kernel
theorem dL_law_609 : decode cL_law 609 = .ok (.iconst 3, 1) := by decide +kernel
theorem dL_law_610 : decode cL_law 610 = .ok (.iadd, 1) := by decide +kernel
theorem dL_law_611 : decode cL_law 611 = .ok (.iaload, 1) := by decide +kernel
theorem dL_law_612 : decode cL_law 612 = .ok (.invokevirtual 83, 3) := by decide +kernel
theorem dL_law_615 : decode cL_law 615 = .ok (.aload_n 2, 1) := by decide +kernel
theorem dL_law_616 : decode cL_law 616 = .ok (.aload_n 0, 1) := by decide +kernel
theorem dL_law_617 : decode cL_law 617 = .ok (.iload_n 3, 1) := by decide +kernel
theorem dL_law_618 : decode cL_law 618 = .ok (.iconst 1, 1) := by decide +kernel
theorem dL_law_619 : decode cL_law 619 = .ok (.iadd, 1) := by decide +kernel
theorem dL_law_620 : decode cL_law 620 = .ok (.iaload, 1) := by decide +kernel
theorem dL_law_621 : decode cL_law 621 = .ok (.aload_n 0, 1) := by decide +kernel
theorem dL_law_622 : decode cL_law 622 = .ok (.iload_n 3, 1) := by decide +kernel
theorem dL_law_623 : decode cL_law 623 = .ok (.iconst 2, 1) := by decide +kernel
theorem dL_law_624 : decode cL_law 624 = .ok (.iadd, 1) := by decide +kernel
theorem dL_law_625 : decode cL_law 625 = .ok (.iaload, 1) := by decide +kernel
theorem dL_law_626 : decode cL_law 626 = .ok (.aload_n 0, 1) := by decide +kernel
theorem dL_law_627 : decode cL_law 627 = .ok (.iload_n 3, 1) := by decide +kernel
theorem dL_law_628 : decode cL_law 628 = .ok (.iconst 3, 1) := by decide +kernel
theorem dL_law_629 : decode cL_law 629 = .ok (.iadd, 1) := by decide +kernel
theorem dL_law_630 : decode cL_law 630 = .ok (.iaload, 1) := by decide +kernel
theorem dL_law_631 : decode cL_law 631 = .ok (.invokevirtual 87, 3) := by decide +kernel
theorem dL_law_634 : decode cL_law 634 = .ok (.if_icmp .eq 404, 3) := by decide +kernel
theorem dL_law_637 : decode cL_law 637 = .ok (.iconst 0, 1) := by decide +kernel
theorem dL_law_638 : decode cL_law 638 = .ok (.ireturn, 1) := by decide +kernel
theorem dL_law_639 : decode cL_law 639 = .ok (.aload_n 1, 1) := by decide +kernel
theorem dL_law_640 : decode cL_law 640 = .ok (.aload_n 0, 1) := by decide +kernel
theorem dL_law_641 : decode cL_law 641 = .ok (.iload_n 3, 1) := by decide +kernel
theorem dL_law_642 : decode cL_law 642 = .ok (.iconst 1, 1) := by decide +kernel
theorem dL_law_643 : decode cL_law 643 = .ok (.iadd, 1) := by decide +kernel
theorem dL_law_644 : decode cL_law 644 = .ok (.iaload, 1) := by decide +kernel
theorem dL_law_645 : decode cL_law 645 = .ok (.invokevirtual 88, 3) := by decide +kernel
theorem dL_law_648 : decode cL_law 648 = .ok (.aload_n 2, 1) := by decide +kernel
theorem dL_law_649 : decode cL_law 649 = .ok (.aload_n 0, 1) := by decide +kernel
theorem dL_law_650 : decode cL_law 650 = .ok (.iload_n 3, 1) := by decide +kernel
theorem dL_law_651 : decode cL_law 651 = .ok (.iconst 1, 1) := by decide +kernel
theorem dL_law_652 : decode cL_law 652 = .ok (.iadd, 1) := by decide +kernel
theorem dL_law_653 : decode cL_law 653 = .ok (.iaload, 1) := by decide +kernel
theorem dL_law_654 : decode cL_law 654 = .ok (.invokevirtual 91, 3) := by decide +kernel
theorem dL_law_657 : decode cL_law 657 = .ok (.if_icmp .eq 381, 3) := by decide +kernel
theorem dL_law_660 : decode cL_law 660 = .ok (.iconst 0, 1) := by decide +kernel
theorem dL_law_661 : decode cL_law 661 = .ok (.ireturn, 1) := by decide +kernel
theorem dL_law_662 : decode cL_law 662 = .ok (.aload_n 1, 1) := by decide +kernel
theorem dL_law_663 : decode cL_law 663 = .ok (.aload_n 0, 1) := by decide +kernel
theorem dL_law_664 : decode cL_law 664 = .ok (.iload_n 3, 1) := by decide +kernel
theorem dL_law_665 : decode cL_law 665 = .ok (.iconst 1, 1) := by decide +kernel
theorem dL_law_666 : decode cL_law 666 = .ok (.iadd, 1) := by decide +kernel
theorem dL_law_667 : decode cL_law 667 = .ok (.iaload, 1) := by decide +kernel
theorem dL_law_668 : decode cL_law 668 = .ok (.aload_n 0, 1) := by decide +kernel
theorem dL_law_669 : decode cL_law 669 = .ok (.iload_n 3, 1) := by decide +kernel
theorem dL_law_670 : decode cL_law 670 = .ok (.iconst 2, 1) := by decide +kernel
theorem dL_law_671 : decode cL_law 671 = .ok (.iadd, 1) := by decide +kernel
theorem dL_law_672 : decode cL_law 672 = .ok (.iaload, 1) := by decide +kernel
theorem dL_law_673 : decode cL_law 673 = .ok (.invokevirtual 92, 3) := by decide +kernel
theorem dL_law_676 : decode cL_law 676 = .ok (.aload_n 2, 1) := by decide +kernel
theorem dL_law_677 : decode cL_law 677 = .ok (.aload_n 0, 1) := by decide +kernel
theorem dL_law_678 : decode cL_law 678 = .ok (.iload_n 3, 1) := by decide +kernel
theorem dL_law_679 : decode cL_law 679 = .ok (.iconst 1, 1) := by decide +kernel
theorem dL_law_680 : decode cL_law 680 = .ok (.iadd, 1) := by decide +kernel
theorem dL_law_681 : decode cL_law 681 = .ok (.iaload, 1) := by decide +kernel
theorem dL_law_682 : decode cL_law 682 = .ok (.aload_n 0, 1) := by decide +kernel
theorem dL_law_683 : decode cL_law 683 = .ok (.iload_n 3, 1) := by decide +kernel
theorem dL_law_684 : decode cL_law 684 = .ok (.iconst 2, 1) := by decide +kernel
theorem dL_law_685 : decode cL_law 685 = .ok (.iadd, 1) := by decide +kernel
theorem dL_law_686 : decode cL_law 686 = .ok (.iaload, 1) := by decide +kernel
theorem dL_law_687 : decode cL_law 687 = .ok (.invokevirtual 95, 3) := by decide +kernel
theorem dL_law_690 : decode cL_law 690 = .ok (.if_icmp .eq 348, 3) := by decide +kernel
theorem dL_law_693 : decode cL_law 693 = .ok (.iconst 0, 1) := by decide +kernel
theorem dL_law_694 : decode cL_law 694 = .ok (.ireturn, 1) := by decide +kernel
theorem dL_law_695 : decode cL_law 695 = .ok (.aload_n 1, 1) := by decide +kernel
theorem dL_law_696 : decode cL_law 696 = .ok (.aload_n 0, 1) := by decide +kernel
theorem dL_law_697 : decode cL_law 697 = .ok (.iload_n 3, 1) := by decide +kernel
theorem dL_law_698 : decode cL_law 698 = .ok (.iconst 1, 1) := by decide +kernel
theorem dL_law_699 : decode cL_law 699 = .ok (.iadd, 1) := by decide +kernel
theorem dL_law_700 : decode cL_law 700 = .ok (.iaload, 1) := by decide +kernel
theorem dL_law_701 : decode cL_law 701 = .ok (.aload_n 0, 1) := by decide +kernel
theorem dL_law_702 : decode cL_law 702 = .ok (.iload_n 3, 1) := by decide +kernel
theorem dL_law_703 : decode cL_law 703 = .ok (.iconst 2, 1) := by decide +kernel
theorem dL_law_704 : decode cL_law 704 = .ok (.iadd, 1) := by decide +kernel
theorem dL_law_705 : decode cL_law 705 = .ok (.iaload, 1) := by decide +kernel
theorem dL_law_706 : decode cL_law 706 = .ok (.aload_n 0, 1) := by decide +kernel
theorem dL_law_707 : decode cL_law 707 = .ok (.iload_n 3, 1) := by decide +kernel
theorem dL_law_708 : decode cL_law 708 = .ok (.iconst 3, 1) := by decide +kernel
theorem dL_law_709 : decode cL_law 709 = .ok (.iadd, 1) := by decide +kernel
theorem dL_law_710 : decode cL_law 710 = .ok (.iaload, 1) := by decide +kernel
theorem dL_law_711 : decode cL_law 711 = .ok (.invokevirtual 96, 3) := by decide +kernel
theorem dL_law_714 : decode cL_law 714 = .ok (.aload_n 2, 1) := by decide +kernel
theorem dL_law_715 : decode cL_law 715 = .ok (.aload_n 0, 1) := by decide +kernel
theorem dL_law_716 : decode cL_law 716 = .ok (.iload_n 3, 1) := by decide +kernel
theorem dL_law_717 : decode cL_law 717 = .ok (.iconst 1, 1) := by decide +kernel
theorem dL_law_718 : decode cL_law 718 = .ok (.iadd, 1) := by decide +kernel
theorem dL_law_719 : decode cL_law 719 = .ok (.iaload, 1) := by decide +kernel
theorem dL_law_720 : decode cL_law 720 = .ok (.aload_n 0, 1) := by decide +kernel
theorem dL_law_721 : decode cL_law 721 = .ok (.iload_n 3, 1) := by decide +kernel
theorem dL_law_722 : decode cL_law 722 = .ok (.iconst 2, 1) := by decide +kernel
theorem dL_law_723 : decode cL_law 723 = .ok (.iadd, 1) := by decide +kernel
theorem dL_law_724 : decode cL_law 724 = .ok (.iaload, 1) := by decide +kernel
theorem dL_law_725 : decode cL_law 725 = .ok (.aload_n 0, 1) := by decide +kernel
theorem dL_law_726 : decode cL_law 726 = .ok (.iload_n 3, 1) := by decide +kernel
theorem dL_law_727 : decode cL_law 727 = .ok (.iconst 3, 1) := by decide +kernel
theorem dL_law_728 : decode cL_law 728 = .ok (.iadd, 1) := by decide +kernel
theorem dL_law_729 : decode cL_law 729 = .ok (.iaload, 1) := by decide +kernel
theorem dL_law_730 : decode cL_law 730 = .ok (.invokevirtual 99, 3) := by decide +kernel
theorem dL_law_733 : decode cL_law 733 = .ok (.if_icmp .eq 305, 3) := by decide +kernel
theorem dL_law_736 : decode cL_law 736 = .ok (.iconst 0, 1) := by decide +kernel
theorem dL_law_737 : decode cL_law 737 = .ok (.ireturn, 1) := by decide +kernel
theorem dL_law_738 : decode cL_law 738 = .ok (.aload_n 1, 1) := by decide +kernel
theorem dL_law_739 : decode cL_law 739 = .ok (.aload_n 0, 1) := by decide +kernel
theorem dL_law_740 : decode cL_law 740 = .ok (.iload_n 3, 1) := by decide +kernel
theorem dL_law_741 : decode cL_law 741 = .ok (.iconst 1, 1) := by decide +kernel
theorem dL_law_742 : decode cL_law 742 = .ok (.iadd, 1) := by decide +kernel
theorem dL_law_743 : decode cL_law 743 = .ok (.iaload, 1) := by decide +kernel
theorem dL_law_744 : decode cL_law 744 = .ok (.aload_n 0, 1) := by decide +kernel
theorem dL_law_745 : decode cL_law 745 = .ok (.iload_n 3, 1) := by decide +kernel
theorem dL_law_746 : decode cL_law 746 = .ok (.iconst 2, 1) := by decide +kernel
theorem dL_law_747 : decode cL_law 747 = .ok (.iadd, 1) := by decide +kernel
theorem dL_law_748 : decode cL_law 748 = .ok (.iaload, 1) := by decide +kernel
theorem dL_law_749 : decode cL_law 749 = .ok (.aload_n 0, 1) := by decide +kernel
theorem dL_law_750 : decode cL_law 750 = .ok (.iload_n 3, 1) := by decide +kernel
theorem dL_law_751 : decode cL_law 751 = .ok (.iconst 3, 1) := by decide +kernel
theorem dL_law_752 : decode cL_law 752 = .ok (.iadd, 1) := by decide +kernel
theorem dL_law_753 : decode cL_law 753 = .ok (.iaload, 1) := by decide +kernel
theorem dL_law_754 : decode cL_law 754 = .ok (.invokevirtual 100, 3) := by decide +kernel
theorem dL_law_757 : decode cL_law 757 = .ok (.aload_n 2, 1) := by decide +kernel
theorem dL_law_758 : decode cL_law 758 = .ok (.aload_n 0, 1) := by decide +kernel
theorem dL_law_759 : decode cL_law 759 = .ok (.iload_n 3, 1) := by decide +kernel
theorem dL_law_760 : decode cL_law 760 = .ok (.iconst 1, 1) := by decide +kernel
theorem dL_law_761 : decode cL_law 761 = .ok (.iadd, 1) := by decide +kernel
theorem dL_law_762 : decode cL_law 762 = .ok (.iaload, 1) := by decide +kernel
theorem dL_law_763 : decode cL_law 763 = .ok (.aload_n 0, 1) := by decide +kernel
theorem dL_law_764 : decode cL_law 764 = .ok (.iload_n 3, 1) := by decide +kernel
theorem dL_law_765 : decode cL_law 765 = .ok (.iconst 2, 1) := by decide +kernel
theorem dL_law_766 : decode cL_law 766 = .ok (.iadd, 1) := by decide +kernel
theorem dL_law_767 : decode cL_law 767 = .ok (.iaload, 1) := by decide +kernel
theorem dL_law_768 : decode cL_law 768 = .ok (.aload_n 0, 1) := by decide +kernel
theorem dL_law_769 : decode cL_law 769 = .ok (.iload_n 3, 1) := by decide +kernel
theorem dL_law_770 : decode cL_law 770 = .ok (.iconst 3, 1) := by decide +kernel
theorem dL_law_771 : decode cL_law 771 = .ok (.iadd, 1) := by decide +kernel
theorem dL_law_772 : decode cL_law 772 = .ok (.iaload, 1) := by decide +kernel
theorem dL_law_773 : decode cL_law 773 = .ok (.invokevirtual 103, 3) := by decide +kernel
theorem dL_law_776 : decode cL_law 776 = .ok (.if_icmp .eq 262, 3) := by decide +kernel
theorem dL_law_779 : decode cL_law 779 = .ok (.iconst 0, 1) := by decide +kernel
theorem dL_law_780 : decode cL_law 780 = .ok (.ireturn, 1) := by decide +kernel
theorem dL_law_781 : decode cL_law 781 = .ok (.aload_n 1, 1) := by decide +kernel
theorem dL_law_782 : decode cL_law 782 = .ok (.aload_n 0, 1) := by decide +kernel
theorem dL_law_783 : decode cL_law 783 = .ok (.iload_n 3, 1) := by decide +kernel
theorem dL_law_784 : decode cL_law 784 = .ok (.iconst 1, 1) := by decide +kernel
theorem dL_law_785 : decode cL_law 785 = .ok (.iadd, 1) := by decide +kernel
theorem dL_law_786 : decode cL_law 786 = .ok (.iaload, 1) := by decide +kernel
theorem dL_law_787 : decode cL_law 787 = .ok (.aload_n 0, 1) := by decide +kernel
theorem dL_law_788 : decode cL_law 788 = .ok (.iload_n 3, 1) := by decide +kernel
theorem dL_law_789 : decode cL_law 789 = .ok (.iconst 2, 1) := by decide +kernel
theorem dL_law_790 : decode cL_law 790 = .ok (.iadd, 1) := by decide +kernel
theorem dL_law_791 : decode cL_law 791 = .ok (.iaload, 1) := by decide +kernel
theorem dL_law_792 : decode cL_law 792 = .ok (.invokevirtual 104, 3) := by decide +kernel
theorem dL_law_795 : decode cL_law 795 = .ok (.aload_n 2, 1) := by decide +kernel
theorem dL_law_796 : decode cL_law 796 = .ok (.aload_n 0, 1) := by decide +kernel
theorem dL_law_797 : decode cL_law 797 = .ok (.iload_n 3, 1) := by decide +kernel
theorem dL_law_798 : decode cL_law 798 = .ok (.iconst 1, 1) := by decide +kernel
theorem dL_law_799 : decode cL_law 799 = .ok (.iadd, 1) := by decide +kernel
theorem dL_law_800 : decode cL_law 800 = .ok (.iaload, 1) := by decide +kernel
theorem dL_law_801 : decode cL_law 801 = .ok (.aload_n 0, 1) := by decide +kernel
theorem dL_law_802 : decode cL_law 802 = .ok (.iload_n 3, 1) := by decide +kernel
theorem dL_law_803 : decode cL_law 803 = .ok (.iconst 2, 1) := by decide +kernel
theorem dL_law_804 : decode cL_law 804 = .ok (.iadd, 1) := by decide +kernel
theorem dL_law_805 : decode cL_law 805 = .ok (.iaload, 1) := by decide +kernel
theorem dL_law_806 : decode cL_law 806 = .ok (.invokevirtual 107, 3) := by decide +kernel
theorem dL_law_809 : decode cL_law 809 = .ok (.if_icmp .eq 229, 3) := by decide +kernel
theorem dL_law_812 : decode cL_law 812 = .ok (.iconst 0, 1) := by decide +kernel
theorem dL_law_813 : decode cL_law 813 = .ok (.ireturn, 1) := by decide +kernel
theorem dL_law_814 : decode cL_law 814 = .ok (.aload_n 1, 1) := by decide +kernel
theorem dL_law_815 : decode cL_law 815 = .ok (.aload_n 0, 1) := by decide +kernel
theorem dL_law_816 : decode cL_law 816 = .ok (.iload_n 3, 1) := by decide +kernel
theorem dL_law_817 : decode cL_law 817 = .ok (.iconst 1, 1) := by decide +kernel
theorem dL_law_818 : decode cL_law 818 = .ok (.iadd, 1) := by decide +kernel
theorem dL_law_819 : decode cL_law 819 = .ok (.iaload, 1) := by decide +kernel
theorem dL_law_820 : decode cL_law 820 = .ok (.aload_n 0, 1) := by decide +kernel
theorem dL_law_821 : decode cL_law 821 = .ok (.iload_n 3, 1) := by decide +kernel
theorem dL_law_822 : decode cL_law 822 = .ok (.iconst 2, 1) := by decide +kernel
theorem dL_law_823 : decode cL_law 823 = .ok (.iadd, 1) := by decide +kernel
theorem dL_law_824 : decode cL_law 824 = .ok (.iaload, 1) := by decide +kernel
theorem dL_law_825 : decode cL_law 825 = .ok (.invokevirtual 108, 3) := by decide +kernel
theorem dL_law_828 : decode cL_law 828 = .ok (.aload_n 2, 1) := by decide +kernel
theorem dL_law_829 : decode cL_law 829 = .ok (.aload_n 0, 1) := by decide +kernel
theorem dL_law_830 : decode cL_law 830 = .ok (.iload_n 3, 1) := by decide +kernel
theorem dL_law_831 : decode cL_law 831 = .ok (.iconst 1, 1) := by decide +kernel
theorem dL_law_832 : decode cL_law 832 = .ok (.iadd, 1) := by decide +kernel
theorem dL_law_833 : decode cL_law 833 = .ok (.iaload, 1) := by decide +kernel
theorem dL_law_834 : decode cL_law 834 = .ok (.aload_n 0, 1) := by decide +kernel
theorem dL_law_835 : decode cL_law 835 = .ok (.iload_n 3, 1) := by decide +kernel
theorem dL_law_836 : decode cL_law 836 = .ok (.iconst 2, 1) := by decide +kernel
theorem dL_law_837 : decode cL_law 837 = .ok (.iadd, 1) := by decide +kernel
theorem dL_law_838 : decode cL_law 838 = .ok (.iaload, 1) := by decide +kernel
theorem dL_law_839 : decode cL_law 839 = .ok (.invokevirtual 111, 3) := by decide +kernel
theorem dL_law_842 : decode cL_law 842 = .ok (.if_icmp .eq 196, 3) := by decide +kernel
theorem dL_law_845 : decode cL_law 845 = .ok (.iconst 0, 1) := by decide +kernel
theorem dL_law_846 : decode cL_law 846 = .ok (.ireturn, 1) := by decide +kernel
theorem dL_law_847 : decode cL_law 847 = .ok (.aload_n 1, 1) := by decide +kernel
theorem dL_law_848 : decode cL_law 848 = .ok (.aload_n 0, 1) := by decide +kernel
theorem dL_law_849 : decode cL_law 849 = .ok (.iload_n 3, 1) := by decide +kernel
theorem dL_law_850 : decode cL_law 850 = .ok (.iconst 1, 1) := by decide +kernel
theorem dL_law_851 : decode cL_law 851 = .ok (.iadd, 1) := by decide +kernel
theorem dL_law_852 : decode cL_law 852 = .ok (.iaload, 1) := by decide +kernel
theorem dL_law_853 : decode cL_law 853 = .ok (.invokevirtual 112, 3) := by decide +kernel
theorem dL_law_856 : decode cL_law 856 = .ok (.aload_n 2, 1) := by decide +kernel
theorem dL_law_857 : decode cL_law 857 = .ok (.aload_n 0, 1) := by decide +kernel
theorem dL_law_858 : decode cL_law 858 = .ok (.iload_n 3, 1) := by decide +kernel
theorem dL_law_859 : decode cL_law 859 = .ok (.iconst 1, 1) := by decide +kernel
theorem dL_law_860 : decode cL_law 860 = .ok (.iadd, 1) := by decide +kernel
theorem dL_law_861 : decode cL_law 861 = .ok (.iaload, 1) := by decide +kernel
theorem dL_law_862 : decode cL_law 862 = .ok (.invokevirtual 115, 3) := by decide +kernel
theorem dL_law_865 : decode cL_law 865 = .ok (.if_icmp .eq 173, 3) := by decide +kernel
theorem dL_law_868 : decode cL_law 868 = .ok (.iconst 0, 1) := by decide +kernel
theorem dL_law_869 : decode cL_law 869 = .ok (.ireturn, 1) := by decide +kernel
theorem dL_law_870 : decode cL_law 870 = .ok (.aload_n 1, 1) := by decide +kernel
theorem dL_law_871 : decode cL_law 871 = .ok (.aload_n 0, 1) := by decide +kernel
theorem dL_law_872 : decode cL_law 872 = .ok (.iload_n 3, 1) := by decide +kernel
theorem dL_law_873 : decode cL_law 873 = .ok (.iconst 1, 1) := by decide +kernel
theorem dL_law_874 : decode cL_law 874 = .ok (.iadd, 1) := by decide +kernel
theorem dL_law_875 : decode cL_law 875 = .ok (.iaload, 1) := by decide +kernel
theorem dL_law_876 : decode cL_law 876 = .ok (.aload_n 0, 1) := by decide +kernel
theorem dL_law_877 : decode cL_law 877 = .ok (.iload_n 3, 1) := by decide +kernel
theorem dL_law_878 : decode cL_law 878 = .ok (.iconst 2, 1) := by decide +kernel
theorem dL_law_879 : decode cL_law 879 = .ok (.iadd, 1) := by decide +kernel
theorem dL_law_880 : decode cL_law 880 = .ok (.iaload, 1) := by decide +kernel
theorem dL_law_881 : decode cL_law 881 = .ok (.aload_n 0, 1) := by decide +kernel
theorem dL_law_882 : decode cL_law 882 = .ok (.iload_n 3, 1) := by decide +kernel
theorem dL_law_883 : decode cL_law 883 = .ok (.iconst 3, 1) := by decide +kernel
theorem dL_law_884 : decode cL_law 884 = .ok (.iadd, 1) := by decide +kernel
theorem dL_law_885 : decode cL_law 885 = .ok (.iaload, 1) := by decide +kernel
theorem dL_law_886 : decode cL_law 886 = .ok (.invokevirtual 116, 3) := by decide +kernel
theorem dL_law_889 : decode cL_law 889 = .ok (.aload_n 2, 1) := by decide +kernel
theorem dL_law_890 : decode cL_law 890 = .ok (.aload_n 0, 1) := by decide +kernel
theorem dL_law_891 : decode cL_law 891 = .ok (.iload_n 3, 1) := by decide +kernel
theorem dL_law_892 : decode cL_law 892 = .ok (.iconst 1, 1) := by decide +kernel
theorem dL_law_893 : decode cL_law 893 = .ok (.iadd, 1) := by decide +kernel
theorem dL_law_894 : decode cL_law 894 = .ok (.iaload, 1) := by decide +kernel
theorem dL_law_895 : decode cL_law 895 = .ok (.aload_n 0, 1) := by decide +kernel
theorem dL_law_896 : decode cL_law 896 = .ok (.iload_n 3, 1) := by decide +kernel
theorem dL_law_897 : decode cL_law 897 = .ok (.iconst 2, 1) := by decide +kernel
theorem dL_law_898 : decode cL_law 898 = .ok (.iadd, 1) := by decide +kernel
theorem dL_law_899 : decode cL_law 899 = .ok (.iaload, 1) := by decide +kernel
theorem dL_law_900 : decode cL_law 900 = .ok (.aload_n 0, 1) := by decide +kernel
theorem dL_law_901 : decode cL_law 901 = .ok (.iload_n 3, 1) := by decide +kernel
theorem dL_law_902 : decode cL_law 902 = .ok (.iconst 3, 1) := by decide +kernel
theorem dL_law_903 : decode cL_law 903 = .ok (.iadd, 1) := by decide +kernel
theorem dL_law_904 : decode cL_law 904 = .ok (.iaload, 1) := by decide +kernel
theorem dL_law_905 : decode cL_law 905 = .ok (.invokevirtual 119, 3) := by decide +kernel
theorem dL_law_908 : decode cL_law 908 = .ok (.if_icmp .eq 130, 3) := by decide +kernel
theorem dL_law_911 : decode cL_law 911 = .ok (.iconst 0, 1) := by decide +kernel
theorem dL_law_912 : decode cL_law 912 = .ok (.ireturn, 1) := by decide +kernel
theorem dL_law_913 : decode cL_law 913 = .ok (.aload_n 1, 1) := by decide +kernel
theorem dL_law_914 : decode cL_law 914 = .ok (.invokevirtual 120, 3) := by decide +kernel
theorem dL_law_917 : decode cL_law 917 = .ok (.aload_n 2, 1) := by decide +kernel
theorem dL_law_918 : decode cL_law 918 = .ok (.invokevirtual 123, 3) := by decide +kernel
theorem dL_law_921 : decode cL_law 921 = .ok (.if_icmp .eq 117, 3) := by decide +kernel
theorem dL_law_924 : decode cL_law 924 = .ok (.iconst 0, 1) := by decide +kernel
theorem dL_law_925 : decode cL_law 925 = .ok (.ireturn, 1) := by decide +kernel
theorem dL_law_926 : decode cL_law 926 = .ok (.aload_n 1, 1) := by decide +kernel
theorem dL_law_927 : decode cL_law 927 = .ok (.aload_n 0, 1) := by decide +kernel
theorem dL_law_928 : decode cL_law 928 = .ok (.iload_n 3, 1) := by decide +kernel
theorem dL_law_929 : decode cL_law 929 = .ok (.iconst 1, 1) := by decide +kernel
theorem dL_law_930 : decode cL_law 930 = .ok (.iadd, 1) := by decide +kernel
theorem dL_law_931 : decode cL_law 931 = .ok (.iaload, 1) := by decide +kernel
theorem dL_law_932 : decode cL_law 932 = .ok (.invokevirtual 124, 3) := by decide +kernel
theorem dL_law_935 : decode cL_law 935 = .ok (.aload_n 2, 1) := by decide +kernel
theorem dL_law_936 : decode cL_law 936 = .ok (.aload_n 0, 1) := by decide +kernel
theorem dL_law_937 : decode cL_law 937 = .ok (.iload_n 3, 1) := by decide +kernel
theorem dL_law_938 : decode cL_law 938 = .ok (.iconst 1, 1) := by decide +kernel
theorem dL_law_939 : decode cL_law 939 = .ok (.iadd, 1) := by decide +kernel
theorem dL_law_940 : decode cL_law 940 = .ok (.iaload, 1) := by decide +kernel
theorem dL_law_941 : decode cL_law 941 = .ok (.invokevirtual 127, 3) := by decide +kernel
theorem dL_law_944 : decode cL_law 944 = .ok (.if_icmp .eq 94, 3) := by decide +kernel
theorem dL_law_947 : decode cL_law 947 = .ok (.iconst 0, 1) := by decide +kernel
theorem dL_law_948 : decode cL_law 948 = .ok (.ireturn, 1) := by decide +kernel
theorem dL_law_949 : decode cL_law 949 = .ok (.aload_n 1, 1) := by decide +kernel
theorem dL_law_950 : decode cL_law 950 = .ok (.aload_n 0, 1) := by decide +kernel
theorem dL_law_951 : decode cL_law 951 = .ok (.iload_n 3, 1) := by decide +kernel
theorem dL_law_952 : decode cL_law 952 = .ok (.iconst 1, 1) := by decide +kernel
theorem dL_law_953 : decode cL_law 953 = .ok (.iadd, 1) := by decide +kernel
theorem dL_law_954 : decode cL_law 954 = .ok (.iaload, 1) := by decide +kernel
theorem dL_law_955 : decode cL_law 955 = .ok (.aload_n 0, 1) := by decide +kernel
theorem dL_law_956 : decode cL_law 956 = .ok (.iload_n 3, 1) := by decide +kernel
theorem dL_law_957 : decode cL_law 957 = .ok (.iconst 2, 1) := by decide +kernel
theorem dL_law_958 : decode cL_law 958 = .ok (.iadd, 1) := by decide +kernel
theorem dL_law_959 : decode cL_law 959 = .ok (.iaload, 1) := by decide +kernel
theorem dL_law_960 : decode cL_law 960 = .ok (.invokevirtual 128, 3) := by decide +kernel
theorem dL_law_963 : decode cL_law 963 = .ok (.aload_n 2, 1) := by decide +kernel
theorem dL_law_964 : decode cL_law 964 = .ok (.aload_n 0, 1) := by decide +kernel
theorem dL_law_965 : decode cL_law 965 = .ok (.iload_n 3, 1) := by decide +kernel
theorem dL_law_966 : decode cL_law 966 = .ok (.iconst 1, 1) := by decide +kernel
theorem dL_law_967 : decode cL_law 967 = .ok (.iadd, 1) := by decide +kernel
theorem dL_law_968 : decode cL_law 968 = .ok (.iaload, 1) := by decide +kernel
theorem dL_law_969 : decode cL_law 969 = .ok (.aload_n 0, 1) := by decide +kernel
theorem dL_law_970 : decode cL_law 970 = .ok (.iload_n 3, 1) := by decide +kernel
theorem dL_law_971 : decode cL_law 971 = .ok (.iconst 2, 1) := by decide +kernel
theorem dL_law_972 : decode cL_law 972 = .ok (.iadd, 1) := by decide +kernel
theorem dL_law_973 : decode cL_law 973 = .ok (.iaload, 1) := by decide +kernel
theorem dL_law_974 : decode cL_law 974 = .ok (.invokevirtual 131, 3) := by decide +kernel
theorem dL_law_977 : decode cL_law 977 = .ok (.if_icmp .eq 61, 3) := by decide +kernel
theorem dL_law_980 : decode cL_law 980 = .ok (.iconst 0, 1) := by decide +kernel
theorem dL_law_981 : decode cL_law 981 = .ok (.ireturn, 1) := by decide +kernel
theorem dL_law_982 : decode cL_law 982 = .ok (.aload_n 1, 1) := by decide +kernel
theorem dL_law_983 : decode cL_law 983 = .ok (.aload_n 0, 1) := by decide +kernel
theorem dL_law_984 : decode cL_law 984 = .ok (.iload_n 3, 1) := by decide +kernel
theorem dL_law_985 : decode cL_law 985 = .ok (.iconst 1, 1) := by decide +kernel
theorem dL_law_986 : decode cL_law 986 = .ok (.iadd, 1) := by decide +kernel
theorem dL_law_987 : decode cL_law 987 = .ok (.iaload, 1) := by decide +kernel
theorem dL_law_988 : decode cL_law 988 = .ok (.aload_n 0, 1) := by decide +kernel
theorem dL_law_989 : decode cL_law 989 = .ok (.iload_n 3, 1) := by decide +kernel
theorem dL_law_990 : decode cL_law 990 = .ok (.iconst 2, 1) := by decide +kernel
theorem dL_law_991 : decode cL_law 991 = .ok (.iadd, 1) := by decide +kernel
theorem dL_law_992 : decode cL_law 992 = .ok (.iaload, 1) := by decide +kernel
theorem dL_law_993 : decode cL_law 993 = .ok (.invokevirtual 132, 3) := by decide +kernel
theorem dL_law_996 : decode cL_law 996 = .ok (.aload_n 2, 1) := by decide +kernel
theorem dL_law_997 : decode cL_law 997 = .ok (.aload_n 0, 1) := by decide +kernel
theorem dL_law_998 : decode cL_law 998 = .ok (.iload_n 3, 1) := by decide +kernel
theorem dL_law_999 : decode cL_law 999 = .ok (.iconst 1, 1) := by decide +kernel
theorem dL_law_1000 : decode cL_law 1000 = .ok (.iadd, 1) := by decide +kernel
theorem dL_law_1001 : decode cL_law 1001 = .ok (.iaload, 1) := by decide +kernel
theorem dL_law_1002 : decode cL_law 1002 = .ok (.aload_n 0, 1) := by decide +kernel
theorem dL_law_1003 : decode cL_law 1003 = .ok (.iload_n 3, 1) := by decide +kernel
theorem dL_law_1004 : decode cL_law 1004 = .ok (.iconst 2, 1) := by decide +kernel
theorem dL_law_1005 : decode cL_law 1005 = .ok (.iadd, 1) := by decide +kernel
theorem dL_law_1006 : decode cL_law 1006 = .ok (.iaload, 1) := by decide +kernel
theorem dL_law_1007 : decode cL_law 1007 = .ok (.invokevirtual 135, 3) := by decide +kernel
theorem dL_law_1010 : decode cL_law 1010 = .ok (.if_icmp .eq 28, 3) := by decide +kernel
theorem dL_law_1013 : decode cL_law 1013 = .ok (.iconst 0, 1) := by decide +kernel
theorem dL_law_1014 : decode cL_law 1014 = .ok (.ireturn, 1) := by decide +kernel
theorem dL_law_1015 : decode cL_law 1015 = .ok (.aload_n 1, 1) := by decide +kernel
theorem dL_law_1016 : decode cL_law 1016 = .ok (.aload_n 0, 1) := by decide +kernel
theorem dL_law_1017 : decode cL_law 1017 = .ok (.iload_n 3, 1) := by decide +kernel
theorem dL_law_1018 : decode cL_law 1018 = .ok (.iconst 1, 1) := by decide +kernel
theorem dL_law_1019 : decode cL_law 1019 = .ok (.iadd, 1) := by decide +kernel
theorem dL_law_1020 : decode cL_law 1020 = .ok (.iaload, 1) := by decide +kernel
theorem dL_law_1021 : decode cL_law 1021 = .ok (.invokevirtual 136, 3) := by decide +kernel
theorem dL_law_1024 : decode cL_law 1024 = .ok (.aload_n 2, 1) := by decide +kernel
theorem dL_law_1025 : decode cL_law 1025 = .ok (.aload_n 0, 1) := by decide +kernel
theorem dL_law_1026 : decode cL_law 1026 = .ok (.iload_n 3, 1) := by decide +kernel
theorem dL_law_1027 : decode cL_law 1027 = .ok (.iconst 1, 1) := by decide +kernel
theorem dL_law_1028 : decode cL_law 1028 = .ok (.iadd, 1) := by decide +kernel
theorem dL_law_1029 : decode cL_law 1029 = .ok (.iaload, 1) := by decide +kernel
theorem dL_law_1030 : decode cL_law 1030 = .ok (.invokevirtual 139, 3) := by decide +kernel
theorem dL_law_1033 : decode cL_law 1033 = .ok (.if_icmp .eq 5, 3) := by decide +kernel
theorem dL_law_1036 : decode cL_law 1036 = .ok (.iconst 0, 1) := by decide +kernel
theorem dL_law_1037 : decode cL_law 1037 = .ok (.ireturn, 1) := by decide +kernel
theorem dL_law_1038 : decode cL_law 1038 = .ok (.iinc 3 4, 3) := by decide +kernel
theorem dL_law_1041 : decode cL_law 1041 = .ok (.goto (-1023), 3) := by decide +kernel
theorem dL_law_1044 : decode cL_law 1044 = .ok (.iconst 1, 1) := by decide +kernel
theorem dL_law_1045 : decode cL_law 1045 = .ok (.ireturn, 1) := by decide +kernel
end
section
theorem dX8_init_0 : decode cX8_init 0 = .ok (.aload_n 0, 1) := by decide +kernel
theorem dX8_init_1 : decode cX8_init 1 = .ok (.invokespecial 1, 3) := by decide +kernel
theorem dX8_init_4 : decode cX8_init 4 = .ok (.aload_n 0, 1) := by decide +kernel
theorem dX8_init_5 : decode cX8_init 5 = .ok (.sipush 195, 3) := by decide +kernel
theorem dX8_init_8 : decode cX8_init 8 = .ok (.newarray .int, 2) := by decide +kernel
theorem dX8_init_10 : decode cX8_init 10 = .ok (.putfield 7, 3) := by decide +kernel
theorem dX8_init_13 : decode cX8_init 13 = .ok (.aload_n 0, 1) := by decide +kernel
theorem dX8_init_14 : decode cX8_init 14 = .ok (.iconst 2, 1) := by decide +kernel
theorem dX8_init_15 : decode cX8_init 15 = .ok (.newarray .boolean, 2) := by decide +kernel
theorem dX8_init_17 : decode cX8_init 17 = .ok (.putfield 13, 3) := by decide +kernel
theorem dX8_init_20 : decode cX8_init 20 = .ok (.aload_n 0, 1) := by decide +kernel
theorem dX8_init_21 : decode cX8_init 21 = .ok (.sipush 200, 3) := by decide +kernel
theorem dX8_init_24 : decode cX8_init 24 = .ok (.newarray .int, 2) := by decide +kernel
theorem dX8_init_26 : decode cX8_init 26 = .ok (.putfield 17, 3) := by decide +kernel
theorem dX8_init_29 : decode cX8_init 29 = .ok (.aload_n 0, 1) := by decide +kernel
theorem dX8_init_30 : decode cX8_init 30 = .ok (.bipush 48, 2) := by decide +kernel
theorem dX8_init_32 : decode cX8_init 32 = .ok (.newarray .int, 2) := by decide +kernel
theorem dX8_init_34 : decode cX8_init 34 = .ok (.putfield 20, 3) := by decide +kernel
theorem dX8_init_37 : decode cX8_init 37 = .ok (.aload_n 0, 1) := by decide +kernel
theorem dX8_init_38 : decode cX8_init 38 = .ok (.iconst 2, 1) := by decide +kernel
theorem dX8_init_39 : decode cX8_init 39 = .ok (.putfield 23, 3) := by decide +kernel
theorem dX8_init_42 : decode cX8_init 42 = .ok (.aload_n 0, 1) := by decide +kernel
theorem dX8_init_43 : decode cX8_init 43 = .ok (.bipush 8, 2) := by decide +kernel
theorem dX8_init_45 : decode cX8_init 45 = .ok (.newarray .int, 2) := by decide +kernel
theorem dX8_init_47 : decode cX8_init 47 = .ok (.putfield 27, 3) := by decide +kernel
theorem dX8_init_50 : decode cX8_init 50 = .ok (.aload_n 0, 1) := by decide +kernel
theorem dX8_init_51 : decode cX8_init 51 = .ok (.bipush 12, 2) := by decide +kernel
theorem dX8_init_53 : decode cX8_init 53 = .ok (.newarray .int, 2) := by decide +kernel
theorem dX8_init_55 : decode cX8_init 55 = .ok (.putfield 30, 3) := by decide +kernel
theorem dX8_init_58 : decode cX8_init 58 = .ok (.aload_n 0, 1) := by decide +kernel
theorem dX8_init_59 : decode cX8_init 59 = .ok (.bipush 12, 2) := by decide +kernel
theorem dX8_init_61 : decode cX8_init 61 = .ok (.newarray .int, 2) := by decide +kernel
theorem dX8_init_63 : decode cX8_init 63 = .ok (.putfield 33, 3) := by decide +kernel
theorem dX8_init_66 : decode cX8_init 66 = .ok (.aload_n 0, 1) := by decide +kernel
theorem dX8_init_67 : decode cX8_init 67 = .ok (.bipush 6, 2) := by decide +kernel
theorem dX8_init_69 : decode cX8_init 69 = .ok (.newarray .int, 2) := by decide +kernel
theorem dX8_init_71 : decode cX8_init 71 = .ok (.putfield 36, 3) := by decide +kernel
theorem dX8_init_74 : decode cX8_init 74 = .ok (.aload_n 0, 1) := by decide +kernel
theorem dX8_init_75 : decode cX8_init 75 = .ok (.iconst 1, 1) := by decide +kernel
theorem dX8_init_76 : decode cX8_init 76 = .ok (.putfield 39, 3) := by decide +kernel
theorem dX8_init_79 : decode cX8_init 79 = .ok (.aload_n 0, 1) := by decide +kernel
theorem dX8_init_80 : decode cX8_init 80 = .ok (.bipush 6, 2) := by decide +kernel
theorem dX8_init_82 : decode cX8_init 82 = .ok (.newarray .int, 2) := by decide +kernel
theorem dX8_init_84 : decode cX8_init 84 = .ok (.putfield 42, 3) := by decide +kernel
theorem dX8_init_87 : decode cX8_init 87 = .ok (.aload_n 0, 1) := by decide +kernel
theorem dX8_init_88 : decode cX8_init 88 = .ok (.bipush 8, 2) := by decide +kernel
theorem dX8_init_90 : decode cX8_init 90 = .ok (.newarray .int, 2) := by decide +kernel
theorem dX8_init_92 : decode cX8_init 92 = .ok (.putfield 45, 3) := by decide +kernel
theorem dX8_init_95 : decode cX8_init 95 = .ok (.aload_n 0, 1) := by decide +kernel
theorem dX8_init_96 : decode cX8_init 96 = .ok (.bipush 18, 2) := by decide +kernel
theorem dX8_init_98 : decode cX8_init 98 = .ok (.newarray .int, 2) := by decide +kernel
theorem dX8_init_100 : decode cX8_init 100 = .ok (.putfield 48, 3) := by decide +kernel
theorem dX8_init_103 : decode cX8_init 103 = .ok (.aload_n 0, 1) := by decide +kernel
theorem dX8_init_104 : decode cX8_init 104 = .ok (.bipush 8, 2) := by decide +kernel
theorem dX8_init_106 : decode cX8_init 106 = .ok (.newarray .int, 2) := by decide +kernel
theorem dX8_init_108 : decode cX8_init 108 = .ok (.putfield 51, 3) := by decide +kernel
theorem dX8_init_111 : decode cX8_init 111 = .ok (.aload_n 0, 1) := by decide +kernel
theorem dX8_init_112 : decode cX8_init 112 = .ok (.iconst 2, 1) := by decide +kernel
theorem dX8_init_113 : decode cX8_init 113 = .ok (.invokevirtual 54, 3) := by decide +kernel
theorem dX8_init_116 : decode cX8_init 116 = .ok (.aload_n 0, 1) := by decide +kernel
theorem dX8_init_117 : decode cX8_init 117 = .ok (.invokevirtual 58, 3) := by decide +kernel
theorem dX8_init_120 : decode cX8_init 120 = .ok (.return_, 1) := by decide +kernel
theorem dX8_in_0 : decode cX8_in 0 = .ok (.lload_n 0, 1) := by decide +kernel
theorem dX8_in_1 : decode cX8_in 1 = .ok (.lload_n 2, 1) := by decide +kernel
theorem dX8_in_2 : decode cX8_in 2 = .ok (.lcmp, 1) := by decide +kernel
theorem dX8_in_3 : decode cX8_in 3 = .ok (.ifCond .lt 14, 3) := by decide +kernel
theorem dX8_in_6 : decode cX8_in 6 = .ok (.lload_n 0, 1) := by decide +kernel
theorem dX8_in_7 : decode cX8_in 7 = .ok (.lload 4, 2) := by decide +kernel
theorem dX8_in_9 : decode cX8_in 9 = .ok (.lcmp, 1) := by decide +kernel
theorem dX8_in_10 : decode cX8_in 10 = .ok (.ifCond .gt 7, 3) := by decide +kernel
theorem dX8_in_13 : decode cX8_in 13 = .ok (.iconst 1, 1) := by decide +kernel
theorem dX8_in_14 : decode cX8_in 14 = .ok (.goto 4, 3) := by decide +kernel
theorem dX8_in_17 : decode cX8_in 17 = .ok (.iconst 0, 1) := by decide +kernel
theorem dX8_in_18 : decode cX8_in 18 = .ok (.ireturn, 1) := by decide +kernel
theorem dX8_has_0 : decode cX8_has 0 = .ok (.iload_n 0, 1) := by decide +kernel
theorem dX8_has_1 : decode cX8_has 1 = .ok (.iload_n 1, 1) := by decide +kernel
theorem dX8_has_2 : decode cX8_has 2 = .ok (.ishr, 1) := by decide +kernel
theorem dX8_has_3 : decode cX8_has 3 = .ok (.iconst 1, 1) := by decide +kernel
theorem dX8_has_4 : decode cX8_has 4 = .ok (.iand, 1) := by decide +kernel
theorem dX8_has_5 : decode cX8_has 5 = .ok (.iconst 1, 1) := by decide +kernel
theorem dX8_has_6 : decode cX8_has 6 = .ok (.if_icmp .ne 7, 3) := by decide +kernel
theorem dX8_has_9 : decode cX8_has 9 = .ok (.iconst 1, 1) := by decide +kernel
theorem dX8_has_10 : decode cX8_has 10 = .ok (.goto 4, 3) := by decide +kernel
theorem dX8_has_13 : decode cX8_has 13 = .ok (.iconst 0, 1) := by decide +kernel
theorem dX8_has_14 : decode cX8_has 14 = .ok (.ireturn, 1) := by decide +kernel
theorem dX8_bits_0 : decode cX8_bits 0 = .ok (.iconst 0, 1) := by decide +kernel
theorem dX8_bits_1 : decode cX8_bits 1 = .ok (.istore_n 1, 1) := by decide +kernel
theorem dX8_bits_2 : decode cX8_bits 2 = .ok (.iconst 0, 1) := by decide +kernel
theorem dX8_bits_3 : decode cX8_bits 3 = .ok (.istore_n 2, 1) := by decide +kernel
theorem dX8_bits_4 : decode cX8_bits 4 = .ok (.iload_n 2, 1) := by decide +kernel
theorem dX8_bits_5 : decode cX8_bits 5 = .ok (.bipush 8, 2) := by decide +kernel
theorem dX8_bits_7 : decode cX8_bits 7 = .ok (.if_icmp .ge 17, 3) := by decide +kernel
theorem dX8_bits_10 : decode cX8_bits 10 = .ok (.iload_n 1, 1) := by decide +kernel
theorem dX8_bits_11 : decode cX8_bits 11 = .ok (.iload_n 0, 1) := by decide +kernel
theorem dX8_bits_12 : decode cX8_bits 12 = .ok (.iload_n 2, 1) := by decide +kernel
theorem dX8_bits_13 : decode cX8_bits 13 = .ok (.ishr, 1) := by decide +kernel
theorem dX8_bits_14 : decode cX8_bits 14 = .ok (.iconst 1, 1) := by decide +kernel
theorem dX8_bits_15 : decode cX8_bits 15 = .ok (.iand, 1) := by decide +kernel
theorem dX8_bits_16 : decode cX8_bits 16 = .ok (.iadd, 1) := by decide +kernel
theorem dX8_bits_17 : decode cX8_bits 17 = .ok (.istore_n 1, 1) := by decide +kernel
theorem dX8_bits_18 : decode cX8_bits 18 = .ok (.iinc 2 1, 3) := by decide +kernel
theorem dX8_bits_21 : decode cX8_bits 21 = .ok (.goto (-17), 3) := by decide +kernel
theorem dX8_bits_24 : decode cX8_bits 24 = .ok (.iload_n 1, 1) := by decide +kernel
theorem dX8_bits_25 : decode cX8_bits 25 = .ok (.ireturn, 1) := by decide +kernel
theorem dX8_copy_0 : decode cX8_copy 0 = .ok (.iconst 0, 1) := by decide +kernel
theorem dX8_copy_1 : decode cX8_copy 1 = .ok (.istore_n 3, 1) := by decide +kernel
theorem dX8_copy_2 : decode cX8_copy 2 = .ok (.iload_n 3, 1) := by decide +kernel
theorem dX8_copy_3 : decode cX8_copy 3 = .ok (.bipush 39, 2) := by decide +kernel
theorem dX8_copy_5 : decode cX8_copy 5 = .ok (.if_icmp .ge 31, 3) := by decide +kernel
theorem dX8_copy_8 : decode cX8_copy 8 = .ok (.aload_n 0, 1) := by decide +kernel
theorem dX8_copy_9 : decode cX8_copy 9 = .ok (.getfield 7, 3) := by decide +kernel
theorem dX8_copy_12 : decode cX8_copy 12 = .ok (.bipush 39, 2) := by decide +kernel
theorem dX8_copy_14 : decode cX8_copy 14 = .ok (.iload_n 2, 1) := by decide +kernel
theorem dX8_copy_15 : decode cX8_copy 15 = .ok (.imul, 1) := by decide +kernel
theorem dX8_copy_16 : decode cX8_copy 16 = .ok (.iload_n 3, 1) := by decide +kernel
theorem dX8_copy_17 : decode cX8_copy 17 = .ok (.iadd, 1) := by decide +kernel
theorem dX8_copy_18 : decode cX8_copy 18 = .ok (.aload_n 0, 1) := by decide +kernel
theorem dX8_copy_19 : decode cX8_copy 19 = .ok (.getfield 7, 3) := by decide +kernel
theorem dX8_copy_22 : decode cX8_copy 22 = .ok (.bipush 39, 2) := by decide +kernel
theorem dX8_copy_24 : decode cX8_copy 24 = .ok (.iload_n 1, 1) := by decide +kernel
theorem dX8_copy_25 : decode cX8_copy 25 = .ok (.imul, 1) := by decide +kernel
theorem dX8_copy_26 : decode cX8_copy 26 = .ok (.iload_n 3, 1) := by decide +kernel
theorem dX8_copy_27 : decode cX8_copy 27 = .ok (.iadd, 1) := by decide +kernel
theorem dX8_copy_28 : decode cX8_copy 28 = .ok (.iaload, 1) := by decide +kernel
theorem dX8_copy_29 : decode cX8_copy 29 = .ok (.iastore, 1) := by decide +kernel
theorem dX8_copy_30 : decode cX8_copy 30 = .ok (.iinc 3 1, 3) := by decide +kernel
theorem dX8_copy_33 : decode cX8_copy 33 = .ok (.goto (-31), 3) := by decide +kernel
theorem dX8_copy_36 : decode cX8_copy 36 = .ok (.return_, 1) := by decide +kernel
theorem dX8_clear_0 : decode cX8_clear 0 = .ok (.aload_n 0, 1) := by decide +kernel
theorem dX8_clear_1 : decode cX8_clear 1 = .ok (.iload_n 1, 1) := by decide +kernel
theorem dX8_clear_2 : decode cX8_clear 2 = .ok (.putfield 23, 3) := by decide +kernel
theorem dX8_clear_5 : decode cX8_clear 5 = .ok (.aload_n 0, 1) := by decide +kernel
theorem dX8_clear_6 : decode cX8_clear 6 = .ok (.iconst 0, 1) := by decide +kernel
theorem dX8_clear_7 : decode cX8_clear 7 = .ok (.putfield 61, 3) := by decide +kernel
theorem dX8_clear_10 : decode cX8_clear 10 = .ok (.aload_n 0, 1) := by decide +kernel
theorem dX8_clear_11 : decode cX8_clear 11 = .ok (.iconst 0, 1) := by decide +kernel
theorem dX8_clear_12 : decode cX8_clear 12 = .ok (.putfield 64, 3) := by decide +kernel
theorem dX8_clear_15 : decode cX8_clear 15 = .ok (.aload_n 0, 1) := by decide +kernel
theorem dX8_clear_16 : decode cX8_clear 16 = .ok (.iconst 1, 1) := by decide +kernel
theorem dX8_clear_17 : decode cX8_clear 17 = .ok (.putfield 39, 3) := by decide +kernel
theorem dX8_clear_20 : decode cX8_clear 20 = .ok (.aload_n 0, 1) := by decide +kernel
theorem dX8_clear_21 : decode cX8_clear 21 = .ok (.getfield 7, 3) := by decide +kernel
theorem dX8_clear_24 : decode cX8_clear 24 = .ok (.sipush 157, 3) := by decide +kernel
theorem dX8_clear_27 : decode cX8_clear 27 = .ok (.iconst 0, 1) := by decide +kernel
theorem dX8_clear_28 : decode cX8_clear 28 = .ok (.iastore, 1) := by decide +kernel
theorem dX8_clear_29 : decode cX8_clear 29 = .ok (.iconst 0, 1) := by decide +kernel
theorem dX8_clear_30 : decode cX8_clear 30 = .ok (.istore_n 2, 1) := by decide +kernel
theorem dX8_clear_31 : decode cX8_clear 31 = .ok (.iload_n 2, 1) := by decide +kernel
theorem dX8_clear_32 : decode cX8_clear 32 = .ok (.bipush 8, 2) := by decide +kernel
theorem dX8_clear_34 : decode cX8_clear 34 = .ok (.if_icmp .ge 16, 3) := by decide +kernel
theorem dX8_clear_37 : decode cX8_clear 37 = .ok (.aload_n 0, 1) := by decide +kernel
theorem dX8_clear_38 : decode cX8_clear 38 = .ok (.getfield 27, 3) := by decide +kernel
theorem dX8_clear_41 : decode cX8_clear 41 = .ok (.iload_n 2, 1) := by decide +kernel
theorem dX8_clear_42 : decode cX8_clear 42 = .ok (.iconst 0, 1) := by decide +kernel
theorem dX8_clear_43 : decode cX8_clear 43 = .ok (.iastore, 1) := by decide +kernel
theorem dX8_clear_44 : decode cX8_clear 44 = .ok (.iinc 2 1, 3) := by decide +kernel
theorem dX8_clear_47 : decode cX8_clear 47 = .ok (.goto (-16), 3) := by decide +kernel
theorem dX8_clear_50 : decode cX8_clear 50 = .ok (.return_, 1) := by decide +kernel
theorem dX8_begin_0 : decode cX8_begin 0 = .ok (.sipush 156, 3) := by decide +kernel
theorem dX8_begin_3 : decode cX8_begin 3 = .ok (.istore_n 1, 1) := by decide +kernel
theorem dX8_begin_4 : decode cX8_begin 4 = .ok (.aload_n 0, 1) := by decide +kernel
theorem dX8_begin_5 : decode cX8_begin 5 = .ok (.getfield 7, 3) := by decide +kernel
theorem dX8_begin_8 : decode cX8_begin 8 = .ok (.iload_n 1, 1) := by decide +kernel
theorem dX8_begin_9 : decode cX8_begin 9 = .ok (.iconst 0, 1) := by decide +kernel
theorem dX8_begin_10 : decode cX8_begin 10 = .ok (.iadd, 1) := by decide +kernel
theorem dX8_begin_11 : decode cX8_begin 11 = .ok (.iconst 0, 1) := by decide +kernel
theorem dX8_begin_12 : decode cX8_begin 12 = .ok (.iastore, 1) := by decide +kernel
theorem dX8_begin_13 : decode cX8_begin 13 = .ok (.aload_n 0, 1) := by decide +kernel
theorem dX8_begin_14 : decode cX8_begin 14 = .ok (.getfield 7, 3) := by decide +kernel
theorem dX8_begin_17 : decode cX8_begin 17 = .ok (.iload_n 1, 1) := by decide +kernel
theorem dX8_begin_18 : decode cX8_begin 18 = .ok (.iconst 2, 1) := by decide +kernel
theorem dX8_begin_19 : decode cX8_begin 19 = .ok (.iadd, 1) := by decide +kernel
theorem dX8_begin_20 : decode cX8_begin 20 = .ok (.iconst (-1), 1) := by decide +kernel
theorem dX8_begin_21 : decode cX8_begin 21 = .ok (.iastore, 1) := by decide +kernel
theorem dX8_begin_22 : decode cX8_begin 22 = .ok (.iconst 0, 1) := by decide +kernel
theorem dX8_begin_23 : decode cX8_begin 23 = .ok (.istore_n 2, 1) := by decide +kernel
theorem dX8_begin_24 : decode cX8_begin 24 = .ok (.iload_n 2, 1) := by decide +kernel
theorem dX8_begin_25 : decode cX8_begin 25 = .ok (.bipush 6, 2) := by decide +kernel
theorem dX8_begin_27 : decode cX8_begin 27 = .ok (.if_icmp .ge 33, 3) := by decide +kernel
theorem dX8_begin_30 : decode cX8_begin 30 = .ok (.aload_n 0, 1) := by decide +kernel
theorem dX8_begin_31 : decode cX8_begin 31 = .ok (.getfield 7, 3) := by decide +kernel
theorem dX8_begin_34 : decode cX8_begin 34 = .ok (.iload_n 1, 1) := by decide +kernel
theorem dX8_begin_35 : decode cX8_begin 35 = .ok (.bipush 27, 2) := by decide +kernel
theorem dX8_begin_37 : decode cX8_begin 37 = .ok (.iadd, 1) := by decide +kernel
theorem dX8_begin_38 : decode cX8_begin 38 = .ok (.iload_n 2, 1) := by decide +kernel
theorem dX8_begin_39 : decode cX8_begin 39 = .ok (.iadd, 1) := by decide +kernel
theorem dX8_begin_40 : decode cX8_begin 40 = .ok (.iconst (-1), 1) := by decide +kernel
theorem dX8_begin_41 : decode cX8_begin 41 = .ok (.iastore, 1) := by decide +kernel
theorem dX8_begin_42 : decode cX8_begin 42 = .ok (.aload_n 0, 1) := by decide +kernel
theorem dX8_begin_43 : decode cX8_begin 43 = .ok (.getfield 7, 3) := by decide +kernel
theorem dX8_begin_46 : decode cX8_begin 46 = .ok (.iload_n 1, 1) := by decide +kernel
theorem dX8_begin_47 : decode cX8_begin 47 = .ok (.bipush 33, 2) := by decide +kernel
theorem dX8_begin_49 : decode cX8_begin 49 = .ok (.iadd, 1) := by decide +kernel
theorem dX8_begin_50 : decode cX8_begin 50 = .ok (.iload_n 2, 1) := by decide +kernel
theorem dX8_begin_51 : decode cX8_begin 51 = .ok (.iadd, 1) := by decide +kernel
theorem dX8_begin_52 : decode cX8_begin 52 = .ok (.iconst (-1), 1) := by decide +kernel
theorem dX8_begin_53 : decode cX8_begin 53 = .ok (.iastore, 1) := by decide +kernel
theorem dX8_begin_54 : decode cX8_begin 54 = .ok (.iinc 2 1, 3) := by decide +kernel
theorem dX8_begin_57 : decode cX8_begin 57 = .ok (.goto (-33), 3) := by decide +kernel
theorem dX8_begin_60 : decode cX8_begin 60 = .ok (.aload_n 0, 1) := by decide +kernel
theorem dX8_begin_61 : decode cX8_begin 61 = .ok (.iconst 4, 1) := by decide +kernel
theorem dX8_begin_62 : decode cX8_begin 62 = .ok (.iconst 0, 1) := by decide +kernel
theorem dX8_begin_63 : decode cX8_begin 63 = .ok (.invokevirtual 67, 3) := by decide +kernel
theorem dX8_begin_66 : decode cX8_begin 66 = .ok (.return_, 1) := by decide +kernel
theorem dX8_write_0 : decode cX8_write 0 = .ok (.iload_n 3, 1) := by decide +kernel
theorem dX8_write_1 : decode cX8_write 1 = .ok (.i2l, 1) := by decide +kernel
theorem dX8_write_2 : decode cX8_write 2 = .ok (.lconst 1, 1) := by decide +kernel
theorem dX8_write_3 : decode cX8_write 3 = .ok (.ldc2_w 71, 3) := by decide +kernel
theorem dX8_write_6 : decode cX8_write 6 = .ok (.invokestatic 73, 3) := by decide +kernel
theorem dX8_write_9 : decode cX8_write 9 = .ok (.ifCond .ne 6, 3) := by decide +kernel
theorem dX8_write_12 : decode cX8_write 12 = .ok (.bipush (-3), 2) := by decide +kernel
theorem dX8_write_14 : decode cX8_write 14 = .ok (.ireturn, 1) := by decide +kernel
theorem dX8_write_15 : decode cX8_write 15 = .ok (.aload_n 0, 1) := by decide +kernel
theorem dX8_write_16 : decode cX8_write 16 = .ok (.getfield 77, 3) := by decide +kernel
theorem dX8_write_19 : decode cX8_write 19 = .ok (.iload_n 3, 1) := by decide +kernel
theorem dX8_write_20 : decode cX8_write 20 = .ok (.iadd, 1) := by decide +kernel
theorem dX8_write_21 : decode cX8_write 21 = .ok (.sipush 200, 3) := by decide +kernel
theorem dX8_write_24 : decode cX8_write 24 = .ok (.if_icmp .le 6, 3) := by decide +kernel
theorem dX8_write_27 : decode cX8_write 27 = .ok (.bipush (-5), 2) := by decide +kernel
theorem dX8_write_29 : decode cX8_write 29 = .ok (.ireturn, 1) := by decide +kernel
theorem dX8_write_30 : decode cX8_write 30 = .ok (.iconst 0, 1) := by decide +kernel
theorem dX8_write_31 : decode cX8_write 31 = .ok (.istore 4, 2) := by decide +kernel
theorem dX8_write_33 : decode cX8_write 33 = .ok (.iload 4, 2) := by decide +kernel
theorem dX8_write_35 : decode cX8_write 35 = .ok (.iload_n 3, 1) := by decide +kernel
theorem dX8_write_36 : decode cX8_write 36 = .ok (.if_icmp .ge 40, 3) := by decide +kernel
theorem dX8_write_39 : decode cX8_write 39 = .ok (.aload_n 0, 1) := by decide +kernel
theorem dX8_write_40 : decode cX8_write 40 = .ok (.getfield 17, 3) := by decide +kernel
theorem dX8_write_43 : decode cX8_write 43 = .ok (.aload_n 0, 1) := by decide +kernel
theorem dX8_write_44 : decode cX8_write 44 = .ok (.getfield 77, 3) := by decide +kernel
theorem dX8_write_47 : decode cX8_write 47 = .ok (.lload_n 1, 1) := by decide +kernel
theorem dX8_write_48 : decode cX8_write 48 = .ok (.bipush 8, 2) := by decide +kernel
theorem dX8_write_50 : decode cX8_write 50 = .ok (.iload 4, 2) := by decide +kernel
theorem dX8_write_52 : decode cX8_write 52 = .ok (.imul, 1) := by decide +kernel
theorem dX8_write_53 : decode cX8_write 53 = .ok (.lshr, 1) := by decide +kernel
theorem dX8_write_54 : decode cX8_write 54 = .ok (.ldc2_w 80, 3) := by decide +kernel
theorem dX8_write_57 : decode cX8_write 57 = .ok (.land, 1) := by decide +kernel
theorem dX8_write_58 : decode cX8_write 58 = .ok (.l2i, 1) := by decide +kernel
theorem dX8_write_59 : decode cX8_write 59 = .ok (.iastore, 1) := by decide +kernel
theorem dX8_write_60 : decode cX8_write 60 = .ok (.aload_n 0, 1) := by decide +kernel
theorem dX8_write_61 : decode cX8_write 61 = .ok (.dup, 1) := by decide +kernel
theorem dX8_write_62 : decode cX8_write 62 = .ok (.getfield 77, 3) := by decide +kernel
theorem dX8_write_65 : decode cX8_write 65 = .ok (.iconst 1, 1) := by decide +kernel
theorem dX8_write_66 : decode cX8_write 66 = .ok (.iadd, 1) := by decide +kernel
theorem dX8_write_67 : decode cX8_write 67 = .ok (.putfield 77, 3) := by decide +kernel
theorem dX8_write_70 : decode cX8_write 70 = .ok (.iinc 4 1, 3) := by decide +kernel
theorem dX8_write_73 : decode cX8_write 73 = .ok (.goto (-40), 3) := by decide +kernel
theorem dX8_write_76 : decode cX8_write 76 = .ok (.aload_n 0, 1) := by decide +kernel
theorem dX8_write_77 : decode cX8_write 77 = .ok (.getfield 77, 3) := by decide +kernel
theorem dX8_write_80 : decode cX8_write 80 = .ok (.ireturn, 1) := by decide +kernel
theorem dX8_erase_0 : decode cX8_erase 0 = .ok (.aload_n 0, 1) := by decide +kernel
theorem dX8_erase_1 : decode cX8_erase 1 = .ok (.getfield 77, 3) := by decide +kernel
theorem dX8_erase_4 : decode cX8_erase 4 = .ok (.istore_n 1, 1) := by decide +kernel
theorem dX8_erase_5 : decode cX8_erase 5 = .ok (.aload_n 0, 1) := by decide +kernel
theorem dX8_erase_6 : decode cX8_erase 6 = .ok (.iconst 0, 1) := by decide +kernel
theorem dX8_erase_7 : decode cX8_erase 7 = .ok (.putfield 77, 3) := by decide +kernel
theorem dX8_erase_10 : decode cX8_erase 10 = .ok (.iload_n 1, 1) := by decide +kernel
theorem dX8_erase_11 : decode cX8_erase 11 = .ok (.ireturn, 1) := by decide +kernel
theorem dX8_sort_0 : decode cX8_sort 0 = .ok (.iload_n 0, 1) := by decide +kernel
theorem dX8_sort_1 : decode cX8_sort 1 = .ok (.bipush 97, 2) := by decide +kernel
theorem dX8_sort_3 : decode cX8_sort 3 = .ok (.if_icmp .lt 13, 3) := by decide +kernel
theorem dX8_sort_6 : decode cX8_sort 6 = .ok (.iload_n 0, 1) := by decide +kernel
theorem dX8_sort_7 : decode cX8_sort 7 = .ok (.bipush 122, 2) := by decide +kernel
theorem dX8_sort_9 : decode cX8_sort 9 = .ok (.if_icmp .gt 7, 3) := by decide +kernel
theorem dX8_sort_12 : decode cX8_sort 12 = .ok (.iconst 1, 1) := by decide +kernel
theorem dX8_sort_13 : decode cX8_sort 13 = .ok (.goto 20, 3) := by decide +kernel
theorem dX8_sort_16 : decode cX8_sort 16 = .ok (.iload_n 0, 1) := by decide +kernel
theorem dX8_sort_17 : decode cX8_sort 17 = .ok (.bipush 48, 2) := by decide +kernel
theorem dX8_sort_19 : decode cX8_sort 19 = .ok (.if_icmp .lt 13, 3) := by decide +kernel
theorem dX8_sort_22 : decode cX8_sort 22 = .ok (.iload_n 0, 1) := by decide +kernel
theorem dX8_sort_23 : decode cX8_sort 23 = .ok (.bipush 57, 2) := by decide +kernel
theorem dX8_sort_25 : decode cX8_sort 25 = .ok (.if_icmp .gt 7, 3) := by decide +kernel
theorem dX8_sort_28 : decode cX8_sort 28 = .ok (.iconst 2, 1) := by decide +kernel
theorem dX8_sort_29 : decode cX8_sort 29 = .ok (.goto 4, 3) := by decide +kernel
theorem dX8_sort_32 : decode cX8_sort 32 = .ok (.iconst 0, 1) := by decide +kernel
theorem dX8_sort_33 : decode cX8_sort 33 = .ok (.ireturn, 1) := by decide +kernel
theorem dX8_token_0 : decode cX8_token 0 = .ok (.aload_n 0, 1) := by decide +kernel
theorem dX8_token_1 : decode cX8_token 1 = .ok (.getfield 82, 3) := by decide +kernel
theorem dX8_token_4 : decode cX8_token 4 = .ok (.aload_n 0, 1) := by decide +kernel
theorem dX8_token_5 : decode cX8_token 5 = .ok (.getfield 77, 3) := by decide +kernel
theorem dX8_token_8 : decode cX8_token 8 = .ok (.if_icmp .ge 30, 3) := by decide +kernel
theorem dX8_token_11 : decode cX8_token 11 = .ok (.aload_n 0, 1) := by decide +kernel
theorem dX8_token_12 : decode cX8_token 12 = .ok (.getfield 17, 3) := by decide +kernel
theorem dX8_token_15 : decode cX8_token 15 = .ok (.aload_n 0, 1) := by decide +kernel
theorem dX8_token_16 : decode cX8_token 16 = .ok (.getfield 82, 3) := by decide +kernel
theorem dX8_token_19 : decode cX8_token 19 = .ok (.iaload, 1) := by decide +kernel
theorem dX8_token_20 : decode cX8_token 20 = .ok (.bipush 32, 2) := by decide +kernel
theorem dX8_token_22 : decode cX8_token 22 = .ok (.if_icmp .ne 16, 3) := by decide +kernel
theorem dX8_token_25 : decode cX8_token 25 = .ok (.aload_n 0, 1) := by decide +kernel
theorem dX8_token_26 : decode cX8_token 26 = .ok (.dup, 1) := by decide +kernel
theorem dX8_token_27 : decode cX8_token 27 = .ok (.getfield 82, 3) := by decide +kernel
theorem dX8_token_30 : decode cX8_token 30 = .ok (.iconst 1, 1) := by decide +kernel
theorem dX8_token_31 : decode cX8_token 31 = .ok (.iadd, 1) := by decide +kernel
theorem dX8_token_32 : decode cX8_token 32 = .ok (.putfield 82, 3) := by decide +kernel
theorem dX8_token_35 : decode cX8_token 35 = .ok (.goto (-35), 3) := by decide +kernel
theorem dX8_token_38 : decode cX8_token 38 = .ok (.aload_n 0, 1) := by decide +kernel
theorem dX8_token_39 : decode cX8_token 39 = .ok (.aload_n 0, 1) := by decide +kernel
theorem dX8_token_40 : decode cX8_token 40 = .ok (.getfield 82, 3) := by decide +kernel
theorem dX8_token_43 : decode cX8_token 43 = .ok (.putfield 85, 3) := by decide +kernel
theorem dX8_token_46 : decode cX8_token 46 = .ok (.aload_n 0, 1) := by decide +kernel
theorem dX8_token_47 : decode cX8_token 47 = .ok (.dup, 1) := by decide +kernel
theorem dX8_token_48 : decode cX8_token 48 = .ok (.getfield 82, 3) := by decide +kernel
theorem dX8_token_51 : decode cX8_token 51 = .ok (.aload_n 0, 1) := by decide +kernel
theorem dX8_token_52 : decode cX8_token 52 = .ok (.getfield 82, 3) := by decide +kernel
theorem dX8_token_55 : decode cX8_token 55 = .ok (.aload_n 0, 1) := by decide +kernel
theorem dX8_token_56 : decode cX8_token 56 = .ok (.getfield 77, 3) := by decide +kernel
theorem dX8_token_59 : decode cX8_token 59 = .ok (.if_icmp .ge 7, 3) := by decide +kernel
theorem dX8_token_62 : decode cX8_token 62 = .ok (.iconst 1, 1) := by decide +kernel
theorem dX8_token_63 : decode cX8_token 63 = .ok (.goto 4, 3) := by decide +kernel
theorem dX8_token_66 : decode cX8_token 66 = .ok (.iconst 0, 1) := by decide +kernel
theorem dX8_token_67 : decode cX8_token 67 = .ok (.iadd, 1) := by decide +kernel
theorem dX8_token_68 : decode cX8_token 68 = .ok (.putfield 82, 3) := by decide +kernel
theorem dX8_token_71 : decode cX8_token 71 = .ok (.aload_n 0, 1) := by decide +kernel
theorem dX8_token_72 : decode cX8_token 72 = .ok (.getfield 82, 3) := by decide +kernel
theorem dX8_token_75 : decode cX8_token 75 = .ok (.aload_n 0, 1) := by decide +kernel
theorem dX8_token_76 : decode cX8_token 76 = .ok (.getfield 77, 3) := by decide +kernel
theorem dX8_token_79 : decode cX8_token 79 = .ok (.if_icmp .ge 58, 3) := by decide +kernel
theorem dX8_token_82 : decode cX8_token 82 = .ok (.aload_n 0, 1) := by decide +kernel
theorem dX8_token_83 : decode cX8_token 83 = .ok (.getfield 17, 3) := by decide +kernel
theorem dX8_token_86 : decode cX8_token 86 = .ok (.aload_n 0, 1) := by decide +kernel
theorem dX8_token_87 : decode cX8_token 87 = .ok (.getfield 85, 3) := by decide +kernel
theorem dX8_token_90 : decode cX8_token 90 = .ok (.iaload, 1) := by decide +kernel
theorem dX8_token_91 : decode cX8_token 91 = .ok (.invokestatic 88, 3) := by decide +kernel
theorem dX8_token_94 : decode cX8_token 94 = .ok (.ifCond .le 43, 3) := by decide +kernel
theorem dX8_token_97 : decode cX8_token 97 = .ok (.aload_n 0, 1) := by decide +kernel
theorem dX8_token_98 : decode cX8_token 98 = .ok (.getfield 17, 3) := by decide +kernel
theorem dX8_token_101 : decode cX8_token 101 = .ok (.aload_n 0, 1) := by decide +kernel
theorem dX8_token_102 : decode cX8_token 102 = .ok (.getfield 82, 3) := by decide +kernel
theorem dX8_token_105 : decode cX8_token 105 = .ok (.iaload, 1) := by decide +kernel
theorem dX8_token_106 : decode cX8_token 106 = .ok (.invokestatic 88, 3) := by decide +kernel
theorem dX8_token_109 : decode cX8_token 109 = .ok (.aload_n 0, 1) := by decide +kernel
theorem dX8_token_110 : decode cX8_token 110 = .ok (.getfield 17, 3) := by decide +kernel
theorem dX8_token_113 : decode cX8_token 113 = .ok (.aload_n 0, 1) := by decide +kernel
theorem dX8_token_114 : decode cX8_token 114 = .ok (.getfield 85, 3) := by decide +kernel
theorem dX8_token_117 : decode cX8_token 117 = .ok (.iaload, 1) := by decide +kernel
theorem dX8_token_118 : decode cX8_token 118 = .ok (.invokestatic 88, 3) := by decide +kernel
theorem dX8_token_121 : decode cX8_token 121 = .ok (.if_icmp .ne 16, 3) := by decide +kernel
theorem dX8_token_124 : decode cX8_token 124 = .ok (.aload_n 0, 1) := by decide +kernel
theorem dX8_token_125 : decode cX8_token 125 = .ok (.dup, 1) := by decide +kernel
theorem dX8_token_126 : decode cX8_token 126 = .ok (.getfield 82, 3) := by decide +kernel
theorem dX8_token_129 : decode cX8_token 129 = .ok (.iconst 1, 1) := by decide +kernel
theorem dX8_token_130 : decode cX8_token 130 = .ok (.iadd, 1) := by decide +kernel
theorem dX8_token_131 : decode cX8_token 131 = .ok (.putfield 82, 3) := by decide +kernel
theorem dX8_token_134 : decode cX8_token 134 = .ok (.goto (-63), 3) := by decide +kernel
theorem dX8_token_137 : decode cX8_token 137 = .ok (.aload_n 0, 1) := by decide +kernel
theorem dX8_token_138 : decode cX8_token 138 = .ok (.aload_n 0, 1) := by decide +kernel
theorem dX8_token_139 : decode cX8_token 139 = .ok (.getfield 82, 3) := by decide +kernel
theorem dX8_token_142 : decode cX8_token 142 = .ok (.putfield 92, 3) := by decide +kernel
theorem dX8_token_145 : decode cX8_token 145 = .ok (.return_, 1) := by decide +kernel
theorem dX8_isWord_0 : decode cX8_isWord 0 = .ok (.aload_n 0, 1) := by decide +kernel
theorem dX8_isWord_1 : decode cX8_isWord 1 = .ok (.getfield 92, 3) := by decide +kernel
theorem dX8_isWord_4 : decode cX8_isWord 4 = .ok (.aload_n 0, 1) := by decide +kernel
theorem dX8_isWord_5 : decode cX8_isWord 5 = .ok (.getfield 85, 3) := by decide +kernel
theorem dX8_isWord_8 : decode cX8_isWord 8 = .ok (.isub, 1) := by decide +kernel
theorem dX8_isWord_9 : decode cX8_isWord 9 = .ok (.iload_n 2, 1) := by decide +kernel
theorem dX8_isWord_10 : decode cX8_isWord 10 = .ok (.if_icmp .ne 7, 3) := by decide +kernel
theorem dX8_isWord_13 : decode cX8_isWord 13 = .ok (.iconst 1, 1) := by decide +kernel
theorem dX8_isWord_14 : decode cX8_isWord 14 = .ok (.goto 4, 3) := by decide +kernel
theorem dX8_isWord_17 : decode cX8_isWord 17 = .ok (.iconst 0, 1) := by decide +kernel
theorem dX8_isWord_18 : decode cX8_isWord 18 = .ok (.istore_n 3, 1) := by decide +kernel
theorem dX8_isWord_19 : decode cX8_isWord 19 = .ok (.iconst 0, 1) := by decide +kernel
theorem dX8_isWord_20 : decode cX8_isWord 20 = .ok (.istore 4, 2) := by decide +kernel
theorem dX8_isWord_22 : decode cX8_isWord 22 = .ok (.iload_n 3, 1) := by decide +kernel
theorem dX8_isWord_23 : decode cX8_isWord 23 = .ok (.ifCond .eq 48, 3) := by decide +kernel
theorem dX8_isWord_26 : decode cX8_isWord 26 = .ok (.iload 4, 2) := by decide +kernel
theorem dX8_isWord_28 : decode cX8_isWord 28 = .ok (.iload_n 2, 1) := by decide +kernel
theorem dX8_isWord_29 : decode cX8_isWord 29 = .ok (.if_icmp .ge 42, 3) := by decide +kernel
theorem dX8_isWord_32 : decode cX8_isWord 32 = .ok (.aload_n 0, 1) := by decide +kernel
theorem dX8_isWord_33 : decode cX8_isWord 33 = .ok (.getfield 17, 3) := by decide +kernel
theorem dX8_isWord_36 : decode cX8_isWord 36 = .ok (.aload_n 0, 1) := by decide +kernel
theorem dX8_isWord_37 : decode cX8_isWord 37 = .ok (.getfield 85, 3) := by decide +kernel
theorem dX8_isWord_40 : decode cX8_isWord 40 = .ok (.iload 4, 2) := by decide +kernel
theorem dX8_isWord_42 : decode cX8_isWord 42 = .ok (.iadd, 1) := by decide +kernel
theorem dX8_isWord_43 : decode cX8_isWord 43 = .ok (.iaload, 1) := by decide +kernel
theorem dX8_isWord_44 : decode cX8_isWord 44 = .ok (.bipush 96, 2) := by decide +kernel
theorem dX8_isWord_46 : decode cX8_isWord 46 = .ok (.iload_n 1, 1) := by decide +kernel
theorem dX8_isWord_47 : decode cX8_isWord 47 = .ok (.iconst 5, 1) := by decide +kernel
theorem dX8_isWord_48 : decode cX8_isWord 48 = .ok (.iload 4, 2) := by decide +kernel
theorem dX8_isWord_50 : decode cX8_isWord 50 = .ok (.imul, 1) := by decide +kernel
theorem dX8_isWord_51 : decode cX8_isWord 51 = .ok (.ishr, 1) := by decide +kernel
theorem dX8_isWord_52 : decode cX8_isWord 52 = .ok (.bipush 31, 2) := by decide +kernel
theorem dX8_isWord_54 : decode cX8_isWord 54 = .ok (.iand, 1) := by decide +kernel
theorem dX8_isWord_55 : decode cX8_isWord 55 = .ok (.iadd, 1) := by decide +kernel
theorem dX8_isWord_56 : decode cX8_isWord 56 = .ok (.if_icmp .ne 7, 3) := by decide +kernel
theorem dX8_isWord_59 : decode cX8_isWord 59 = .ok (.iconst 1, 1) := by decide +kernel
theorem dX8_isWord_60 : decode cX8_isWord 60 = .ok (.goto 4, 3) := by decide +kernel
theorem dX8_isWord_63 : decode cX8_isWord 63 = .ok (.iconst 0, 1) := by decide +kernel
theorem dX8_isWord_64 : decode cX8_isWord 64 = .ok (.istore_n 3, 1) := by decide +kernel
theorem dX8_isWord_65 : decode cX8_isWord 65 = .ok (.iinc 4 1, 3) := by decide +kernel
theorem dX8_isWord_68 : decode cX8_isWord 68 = .ok (.goto (-46), 3) := by decide +kernel
theorem dX8_isWord_71 : decode cX8_isWord 71 = .ok (.iload_n 3, 1) := by decide +kernel
theorem dX8_isWord_72 : decode cX8_isWord 72 = .ok (.ireturn, 1) := by decide +kernel
theorem dX8_deskWord_0 : decode cX8_deskWord 0 = .ok (.aload_n 0, 1) := by decide +kernel
theorem dX8_deskWord_1 : decode cX8_deskWord 1 = .ok (.ldc 95, 2) := by decide +kernel
theorem dX8_deskWord_3 : decode cX8_deskWord 3 = .ok (.iconst 5, 1) := by decide +kernel
theorem dX8_deskWord_4 : decode cX8_deskWord 4 = .ok (.invokevirtual 96, 3) := by decide +kernel
theorem dX8_deskWord_7 : decode cX8_deskWord 7 = .ok (.ifCond .eq 7, 3) := by decide +kernel
theorem dX8_deskWord_10 : decode cX8_deskWord 10 = .ok (.iconst 1, 1) := by decide +kernel
theorem dX8_deskWord_11 : decode cX8_deskWord 11 = .ok (.goto 48, 3) := by decide +kernel
theorem dX8_deskWord_14 : decode cX8_deskWord 14 = .ok (.aload_n 0, 1) := by decide +kernel
theorem dX8_deskWord_15 : decode cX8_deskWord 15 = .ok (.ldc 100, 2) := by decide +kernel
theorem dX8_deskWord_17 : decode cX8_deskWord 17 = .ok (.iconst 5, 1) := by decide +kernel
theorem dX8_deskWord_18 : decode cX8_deskWord 18 = .ok (.invokevirtual 96, 3) := by decide +kernel
theorem dX8_deskWord_21 : decode cX8_deskWord 21 = .ok (.ifCond .eq 7, 3) := by decide +kernel
theorem dX8_deskWord_24 : decode cX8_deskWord 24 = .ok (.iconst 2, 1) := by decide +kernel
theorem dX8_deskWord_25 : decode cX8_deskWord 25 = .ok (.goto 34, 3) := by decide +kernel
theorem dX8_deskWord_28 : decode cX8_deskWord 28 = .ok (.aload_n 0, 1) := by decide +kernel
theorem dX8_deskWord_29 : decode cX8_deskWord 29 = .ok (.ldc 101, 2) := by decide +kernel
theorem dX8_deskWord_31 : decode cX8_deskWord 31 = .ok (.bipush 6, 2) := by decide +kernel
theorem dX8_deskWord_33 : decode cX8_deskWord 33 = .ok (.invokevirtual 96, 3) := by decide +kernel
theorem dX8_deskWord_36 : decode cX8_deskWord 36 = .ok (.ifCond .eq 7, 3) := by decide +kernel
theorem dX8_deskWord_39 : decode cX8_deskWord 39 = .ok (.iconst 3, 1) := by decide +kernel
theorem dX8_deskWord_40 : decode cX8_deskWord 40 = .ok (.goto 19, 3) := by decide +kernel
theorem dX8_deskWord_43 : decode cX8_deskWord 43 = .ok (.aload_n 0, 1) := by decide +kernel
theorem dX8_deskWord_44 : decode cX8_deskWord 44 = .ok (.ldc 102, 2) := by decide +kernel
theorem dX8_deskWord_46 : decode cX8_deskWord 46 = .ok (.bipush 6, 2) := by decide +kernel
theorem dX8_deskWord_48 : decode cX8_deskWord 48 = .ok (.invokevirtual 96, 3) := by decide +kernel
theorem dX8_deskWord_51 : decode cX8_deskWord 51 = .ok (.ifCond .eq 7, 3) := by decide +kernel
theorem dX8_deskWord_54 : decode cX8_deskWord 54 = .ok (.iconst 4, 1) := by decide +kernel
theorem dX8_deskWord_55 : decode cX8_deskWord 55 = .ok (.goto 4, 3) := by decide +kernel
theorem dX8_deskWord_58 : decode cX8_deskWord 58 = .ok (.iconst (-1), 1) := by decide +kernel
theorem dX8_deskWord_59 : decode cX8_deskWord 59 = .ok (.ireturn, 1) := by decide +kernel
theorem dX8_wordOf_0 : decode cX8_wordOf 0 = .ok (.aload_n 0, 1) := by decide +kernel
theorem dX8_wordOf_1 : decode cX8_wordOf 1 = .ok (.invokevirtual 103, 3) := by decide +kernel
theorem dX8_wordOf_4 : decode cX8_wordOf 4 = .ok (.istore_n 1, 1) := by decide +kernel
theorem dX8_wordOf_5 : decode cX8_wordOf 5 = .ok (.iload_n 1, 1) := by decide +kernel
theorem dX8_wordOf_6 : decode cX8_wordOf 6 = .ok (.iconst (-1), 1) := by decide +kernel
theorem dX8_wordOf_7 : decode cX8_wordOf 7 = .ok (.if_icmp .eq 7, 3) := by decide +kernel
theorem dX8_wordOf_10 : decode cX8_wordOf 10 = .ok (.iload_n 1, 1) := by decide +kernel
theorem dX8_wordOf_11 : decode cX8_wordOf 11 = .ok (.goto 79, 3) := by decide +kernel
theorem dX8_wordOf_14 : decode cX8_wordOf 14 = .ok (.aload_n 0, 1) := by decide +kernel
theorem dX8_wordOf_15 : decode cX8_wordOf 15 = .ok (.ldc 107, 2) := by decide +kernel
theorem dX8_wordOf_17 : decode cX8_wordOf 17 = .ok (.bipush 6, 2) := by decide +kernel
theorem dX8_wordOf_19 : decode cX8_wordOf 19 = .ok (.invokevirtual 96, 3) := by decide +kernel
theorem dX8_wordOf_22 : decode cX8_wordOf 22 = .ok (.ifCond .eq 7, 3) := by decide +kernel
theorem dX8_wordOf_25 : decode cX8_wordOf 25 = .ok (.iconst 0, 1) := by decide +kernel
theorem dX8_wordOf_26 : decode cX8_wordOf 26 = .ok (.goto 64, 3) := by decide +kernel
theorem dX8_wordOf_29 : decode cX8_wordOf 29 = .ok (.aload_n 0, 1) := by decide +kernel
theorem dX8_wordOf_30 : decode cX8_wordOf 30 = .ok (.ldc 108, 2) := by decide +kernel
theorem dX8_wordOf_32 : decode cX8_wordOf 32 = .ok (.iconst 5, 1) := by decide +kernel
theorem dX8_wordOf_33 : decode cX8_wordOf 33 = .ok (.invokevirtual 96, 3) := by decide +kernel
theorem dX8_wordOf_36 : decode cX8_wordOf 36 = .ok (.ifCond .eq 7, 3) := by decide +kernel
theorem dX8_wordOf_39 : decode cX8_wordOf 39 = .ok (.iconst 5, 1) := by decide +kernel
theorem dX8_wordOf_40 : decode cX8_wordOf 40 = .ok (.goto 50, 3) := by decide +kernel
theorem dX8_wordOf_43 : decode cX8_wordOf 43 = .ok (.aload_n 0, 1) := by decide +kernel
theorem dX8_wordOf_44 : decode cX8_wordOf 44 = .ok (.ldc 109, 2) := by decide +kernel
theorem dX8_wordOf_46 : decode cX8_wordOf 46 = .ok (.iconst 4, 1) := by decide +kernel
theorem dX8_wordOf_47 : decode cX8_wordOf 47 = .ok (.invokevirtual 96, 3) := by decide +kernel
theorem dX8_wordOf_50 : decode cX8_wordOf 50 = .ok (.ifCond .eq 8, 3) := by decide +kernel
theorem dX8_wordOf_53 : decode cX8_wordOf 53 = .ok (.bipush 6, 2) := by decide +kernel
theorem dX8_wordOf_55 : decode cX8_wordOf 55 = .ok (.goto 35, 3) := by decide +kernel
theorem dX8_wordOf_58 : decode cX8_wordOf 58 = .ok (.aload_n 0, 1) := by decide +kernel
theorem dX8_wordOf_59 : decode cX8_wordOf 59 = .ok (.ldc 110, 2) := by decide +kernel
theorem dX8_wordOf_61 : decode cX8_wordOf 61 = .ok (.iconst 4, 1) := by decide +kernel
theorem dX8_wordOf_62 : decode cX8_wordOf 62 = .ok (.invokevirtual 96, 3) := by decide +kernel
theorem dX8_wordOf_65 : decode cX8_wordOf 65 = .ok (.ifCond .eq 8, 3) := by decide +kernel
theorem dX8_wordOf_68 : decode cX8_wordOf 68 = .ok (.bipush 7, 2) := by decide +kernel
theorem dX8_wordOf_70 : decode cX8_wordOf 70 = .ok (.goto 20, 3) := by decide +kernel
theorem dX8_wordOf_73 : decode cX8_wordOf 73 = .ok (.aload_n 0, 1) := by decide +kernel
theorem dX8_wordOf_74 : decode cX8_wordOf 74 = .ok (.ldc 111, 2) := by decide +kernel
theorem dX8_wordOf_76 : decode cX8_wordOf 76 = .ok (.bipush 6, 2) := by decide +kernel
theorem dX8_wordOf_78 : decode cX8_wordOf 78 = .ok (.invokevirtual 96, 3) := by decide +kernel
theorem dX8_wordOf_81 : decode cX8_wordOf 81 = .ok (.ifCond .eq 8, 3) := by decide +kernel
theorem dX8_wordOf_84 : decode cX8_wordOf 84 = .ok (.bipush 8, 2) := by decide +kernel
theorem dX8_wordOf_86 : decode cX8_wordOf 86 = .ok (.goto 4, 3) := by decide +kernel
theorem dX8_wordOf_89 : decode cX8_wordOf 89 = .ok (.iconst (-1), 1) := by decide +kernel
theorem dX8_wordOf_90 : decode cX8_wordOf 90 = .ok (.ireturn, 1) := by decide +kernel
theorem dX8_reads_0 : decode cX8_reads 0 = .ok (.aload_n 0, 1) := by decide +kernel
theorem dX8_reads_1 : decode cX8_reads 1 = .ok (.getfield 85, 3) := by decide +kernel
theorem dX8_reads_4 : decode cX8_reads 4 = .ok (.aload_n 0, 1) := by decide +kernel
theorem dX8_reads_5 : decode cX8_reads 5 = .ok (.getfield 77, 3) := by decide +kernel
theorem dX8_reads_8 : decode cX8_reads 8 = .ok (.if_icmp .eq 32, 3) := by decide +kernel
theorem dX8_reads_11 : decode cX8_reads 11 = .ok (.aload_n 0, 1) := by decide +kernel
theorem dX8_reads_12 : decode cX8_reads 12 = .ok (.getfield 17, 3) := by decide +kernel
theorem dX8_reads_15 : decode cX8_reads 15 = .ok (.aload_n 0, 1) := by decide +kernel
theorem dX8_reads_16 : decode cX8_reads 16 = .ok (.getfield 85, 3) := by decide +kernel
theorem dX8_reads_19 : decode cX8_reads 19 = .ok (.iaload, 1) := by decide +kernel
theorem dX8_reads_20 : decode cX8_reads 20 = .ok (.invokestatic 88, 3) := by decide +kernel
theorem dX8_reads_23 : decode cX8_reads 23 = .ok (.iconst 2, 1) := by decide +kernel
theorem dX8_reads_24 : decode cX8_reads 24 = .ok (.if_icmp .ne 16, 3) := by decide +kernel
theorem dX8_reads_27 : decode cX8_reads 27 = .ok (.aload_n 0, 1) := by decide +kernel
theorem dX8_reads_28 : decode cX8_reads 28 = .ok (.getfield 92, 3) := by decide +kernel
theorem dX8_reads_31 : decode cX8_reads 31 = .ok (.aload_n 0, 1) := by decide +kernel
theorem dX8_reads_32 : decode cX8_reads 32 = .ok (.getfield 85, 3) := by decide +kernel
theorem dX8_reads_35 : decode cX8_reads 35 = .ok (.isub, 1) := by decide +kernel
theorem dX8_reads_36 : decode cX8_reads 36 = .ok (.iconst 2, 1) := by decide +kernel
theorem dX8_reads_37 : decode cX8_reads 37 = .ok (.if_icmp .le 5, 3) := by decide +kernel
theorem dX8_reads_40 : decode cX8_reads 40 = .ok (.iconst 0, 1) := by decide +kernel
theorem dX8_reads_41 : decode cX8_reads 41 = .ok (.ireturn, 1) := by decide +kernel
theorem dX8_reads_42 : decode cX8_reads 42 = .ok (.iconst 0, 1) := by decide +kernel
theorem dX8_reads_43 : decode cX8_reads 43 = .ok (.istore 5, 2) := by decide +kernel
theorem dX8_reads_45 : decode cX8_reads 45 = .ok (.aload_n 0, 1) := by decide +kernel
theorem dX8_reads_46 : decode cX8_reads 46 = .ok (.getfield 85, 3) := by decide +kernel
theorem dX8_reads_49 : decode cX8_reads 49 = .ok (.istore 6, 2) := by decide +kernel
theorem dX8_reads_51 : decode cX8_reads 51 = .ok (.iload 6, 2) := by decide +kernel
theorem dX8_reads_53 : decode cX8_reads 53 = .ok (.aload_n 0, 1) := by decide +kernel
theorem dX8_reads_54 : decode cX8_reads 54 = .ok (.getfield 92, 3) := by decide +kernel
theorem dX8_reads_57 : decode cX8_reads 57 = .ok (.if_icmp .ge 27, 3) := by decide +kernel
theorem dX8_reads_60 : decode cX8_reads 60 = .ok (.bipush 10, 2) := by decide +kernel
theorem dX8_reads_62 : decode cX8_reads 62 = .ok (.iload 5, 2) := by decide +kernel
theorem dX8_reads_64 : decode cX8_reads 64 = .ok (.imul, 1) := by decide +kernel
theorem dX8_reads_65 : decode cX8_reads 65 = .ok (.aload_n 0, 1) := by decide +kernel
theorem dX8_reads_66 : decode cX8_reads 66 = .ok (.getfield 17, 3) := by decide +kernel
theorem dX8_reads_69 : decode cX8_reads 69 = .ok (.iload 6, 2) := by decide +kernel
theorem dX8_reads_71 : decode cX8_reads 71 = .ok (.iaload, 1) := by decide +kernel
theorem dX8_reads_72 : decode cX8_reads 72 = .ok (.iadd, 1) := by decide +kernel
theorem dX8_reads_73 : decode cX8_reads 73 = .ok (.bipush 48, 2) := by decide +kernel
theorem dX8_reads_75 : decode cX8_reads 75 = .ok (.isub, 1) := by decide +kernel
theorem dX8_reads_76 : decode cX8_reads 76 = .ok (.istore 5, 2) := by decide +kernel
theorem dX8_reads_78 : decode cX8_reads 78 = .ok (.iinc 6 1, 3) := by decide +kernel
theorem dX8_reads_81 : decode cX8_reads 81 = .ok (.goto (-30), 3) := by decide +kernel
theorem dX8_reads_84 : decode cX8_reads 84 = .ok (.iload 5, 2) := by decide +kernel
theorem dX8_reads_86 : decode cX8_reads 86 = .ok (.i2l, 1) := by decide +kernel
theorem dX8_reads_87 : decode cX8_reads 87 = .ok (.iload_n 2, 1) := by decide +kernel
theorem dX8_reads_88 : decode cX8_reads 88 = .ok (.i2l, 1) := by decide +kernel
theorem dX8_reads_89 : decode cX8_reads 89 = .ok (.iload_n 3, 1) := by decide +kernel
theorem dX8_reads_90 : decode cX8_reads 90 = .ok (.i2l, 1) := by decide +kernel
theorem dX8_reads_91 : decode cX8_reads 91 = .ok (.invokestatic 73, 3) := by decide +kernel
theorem dX8_reads_94 : decode cX8_reads 94 = .ok (.ifCond .eq 10, 3) := by decide +kernel
theorem dX8_reads_97 : decode cX8_reads 97 = .ok (.iload 5, 2) := by decide +kernel
theorem dX8_reads_99 : decode cX8_reads 99 = .ok (.iload 4, 2) := by decide +kernel
theorem dX8_reads_101 : decode cX8_reads 101 = .ok (.if_icmp .ne 5, 3) := by decide +kernel
theorem dX8_reads_104 : decode cX8_reads 104 = .ok (.iconst 0, 1) := by decide +kernel
theorem dX8_reads_105 : decode cX8_reads 105 = .ok (.ireturn, 1) := by decide +kernel
theorem dX8_reads_106 : decode cX8_reads 106 = .ok (.aload_n 0, 1) := by decide +kernel
theorem dX8_reads_107 : decode cX8_reads 107 = .ok (.getfield 20, 3) := by decide +kernel
theorem dX8_reads_110 : decode cX8_reads 110 = .ok (.iconst 4, 1) := by decide +kernel
theorem dX8_reads_111 : decode cX8_reads 111 = .ok (.aload_n 0, 1) := by decide +kernel
theorem dX8_reads_112 : decode cX8_reads 112 = .ok (.getfield 112, 3) := by decide +kernel
theorem dX8_reads_115 : decode cX8_reads 115 = .ok (.imul, 1) := by decide +kernel
theorem dX8_reads_116 : decode cX8_reads 116 = .ok (.iconst 1, 1) := by decide +kernel
theorem dX8_reads_117 : decode cX8_reads 117 = .ok (.iadd, 1) := by decide +kernel
theorem dX8_reads_118 : decode cX8_reads 118 = .ok (.iload_n 1, 1) := by decide +kernel
theorem dX8_reads_119 : decode cX8_reads 119 = .ok (.iadd, 1) := by decide +kernel
theorem dX8_reads_120 : decode cX8_reads 120 = .ok (.iload 5, 2) := by decide +kernel
theorem dX8_reads_122 : decode cX8_reads 122 = .ok (.iastore, 1) := by decide +kernel
theorem dX8_reads_123 : decode cX8_reads 123 = .ok (.aload_n 0, 1) := by decide +kernel
theorem dX8_reads_124 : decode cX8_reads 124 = .ok (.invokevirtual 115, 3) := by decide +kernel
theorem dX8_reads_127 : decode cX8_reads 127 = .ok (.iconst 1, 1) := by decide +kernel
theorem dX8_reads_128 : decode cX8_reads 128 = .ok (.ireturn, 1) := by decide +kernel
theorem dX8_readsRest_0 : decode cX8_readsRest 0 = .ok (.aload_n 0, 1) := by decide +kernel
theorem dX8_readsRest_1 : decode cX8_readsRest 1 = .ok (.getfield 118, 3) := by decide +kernel
theorem dX8_readsRest_4 : decode cX8_readsRest 4 = .ok (.iconst 1, 1) := by decide +kernel
theorem dX8_readsRest_5 : decode cX8_readsRest 5 = .ok (.isub, 1) := by decide +kernel
theorem dX8_readsRest_6 : decode cX8_readsRest 6 = .ok (.istore_n 2, 1) := by decide +kernel
theorem dX8_readsRest_7 : decode cX8_readsRest 7 = .ok (.iload_n 1, 1) := by decide +kernel
theorem dX8_readsRest_8 : decode cX8_readsRest 8 = .ok (.tableswitch 144 0 8 #[52, 144, 144, 144, 144, 62, 62, 124, 134], 52) := by decide +kernel
theorem dX8_readsRest_60 : decode cX8_readsRest 60 = .ok (.aload_n 0, 1) := by decide +kernel
theorem dX8_readsRest_61 : decode cX8_readsRest 61 = .ok (.iconst 0, 1) := by decide +kernel
theorem dX8_readsRest_62 : decode cX8_readsRest 62 = .ok (.iconst 2, 1) := by decide +kernel
theorem dX8_readsRest_63 : decode cX8_readsRest 63 = .ok (.bipush 8, 2) := by decide +kernel
theorem dX8_readsRest_65 : decode cX8_readsRest 65 = .ok (.iconst (-1), 1) := by decide +kernel
theorem dX8_readsRest_66 : decode cX8_readsRest 66 = .ok (.invokevirtual 121, 3) := by decide +kernel
theorem dX8_readsRest_69 : decode cX8_readsRest 69 = .ok (.ireturn, 1) := by decide +kernel
theorem dX8_readsRest_70 : decode cX8_readsRest 70 = .ok (.aload_n 0, 1) := by decide +kernel
theorem dX8_readsRest_71 : decode cX8_readsRest 71 = .ok (.iconst 0, 1) := by decide +kernel
theorem dX8_readsRest_72 : decode cX8_readsRest 72 = .ok (.iconst 0, 1) := by decide +kernel
theorem dX8_readsRest_73 : decode cX8_readsRest 73 = .ok (.iload_n 2, 1) := by decide +kernel
theorem dX8_readsRest_74 : decode cX8_readsRest 74 = .ok (.iconst (-1), 1) := by decide +kernel
theorem dX8_readsRest_75 : decode cX8_readsRest 75 = .ok (.invokevirtual 121, 3) := by decide +kernel
theorem dX8_readsRest_78 : decode cX8_readsRest 78 = .ok (.ifCond .eq 52, 3) := by decide +kernel
theorem dX8_readsRest_81 : decode cX8_readsRest 81 = .ok (.aload_n 0, 1) := by decide +kernel
theorem dX8_readsRest_82 : decode cX8_readsRest 82 = .ok (.iconst 1, 1) := by decide +kernel
theorem dX8_readsRest_83 : decode cX8_readsRest 83 = .ok (.iconst 0, 1) := by decide +kernel
theorem dX8_readsRest_84 : decode cX8_readsRest 84 = .ok (.iload_n 2, 1) := by decide +kernel
theorem dX8_readsRest_85 : decode cX8_readsRest 85 = .ok (.aload_n 0, 1) := by decide +kernel
theorem dX8_readsRest_86 : decode cX8_readsRest 86 = .ok (.getfield 20, 3) := by decide +kernel
theorem dX8_readsRest_89 : decode cX8_readsRest 89 = .ok (.iconst 4, 1) := by decide +kernel
theorem dX8_readsRest_90 : decode cX8_readsRest 90 = .ok (.aload_n 0, 1) := by decide +kernel
theorem dX8_readsRest_91 : decode cX8_readsRest 91 = .ok (.getfield 112, 3) := by decide +kernel
theorem dX8_readsRest_94 : decode cX8_readsRest 94 = .ok (.imul, 1) := by decide +kernel
theorem dX8_readsRest_95 : decode cX8_readsRest 95 = .ok (.iconst 1, 1) := by decide +kernel
theorem dX8_readsRest_96 : decode cX8_readsRest 96 = .ok (.iadd, 1) := by decide +kernel
theorem dX8_readsRest_97 : decode cX8_readsRest 97 = .ok (.iaload, 1) := by decide +kernel
theorem dX8_readsRest_98 : decode cX8_readsRest 98 = .ok (.invokevirtual 121, 3) := by decide +kernel
theorem dX8_readsRest_101 : decode cX8_readsRest 101 = .ok (.ifCond .eq 29, 3) := by decide +kernel
theorem dX8_readsRest_104 : decode cX8_readsRest 104 = .ok (.aload_n 0, 1) := by decide +kernel
theorem dX8_readsRest_105 : decode cX8_readsRest 105 = .ok (.iconst 2, 1) := by decide +kernel
theorem dX8_readsRest_106 : decode cX8_readsRest 106 = .ok (.iconst 0, 1) := by decide +kernel
theorem dX8_readsRest_107 : decode cX8_readsRest 107 = .ok (.iload_n 1, 1) := by decide +kernel
theorem dX8_readsRest_108 : decode cX8_readsRest 108 = .ok (.iconst 5, 1) := by decide +kernel
theorem dX8_readsRest_109 : decode cX8_readsRest 109 = .ok (.if_icmp .ne 8, 3) := by decide +kernel
theorem dX8_readsRest_112 : decode cX8_readsRest 112 = .ok (.bipush 99, 2) := by decide +kernel
theorem dX8_readsRest_114 : decode cX8_readsRest 114 = .ok (.goto 5, 3) := by decide +kernel
theorem dX8_readsRest_117 : decode cX8_readsRest 117 = .ok (.bipush 9, 2) := by decide +kernel
theorem dX8_readsRest_119 : decode cX8_readsRest 119 = .ok (.iconst (-1), 1) := by decide +kernel
theorem dX8_readsRest_120 : decode cX8_readsRest 120 = .ok (.invokevirtual 121, 3) := by decide +kernel
theorem dX8_readsRest_123 : decode cX8_readsRest 123 = .ok (.ifCond .eq 7, 3) := by decide +kernel
theorem dX8_readsRest_126 : decode cX8_readsRest 126 = .ok (.iconst 1, 1) := by decide +kernel
theorem dX8_readsRest_127 : decode cX8_readsRest 127 = .ok (.goto 4, 3) := by decide +kernel
theorem dX8_readsRest_130 : decode cX8_readsRest 130 = .ok (.iconst 0, 1) := by decide +kernel
theorem dX8_readsRest_131 : decode cX8_readsRest 131 = .ok (.ireturn, 1) := by decide +kernel
theorem dX8_readsRest_132 : decode cX8_readsRest 132 = .ok (.aload_n 0, 1) := by decide +kernel
theorem dX8_readsRest_133 : decode cX8_readsRest 133 = .ok (.iconst 0, 1) := by decide +kernel
theorem dX8_readsRest_134 : decode cX8_readsRest 134 = .ok (.iconst 0, 1) := by decide +kernel
theorem dX8_readsRest_135 : decode cX8_readsRest 135 = .ok (.bipush 9, 2) := by decide +kernel
theorem dX8_readsRest_137 : decode cX8_readsRest 137 = .ok (.iconst (-1), 1) := by decide +kernel
theorem dX8_readsRest_138 : decode cX8_readsRest 138 = .ok (.invokevirtual 121, 3) := by decide +kernel
theorem dX8_readsRest_141 : decode cX8_readsRest 141 = .ok (.ireturn, 1) := by decide +kernel
theorem dX8_readsRest_142 : decode cX8_readsRest 142 = .ok (.aload_n 0, 1) := by decide +kernel
theorem dX8_readsRest_143 : decode cX8_readsRest 143 = .ok (.iconst 0, 1) := by decide +kernel
theorem dX8_readsRest_144 : decode cX8_readsRest 144 = .ok (.iconst 0, 1) := by decide +kernel
theorem dX8_readsRest_145 : decode cX8_readsRest 145 = .ok (.bipush 99, 2) := by decide +kernel
theorem dX8_readsRest_147 : decode cX8_readsRest 147 = .ok (.iconst (-1), 1) := by decide +kernel
theorem dX8_readsRest_148 : decode cX8_readsRest 148 = .ok (.invokevirtual 121, 3) := by decide +kernel
theorem dX8_readsRest_151 : decode cX8_readsRest 151 = .ok (.ireturn, 1) := by decide +kernel
theorem dX8_readsRest_152 : decode cX8_readsRest 152 = .ok (.aload_n 0, 1) := by decide +kernel
theorem dX8_readsRest_153 : decode cX8_readsRest 153 = .ok (.iconst 0, 1) := by decide +kernel
theorem dX8_readsRest_154 : decode cX8_readsRest 154 = .ok (.iconst 0, 1) := by decide +kernel
theorem dX8_readsRest_155 : decode cX8_readsRest 155 = .ok (.iload_n 2, 1) := by decide +kernel
theorem dX8_readsRest_156 : decode cX8_readsRest 156 = .ok (.iconst (-1), 1) := by decide +kernel
theorem dX8_readsRest_157 : decode cX8_readsRest 157 = .ok (.invokevirtual 121, 3) := by decide +kernel
theorem dX8_readsRest_160 : decode cX8_readsRest 160 = .ok (.ireturn, 1) := by decide +kernel
theorem dX8_readsLine_0 : decode cX8_readsLine 0 = .ok (.aload_n 0, 1) := by decide +kernel
theorem dX8_readsLine_1 : decode cX8_readsLine 1 = .ok (.invokevirtual 125, 3) := by decide +kernel
theorem dX8_readsLine_4 : decode cX8_readsLine 4 = .ok (.istore_n 1, 1) := by decide +kernel
theorem dX8_readsLine_5 : decode cX8_readsLine 5 = .ok (.iload_n 1, 1) := by decide +kernel
theorem dX8_readsLine_6 : decode cX8_readsLine 6 = .ok (.iconst (-1), 1) := by decide +kernel
theorem dX8_readsLine_7 : decode cX8_readsLine 7 = .ok (.if_icmp .eq 32, 3) := by decide +kernel
theorem dX8_readsLine_10 : decode cX8_readsLine 10 = .ok (.iload_n 1, 1) := by decide +kernel
theorem dX8_readsLine_11 : decode cX8_readsLine 11 = .ok (.iconst 5, 1) := by decide +kernel
theorem dX8_readsLine_12 : decode cX8_readsLine 12 = .ok (.if_icmp .ne 12, 3) := by decide +kernel
theorem dX8_readsLine_15 : decode cX8_readsLine 15 = .ok (.aload_n 0, 1) := by decide +kernel
theorem dX8_readsLine_16 : decode cX8_readsLine 16 = .ok (.getfield 128, 3) := by decide +kernel
theorem dX8_readsLine_19 : decode cX8_readsLine 19 = .ok (.bipush 12, 2) := by decide +kernel
theorem dX8_readsLine_21 : decode cX8_readsLine 21 = .ok (.if_icmp .eq 18, 3) := by decide +kernel
theorem dX8_readsLine_24 : decode cX8_readsLine 24 = .ok (.iload_n 1, 1) := by decide +kernel
theorem dX8_readsLine_25 : decode cX8_readsLine 25 = .ok (.bipush 6, 2) := by decide +kernel
theorem dX8_readsLine_27 : decode cX8_readsLine 27 = .ok (.if_icmp .ne 14, 3) := by decide +kernel
theorem dX8_readsLine_30 : decode cX8_readsLine 30 = .ok (.aload_n 0, 1) := by decide +kernel
theorem dX8_readsLine_31 : decode cX8_readsLine 31 = .ok (.getfield 131, 3) := by decide +kernel
theorem dX8_readsLine_34 : decode cX8_readsLine 34 = .ok (.bipush 6, 2) := by decide +kernel
theorem dX8_readsLine_36 : decode cX8_readsLine 36 = .ok (.if_icmp .ne 5, 3) := by decide +kernel
theorem dX8_readsLine_39 : decode cX8_readsLine 39 = .ok (.iconst 0, 1) := by decide +kernel
theorem dX8_readsLine_40 : decode cX8_readsLine 40 = .ok (.ireturn, 1) := by decide +kernel
theorem dX8_readsLine_41 : decode cX8_readsLine 41 = .ok (.aload_n 0, 1) := by decide +kernel
theorem dX8_readsLine_42 : decode cX8_readsLine 42 = .ok (.invokevirtual 115, 3) := by decide +kernel
theorem dX8_readsLine_45 : decode cX8_readsLine 45 = .ok (.aload_n 0, 1) := by decide +kernel
theorem dX8_readsLine_46 : decode cX8_readsLine 46 = .ok (.getfield 20, 3) := by decide +kernel
theorem dX8_readsLine_49 : decode cX8_readsLine 49 = .ok (.iconst 4, 1) := by decide +kernel
theorem dX8_readsLine_50 : decode cX8_readsLine 50 = .ok (.aload_n 0, 1) := by decide +kernel
theorem dX8_readsLine_51 : decode cX8_readsLine 51 = .ok (.getfield 112, 3) := by decide +kernel
theorem dX8_readsLine_54 : decode cX8_readsLine 54 = .ok (.imul, 1) := by decide +kernel
theorem dX8_readsLine_55 : decode cX8_readsLine 55 = .ok (.iload_n 1, 1) := by decide +kernel
theorem dX8_readsLine_56 : decode cX8_readsLine 56 = .ok (.iastore, 1) := by decide +kernel
theorem dX8_readsLine_57 : decode cX8_readsLine 57 = .ok (.aload_n 0, 1) := by decide +kernel
theorem dX8_readsLine_58 : decode cX8_readsLine 58 = .ok (.iload_n 1, 1) := by decide +kernel
theorem dX8_readsLine_59 : decode cX8_readsLine 59 = .ok (.invokevirtual 134, 3) := by decide +kernel
theorem dX8_readsLine_62 : decode cX8_readsLine 62 = .ok (.ifCond .ne 5, 3) := by decide +kernel
theorem dX8_readsLine_65 : decode cX8_readsLine 65 = .ok (.iconst 0, 1) := by decide +kernel
theorem dX8_readsLine_66 : decode cX8_readsLine 66 = .ok (.ireturn, 1) := by decide +kernel
theorem dX8_readsLine_67 : decode cX8_readsLine 67 = .ok (.aload_n 0, 1) := by decide +kernel
theorem dX8_readsLine_68 : decode cX8_readsLine 68 = .ok (.iload_n 1, 1) := by decide +kernel
theorem dX8_readsLine_69 : decode cX8_readsLine 69 = .ok (.ifCond .ne 19, 3) := by decide +kernel
theorem dX8_readsLine_72 : decode cX8_readsLine 72 = .ok (.aload_n 0, 1) := by decide +kernel
theorem dX8_readsLine_73 : decode cX8_readsLine 73 = .ok (.getfield 20, 3) := by decide +kernel
theorem dX8_readsLine_76 : decode cX8_readsLine 76 = .ok (.iconst 4, 1) := by decide +kernel
theorem dX8_readsLine_77 : decode cX8_readsLine 77 = .ok (.aload_n 0, 1) := by decide +kernel
theorem dX8_readsLine_78 : decode cX8_readsLine 78 = .ok (.getfield 112, 3) := by decide +kernel
theorem dX8_readsLine_81 : decode cX8_readsLine 81 = .ok (.imul, 1) := by decide +kernel
theorem dX8_readsLine_82 : decode cX8_readsLine 82 = .ok (.iconst 1, 1) := by decide +kernel
theorem dX8_readsLine_83 : decode cX8_readsLine 83 = .ok (.iadd, 1) := by decide +kernel
theorem dX8_readsLine_84 : decode cX8_readsLine 84 = .ok (.iaload, 1) := by decide +kernel
theorem dX8_readsLine_85 : decode cX8_readsLine 85 = .ok (.goto 7, 3) := by decide +kernel
theorem dX8_readsLine_88 : decode cX8_readsLine 88 = .ok (.aload_n 0, 1) := by decide +kernel
theorem dX8_readsLine_89 : decode cX8_readsLine 89 = .ok (.getfield 118, 3) := by decide +kernel
theorem dX8_readsLine_92 : decode cX8_readsLine 92 = .ok (.putfield 118, 3) := by decide +kernel
theorem dX8_readsLine_95 : decode cX8_readsLine 95 = .ok (.aload_n 0, 1) := by decide +kernel
theorem dX8_readsLine_96 : decode cX8_readsLine 96 = .ok (.iload_n 1, 1) := by decide +kernel
theorem dX8_readsLine_97 : decode cX8_readsLine 97 = .ok (.ifCond .ne 7, 3) := by decide +kernel
theorem dX8_readsLine_100 : decode cX8_readsLine 100 = .ok (.iconst 0, 1) := by decide +kernel
theorem dX8_readsLine_101 : decode cX8_readsLine 101 = .ok (.goto 21, 3) := by decide +kernel
theorem dX8_readsLine_104 : decode cX8_readsLine 104 = .ok (.iload_n 1, 1) := by decide +kernel
theorem dX8_readsLine_105 : decode cX8_readsLine 105 = .ok (.iconst 5, 1) := by decide +kernel
theorem dX8_readsLine_106 : decode cX8_readsLine 106 = .ok (.if_icmp .ne 12, 3) := by decide +kernel
theorem dX8_readsLine_109 : decode cX8_readsLine 109 = .ok (.aload_n 0, 1) := by decide +kernel
theorem dX8_readsLine_110 : decode cX8_readsLine 110 = .ok (.getfield 128, 3) := by decide +kernel
theorem dX8_readsLine_113 : decode cX8_readsLine 113 = .ok (.iconst 1, 1) := by decide +kernel
theorem dX8_readsLine_114 : decode cX8_readsLine 114 = .ok (.iadd, 1) := by decide +kernel
theorem dX8_readsLine_115 : decode cX8_readsLine 115 = .ok (.goto 7, 3) := by decide +kernel
theorem dX8_readsLine_118 : decode cX8_readsLine 118 = .ok (.aload_n 0, 1) := by decide +kernel
theorem dX8_readsLine_119 : decode cX8_readsLine 119 = .ok (.getfield 128, 3) := by decide +kernel
theorem dX8_readsLine_122 : decode cX8_readsLine 122 = .ok (.putfield 128, 3) := by decide +kernel
theorem dX8_readsLine_125 : decode cX8_readsLine 125 = .ok (.aload_n 0, 1) := by decide +kernel
theorem dX8_readsLine_126 : decode cX8_readsLine 126 = .ok (.iload_n 1, 1) := by decide +kernel
theorem dX8_readsLine_127 : decode cX8_readsLine 127 = .ok (.ifCond .ne 7, 3) := by decide +kernel
theorem dX8_readsLine_130 : decode cX8_readsLine 130 = .ok (.iconst 0, 1) := by decide +kernel
theorem dX8_readsLine_131 : decode cX8_readsLine 131 = .ok (.goto 22, 3) := by decide +kernel
theorem dX8_readsLine_134 : decode cX8_readsLine 134 = .ok (.iload_n 1, 1) := by decide +kernel
theorem dX8_readsLine_135 : decode cX8_readsLine 135 = .ok (.bipush 6, 2) := by decide +kernel
theorem dX8_readsLine_137 : decode cX8_readsLine 137 = .ok (.if_icmp .ne 12, 3) := by decide +kernel
theorem dX8_readsLine_140 : decode cX8_readsLine 140 = .ok (.aload_n 0, 1) := by decide +kernel
theorem dX8_readsLine_141 : decode cX8_readsLine 141 = .ok (.getfield 131, 3) := by decide +kernel
theorem dX8_readsLine_144 : decode cX8_readsLine 144 = .ok (.iconst 1, 1) := by decide +kernel
theorem dX8_readsLine_145 : decode cX8_readsLine 145 = .ok (.iadd, 1) := by decide +kernel
theorem dX8_readsLine_146 : decode cX8_readsLine 146 = .ok (.goto 7, 3) := by decide +kernel
theorem dX8_readsLine_149 : decode cX8_readsLine 149 = .ok (.aload_n 0, 1) := by decide +kernel
theorem dX8_readsLine_150 : decode cX8_readsLine 150 = .ok (.getfield 131, 3) := by decide +kernel
theorem dX8_readsLine_153 : decode cX8_readsLine 153 = .ok (.putfield 131, 3) := by decide +kernel
theorem dX8_readsLine_156 : decode cX8_readsLine 156 = .ok (.aload_n 0, 1) := by decide +kernel
theorem dX8_readsLine_157 : decode cX8_readsLine 157 = .ok (.dup, 1) := by decide +kernel
theorem dX8_readsLine_158 : decode cX8_readsLine 158 = .ok (.getfield 112, 3) := by decide +kernel
theorem dX8_readsLine_161 : decode cX8_readsLine 161 = .ok (.iconst 1, 1) := by decide +kernel
theorem dX8_readsLine_162 : decode cX8_readsLine 162 = .ok (.iadd, 1) := by decide +kernel
theorem dX8_readsLine_163 : decode cX8_readsLine 163 = .ok (.putfield 112, 3) := by decide +kernel
theorem dX8_readsLine_166 : decode cX8_readsLine 166 = .ok (.iconst 1, 1) := by decide +kernel
theorem dX8_readsLine_167 : decode cX8_readsLine 167 = .ok (.ireturn, 1) := by decide +kernel
theorem dX8_fault_0 : decode cX8_fault 0 = .ok (.aload_n 0, 1) := by decide +kernel
theorem dX8_fault_1 : decode cX8_fault 1 = .ok (.iconst 0, 1) := by decide +kernel
theorem dX8_fault_2 : decode cX8_fault 2 = .ok (.putfield 82, 3) := by decide +kernel
theorem dX8_fault_5 : decode cX8_fault 5 = .ok (.aload_n 0, 1) := by decide +kernel
theorem dX8_fault_6 : decode cX8_fault 6 = .ok (.iconst 0, 1) := by decide +kernel
theorem dX8_fault_7 : decode cX8_fault 7 = .ok (.putfield 112, 3) := by decide +kernel
theorem dX8_fault_10 : decode cX8_fault 10 = .ok (.aload_n 0, 1) := by decide +kernel
theorem dX8_fault_11 : decode cX8_fault 11 = .ok (.aload_n 0, 1) := by decide +kernel
theorem dX8_fault_12 : decode cX8_fault 12 = .ok (.getfield 23, 3) := by decide +kernel
theorem dX8_fault_15 : decode cX8_fault 15 = .ok (.putfield 118, 3) := by decide +kernel
theorem dX8_fault_18 : decode cX8_fault 18 = .ok (.aload_n 0, 1) := by decide +kernel
theorem dX8_fault_19 : decode cX8_fault 19 = .ok (.aload_n 0, 1) := by decide +kernel
theorem dX8_fault_20 : decode cX8_fault 20 = .ok (.getfield 61, 3) := by decide +kernel
theorem dX8_fault_23 : decode cX8_fault 23 = .ok (.putfield 128, 3) := by decide +kernel
theorem dX8_fault_26 : decode cX8_fault 26 = .ok (.aload_n 0, 1) := by decide +kernel
theorem dX8_fault_27 : decode cX8_fault 27 = .ok (.aload_n 0, 1) := by decide +kernel
theorem dX8_fault_28 : decode cX8_fault 28 = .ok (.getfield 64, 3) := by decide +kernel
theorem dX8_fault_31 : decode cX8_fault 31 = .ok (.putfield 131, 3) := by decide +kernel
theorem dX8_fault_34 : decode cX8_fault 34 = .ok (.aload_n 0, 1) := by decide +kernel
theorem dX8_fault_35 : decode cX8_fault 35 = .ok (.invokevirtual 115, 3) := by decide +kernel
theorem dX8_fault_38 : decode cX8_fault 38 = .ok (.aload_n 0, 1) := by decide +kernel
theorem dX8_fault_39 : decode cX8_fault 39 = .ok (.invokevirtual 138, 3) := by decide +kernel
theorem dX8_fault_42 : decode cX8_fault 42 = .ok (.ifCond .ne 8, 3) := by decide +kernel
theorem dX8_fault_45 : decode cX8_fault 45 = .ok (.aload_n 0, 1) := by decide +kernel
theorem dX8_fault_46 : decode cX8_fault 46 = .ok (.getfield 85, 3) := by decide +kernel
theorem dX8_fault_49 : decode cX8_fault 49 = .ok (.ireturn, 1) := by decide +kernel
theorem dX8_fault_50 : decode cX8_fault 50 = .ok (.aload_n 0, 1) := by decide +kernel
theorem dX8_fault_51 : decode cX8_fault 51 = .ok (.getfield 85, 3) := by decide +kernel
theorem dX8_fault_54 : decode cX8_fault 54 = .ok (.aload_n 0, 1) := by decide +kernel
theorem dX8_fault_55 : decode cX8_fault 55 = .ok (.getfield 77, 3) := by decide +kernel
theorem dX8_fault_58 : decode cX8_fault 58 = .ok (.if_icmp .ge 70, 3) := by decide +kernel
theorem dX8_fault_61 : decode cX8_fault 61 = .ok (.aload_n 0, 1) := by decide +kernel
theorem dX8_fault_62 : decode cX8_fault 62 = .ok (.getfield 92, 3) := by decide +kernel
theorem dX8_fault_65 : decode cX8_fault 65 = .ok (.aload_n 0, 1) := by decide +kernel
theorem dX8_fault_66 : decode cX8_fault 66 = .ok (.getfield 85, 3) := by decide +kernel
theorem dX8_fault_69 : decode cX8_fault 69 = .ok (.isub, 1) := by decide +kernel
theorem dX8_fault_70 : decode cX8_fault 70 = .ok (.iconst 1, 1) := by decide +kernel
theorem dX8_fault_71 : decode cX8_fault 71 = .ok (.if_icmp .ne 30, 3) := by decide +kernel
theorem dX8_fault_74 : decode cX8_fault 74 = .ok (.aload_n 0, 1) := by decide +kernel
theorem dX8_fault_75 : decode cX8_fault 75 = .ok (.getfield 17, 3) := by decide +kernel
theorem dX8_fault_78 : decode cX8_fault 78 = .ok (.aload_n 0, 1) := by decide +kernel
theorem dX8_fault_79 : decode cX8_fault 79 = .ok (.getfield 85, 3) := by decide +kernel
theorem dX8_fault_82 : decode cX8_fault 82 = .ok (.iaload, 1) := by decide +kernel
theorem dX8_fault_83 : decode cX8_fault 83 = .ok (.bipush 59, 2) := by decide +kernel
theorem dX8_fault_85 : decode cX8_fault 85 = .ok (.if_icmp .ne 16, 3) := by decide +kernel
theorem dX8_fault_88 : decode cX8_fault 88 = .ok (.aload_n 0, 1) := by decide +kernel
theorem dX8_fault_89 : decode cX8_fault 89 = .ok (.getfield 112, 3) := by decide +kernel
theorem dX8_fault_92 : decode cX8_fault 92 = .ok (.bipush 12, 2) := by decide +kernel
theorem dX8_fault_94 : decode cX8_fault 94 = .ok (.if_icmp .ge 7, 3) := by decide +kernel
theorem dX8_fault_97 : decode cX8_fault 97 = .ok (.iconst 1, 1) := by decide +kernel
theorem dX8_fault_98 : decode cX8_fault 98 = .ok (.goto 4, 3) := by decide +kernel
theorem dX8_fault_101 : decode cX8_fault 101 = .ok (.iconst 0, 1) := by decide +kernel
theorem dX8_fault_102 : decode cX8_fault 102 = .ok (.istore_n 1, 1) := by decide +kernel
theorem dX8_fault_103 : decode cX8_fault 103 = .ok (.iload_n 1, 1) := by decide +kernel
theorem dX8_fault_104 : decode cX8_fault 104 = .ok (.ifCond .eq 12, 3) := by decide +kernel
theorem dX8_fault_107 : decode cX8_fault 107 = .ok (.aload_n 0, 1) := by decide +kernel
theorem dX8_fault_108 : decode cX8_fault 108 = .ok (.invokevirtual 115, 3) := by decide +kernel
theorem dX8_fault_111 : decode cX8_fault 111 = .ok (.aload_n 0, 1) := by decide +kernel
theorem dX8_fault_112 : decode cX8_fault 112 = .ok (.invokevirtual 138, 3) := by decide +kernel
theorem dX8_fault_115 : decode cX8_fault 115 = .ok (.istore_n 1, 1) := by decide +kernel
theorem dX8_fault_116 : decode cX8_fault 116 = .ok (.iload_n 1, 1) := by decide +kernel
theorem dX8_fault_117 : decode cX8_fault 117 = .ok (.ifCond .ne 8, 3) := by decide +kernel
theorem dX8_fault_120 : decode cX8_fault 120 = .ok (.aload_n 0, 1) := by decide +kernel
theorem dX8_fault_121 : decode cX8_fault 121 = .ok (.getfield 85, 3) := by decide +kernel
theorem dX8_fault_124 : decode cX8_fault 124 = .ok (.ireturn, 1) := by decide +kernel
theorem dX8_fault_125 : decode cX8_fault 125 = .ok (.goto (-75), 3) := by decide +kernel
theorem dX8_fault_128 : decode cX8_fault 128 = .ok (.iconst (-1), 1) := by decide +kernel
theorem dX8_fault_129 : decode cX8_fault 129 = .ok (.ireturn, 1) := by decide +kernel
theorem dX8_tell_0 : decode cX8_tell 0 = .ok (.aload_n 0, 1) := by decide +kernel
theorem dX8_tell_1 : decode cX8_tell 1 = .ok (.getfield 20, 3) := by decide +kernel
theorem dX8_tell_4 : decode cX8_tell 4 = .ok (.iload_n 1, 1) := by decide +kernel
theorem dX8_tell_5 : decode cX8_tell 5 = .ok (.iconst 1, 1) := by decide +kernel
theorem dX8_tell_6 : decode cX8_tell 6 = .ok (.iadd, 1) := by decide +kernel
theorem dX8_tell_7 : decode cX8_tell 7 = .ok (.iaload, 1) := by decide +kernel
theorem dX8_tell_8 : decode cX8_tell 8 = .ok (.istore_n 2, 1) := by decide +kernel
theorem dX8_tell_9 : decode cX8_tell 9 = .ok (.aload_n 0, 1) := by decide +kernel
theorem dX8_tell_10 : decode cX8_tell 10 = .ok (.getfield 20, 3) := by decide +kernel
theorem dX8_tell_13 : decode cX8_tell 13 = .ok (.iload_n 1, 1) := by decide +kernel
theorem dX8_tell_14 : decode cX8_tell 14 = .ok (.iconst 2, 1) := by decide +kernel
theorem dX8_tell_15 : decode cX8_tell 15 = .ok (.iadd, 1) := by decide +kernel
theorem dX8_tell_16 : decode cX8_tell 16 = .ok (.iaload, 1) := by decide +kernel
theorem dX8_tell_17 : decode cX8_tell 17 = .ok (.istore_n 3, 1) := by decide +kernel
theorem dX8_tell_18 : decode cX8_tell 18 = .ok (.sipush 156, 3) := by decide +kernel
theorem dX8_tell_21 : decode cX8_tell 21 = .ok (.istore 4, 2) := by decide +kernel
theorem dX8_tell_23 : decode cX8_tell 23 = .ok (.aload_n 0, 1) := by decide +kernel
theorem dX8_tell_24 : decode cX8_tell 24 = .ok (.getfield 20, 3) := by decide +kernel
theorem dX8_tell_27 : decode cX8_tell 27 = .ok (.iload_n 1, 1) := by decide +kernel
theorem dX8_tell_28 : decode cX8_tell 28 = .ok (.iaload, 1) := by decide +kernel
theorem dX8_tell_29 : decode cX8_tell 29 = .ok (.tableswitch 187 0 8 #[51, 187, 187, 187, 187, 57, 110, 170, 176], 51) := by decide +kernel
theorem dX8_tell_80 : decode cX8_tell 80 = .ok (.aload_n 0, 1) := by decide +kernel
theorem dX8_tell_81 : decode cX8_tell 81 = .ok (.iload_n 2, 1) := by decide +kernel
theorem dX8_tell_82 : decode cX8_tell 82 = .ok (.invokevirtual 54, 3) := by decide +kernel
theorem dX8_tell_85 : decode cX8_tell 85 = .ok (.return_, 1) := by decide +kernel
theorem dX8_tell_86 : decode cX8_tell 86 = .ok (.aload_n 0, 1) := by decide +kernel
theorem dX8_tell_87 : decode cX8_tell 87 = .ok (.getfield 30, 3) := by decide +kernel
theorem dX8_tell_90 : decode cX8_tell 90 = .ok (.aload_n 0, 1) := by decide +kernel
theorem dX8_tell_91 : decode cX8_tell 91 = .ok (.getfield 61, 3) := by decide +kernel
theorem dX8_tell_94 : decode cX8_tell 94 = .ok (.iload_n 2, 1) := by decide +kernel
theorem dX8_tell_95 : decode cX8_tell 95 = .ok (.iastore, 1) := by decide +kernel
theorem dX8_tell_96 : decode cX8_tell 96 = .ok (.aload_n 0, 1) := by decide +kernel
theorem dX8_tell_97 : decode cX8_tell 97 = .ok (.getfield 33, 3) := by decide +kernel
theorem dX8_tell_100 : decode cX8_tell 100 = .ok (.aload_n 0, 1) := by decide +kernel
theorem dX8_tell_101 : decode cX8_tell 101 = .ok (.getfield 61, 3) := by decide +kernel
theorem dX8_tell_104 : decode cX8_tell 104 = .ok (.iload_n 3, 1) := by decide +kernel
theorem dX8_tell_105 : decode cX8_tell 105 = .ok (.iastore, 1) := by decide +kernel
theorem dX8_tell_106 : decode cX8_tell 106 = .ok (.aload_n 0, 1) := by decide +kernel
theorem dX8_tell_107 : decode cX8_tell 107 = .ok (.getfield 7, 3) := by decide +kernel
theorem dX8_tell_110 : decode cX8_tell 110 = .ok (.iload 4, 2) := by decide +kernel
theorem dX8_tell_112 : decode cX8_tell 112 = .ok (.iconst 3, 1) := by decide +kernel
theorem dX8_tell_113 : decode cX8_tell 113 = .ok (.iadd, 1) := by decide +kernel
theorem dX8_tell_114 : decode cX8_tell 114 = .ok (.aload_n 0, 1) := by decide +kernel
theorem dX8_tell_115 : decode cX8_tell 115 = .ok (.getfield 61, 3) := by decide +kernel
theorem dX8_tell_118 : decode cX8_tell 118 = .ok (.iadd, 1) := by decide +kernel
theorem dX8_tell_119 : decode cX8_tell 119 = .ok (.aload_n 0, 1) := by decide +kernel
theorem dX8_tell_120 : decode cX8_tell 120 = .ok (.getfield 20, 3) := by decide +kernel
theorem dX8_tell_123 : decode cX8_tell 123 = .ok (.iload_n 1, 1) := by decide +kernel
theorem dX8_tell_124 : decode cX8_tell 124 = .ok (.iconst 3, 1) := by decide +kernel
theorem dX8_tell_125 : decode cX8_tell 125 = .ok (.iadd, 1) := by decide +kernel
theorem dX8_tell_126 : decode cX8_tell 126 = .ok (.iaload, 1) := by decide +kernel
theorem dX8_tell_127 : decode cX8_tell 127 = .ok (.iastore, 1) := by decide +kernel
theorem dX8_tell_128 : decode cX8_tell 128 = .ok (.aload_n 0, 1) := by decide +kernel
theorem dX8_tell_129 : decode cX8_tell 129 = .ok (.dup, 1) := by decide +kernel
theorem dX8_tell_130 : decode cX8_tell 130 = .ok (.getfield 61, 3) := by decide +kernel
theorem dX8_tell_133 : decode cX8_tell 133 = .ok (.iconst 1, 1) := by decide +kernel
theorem dX8_tell_134 : decode cX8_tell 134 = .ok (.iadd, 1) := by decide +kernel
theorem dX8_tell_135 : decode cX8_tell 135 = .ok (.putfield 61, 3) := by decide +kernel
theorem dX8_tell_138 : decode cX8_tell 138 = .ok (.return_, 1) := by decide +kernel
theorem dX8_tell_139 : decode cX8_tell 139 = .ok (.aload_n 0, 1) := by decide +kernel
theorem dX8_tell_140 : decode cX8_tell 140 = .ok (.getfield 7, 3) := by decide +kernel
theorem dX8_tell_143 : decode cX8_tell 143 = .ok (.iload 4, 2) := by decide +kernel
theorem dX8_tell_145 : decode cX8_tell 145 = .ok (.bipush 15, 2) := by decide +kernel
theorem dX8_tell_147 : decode cX8_tell 147 = .ok (.iadd, 1) := by decide +kernel
theorem dX8_tell_148 : decode cX8_tell 148 = .ok (.aload_n 0, 1) := by decide +kernel
theorem dX8_tell_149 : decode cX8_tell 149 = .ok (.getfield 64, 3) := by decide +kernel
theorem dX8_tell_152 : decode cX8_tell 152 = .ok (.iadd, 1) := by decide +kernel
theorem dX8_tell_153 : decode cX8_tell 153 = .ok (.iload_n 2, 1) := by decide +kernel
theorem dX8_tell_154 : decode cX8_tell 154 = .ok (.iastore, 1) := by decide +kernel
theorem dX8_tell_155 : decode cX8_tell 155 = .ok (.aload_n 0, 1) := by decide +kernel
theorem dX8_tell_156 : decode cX8_tell 156 = .ok (.getfield 36, 3) := by decide +kernel
theorem dX8_tell_159 : decode cX8_tell 159 = .ok (.aload_n 0, 1) := by decide +kernel
theorem dX8_tell_160 : decode cX8_tell 160 = .ok (.getfield 64, 3) := by decide +kernel
theorem dX8_tell_163 : decode cX8_tell 163 = .ok (.iload_n 3, 1) := by decide +kernel
theorem dX8_tell_164 : decode cX8_tell 164 = .ok (.iastore, 1) := by decide +kernel
theorem dX8_tell_165 : decode cX8_tell 165 = .ok (.aload_n 0, 1) := by decide +kernel
theorem dX8_tell_166 : decode cX8_tell 166 = .ok (.getfield 7, 3) := by decide +kernel
theorem dX8_tell_169 : decode cX8_tell 169 = .ok (.iload 4, 2) := by decide +kernel
theorem dX8_tell_171 : decode cX8_tell 171 = .ok (.bipush 21, 2) := by decide +kernel
theorem dX8_tell_173 : decode cX8_tell 173 = .ok (.iadd, 1) := by decide +kernel
theorem dX8_tell_174 : decode cX8_tell 174 = .ok (.aload_n 0, 1) := by decide +kernel
theorem dX8_tell_175 : decode cX8_tell 175 = .ok (.getfield 64, 3) := by decide +kernel
theorem dX8_tell_178 : decode cX8_tell 178 = .ok (.iadd, 1) := by decide +kernel
theorem dX8_tell_179 : decode cX8_tell 179 = .ok (.aload_n 0, 1) := by decide +kernel
theorem dX8_tell_180 : decode cX8_tell 180 = .ok (.getfield 20, 3) := by decide +kernel
theorem dX8_tell_183 : decode cX8_tell 183 = .ok (.iload_n 1, 1) := by decide +kernel
theorem dX8_tell_184 : decode cX8_tell 184 = .ok (.iconst 3, 1) := by decide +kernel
theorem dX8_tell_185 : decode cX8_tell 185 = .ok (.iadd, 1) := by decide +kernel
theorem dX8_tell_186 : decode cX8_tell 186 = .ok (.iaload, 1) := by decide +kernel
theorem dX8_tell_187 : decode cX8_tell 187 = .ok (.iastore, 1) := by decide +kernel
theorem dX8_tell_188 : decode cX8_tell 188 = .ok (.aload_n 0, 1) := by decide +kernel
theorem dX8_tell_189 : decode cX8_tell 189 = .ok (.dup, 1) := by decide +kernel
theorem dX8_tell_190 : decode cX8_tell 190 = .ok (.getfield 64, 3) := by decide +kernel
theorem dX8_tell_193 : decode cX8_tell 193 = .ok (.iconst 1, 1) := by decide +kernel
theorem dX8_tell_194 : decode cX8_tell 194 = .ok (.iadd, 1) := by decide +kernel
theorem dX8_tell_195 : decode cX8_tell 195 = .ok (.putfield 64, 3) := by decide +kernel
theorem dX8_tell_198 : decode cX8_tell 198 = .ok (.return_, 1) := by decide +kernel
theorem dX8_tell_199 : decode cX8_tell 199 = .ok (.aload_n 0, 1) := by decide +kernel
theorem dX8_tell_200 : decode cX8_tell 200 = .ok (.iload_n 2, 1) := by decide +kernel
theorem dX8_tell_201 : decode cX8_tell 201 = .ok (.putfield 39, 3) := by decide +kernel
theorem dX8_tell_204 : decode cX8_tell 204 = .ok (.return_, 1) := by decide +kernel
theorem dX8_tell_205 : decode cX8_tell 205 = .ok (.aload_n 0, 1) := by decide +kernel
theorem dX8_tell_206 : decode cX8_tell 206 = .ok (.getfield 7, 3) := by decide +kernel
theorem dX8_tell_209 : decode cX8_tell 209 = .ok (.iload 4, 2) := by decide +kernel
theorem dX8_tell_211 : decode cX8_tell 211 = .ok (.iconst 1, 1) := by decide +kernel
theorem dX8_tell_212 : decode cX8_tell 212 = .ok (.iadd, 1) := by decide +kernel
theorem dX8_tell_213 : decode cX8_tell 213 = .ok (.iload_n 2, 1) := by decide +kernel
theorem dX8_tell_214 : decode cX8_tell 214 = .ok (.iastore, 1) := by decide +kernel
theorem dX8_tell_215 : decode cX8_tell 215 = .ok (.return_, 1) := by decide +kernel
theorem dX8_tell_216 : decode cX8_tell 216 = .ok (.aload_n 0, 1) := by decide +kernel
theorem dX8_tell_217 : decode cX8_tell 217 = .ok (.getfield 27, 3) := by decide +kernel
theorem dX8_tell_220 : decode cX8_tell 220 = .ok (.iload_n 2, 1) := by decide +kernel
theorem dX8_tell_221 : decode cX8_tell 221 = .ok (.aload_n 0, 1) := by decide +kernel
theorem dX8_tell_222 : decode cX8_tell 222 = .ok (.getfield 20, 3) := by decide +kernel
theorem dX8_tell_225 : decode cX8_tell 225 = .ok (.iload_n 1, 1) := by decide +kernel
theorem dX8_tell_226 : decode cX8_tell 226 = .ok (.iaload, 1) := by decide +kernel
theorem dX8_tell_227 : decode cX8_tell 227 = .ok (.iconst 1, 1) := by decide +kernel
theorem dX8_tell_228 : decode cX8_tell 228 = .ok (.isub, 1) := by decide +kernel
theorem dX8_tell_229 : decode cX8_tell 229 = .ok (.iastore, 1) := by decide +kernel
theorem dX8_tell_230 : decode cX8_tell 230 = .ok (.return_, 1) := by decide +kernel
theorem dX8_office_0 : decode cX8_office 0 = .ok (.aload_n 0, 1) := by decide +kernel
theorem dX8_office_1 : decode cX8_office 1 = .ok (.invokevirtual 142, 3) := by decide +kernel
theorem dX8_office_4 : decode cX8_office 4 = .ok (.iconst (-1), 1) := by decide +kernel
theorem dX8_office_5 : decode cX8_office 5 = .ok (.if_icmp .eq 6, 3) := by decide +kernel
theorem dX8_office_8 : decode cX8_office 8 = .ok (.bipush (-4), 2) := by decide +kernel
theorem dX8_office_10 : decode cX8_office 10 = .ok (.ireturn, 1) := by decide +kernel
theorem dX8_office_11 : decode cX8_office 11 = .ok (.iconst 0, 1) := by decide +kernel
theorem dX8_office_12 : decode cX8_office 12 = .ok (.istore_n 1, 1) := by decide +kernel
theorem dX8_office_13 : decode cX8_office 13 = .ok (.iload_n 1, 1) := by decide +kernel
theorem dX8_office_14 : decode cX8_office 14 = .ok (.aload_n 0, 1) := by decide +kernel
theorem dX8_office_15 : decode cX8_office 15 = .ok (.getfield 112, 3) := by decide +kernel
theorem dX8_office_18 : decode cX8_office 18 = .ok (.if_icmp .ge 16, 3) := by decide +kernel
theorem dX8_office_21 : decode cX8_office 21 = .ok (.aload_n 0, 1) := by decide +kernel
theorem dX8_office_22 : decode cX8_office 22 = .ok (.iconst 4, 1) := by decide +kernel
theorem dX8_office_23 : decode cX8_office 23 = .ok (.iload_n 1, 1) := by decide +kernel
theorem dX8_office_24 : decode cX8_office 24 = .ok (.imul, 1) := by decide +kernel
theorem dX8_office_25 : decode cX8_office 25 = .ok (.invokevirtual 145, 3) := by decide +kernel
theorem dX8_office_28 : decode cX8_office 28 = .ok (.iinc 1 1, 3) := by decide +kernel
theorem dX8_office_31 : decode cX8_office 31 = .ok (.goto (-18), 3) := by decide +kernel
theorem dX8_office_34 : decode cX8_office 34 = .ok (.aload_n 0, 1) := by decide +kernel
theorem dX8_office_35 : decode cX8_office 35 = .ok (.invokevirtual 58, 3) := by decide +kernel
theorem dX8_office_38 : decode cX8_office 38 = .ok (.aload_n 0, 1) := by decide +kernel
theorem dX8_office_39 : decode cX8_office 39 = .ok (.iconst 0, 1) := by decide +kernel
theorem dX8_office_40 : decode cX8_office 40 = .ok (.putfield 148, 3) := by decide +kernel
theorem dX8_office_43 : decode cX8_office 43 = .ok (.aload_n 0, 1) := by decide +kernel
theorem dX8_office_44 : decode cX8_office 44 = .ok (.getfield 13, 3) := by decide +kernel
theorem dX8_office_47 : decode cX8_office 47 = .ok (.iconst 0, 1) := by decide +kernel
theorem dX8_office_48 : decode cX8_office 48 = .ok (.iconst 0, 1) := by decide +kernel
theorem dX8_office_49 : decode cX8_office 49 = .ok (.bastore, 1) := by decide +kernel
theorem dX8_office_50 : decode cX8_office 50 = .ok (.aload_n 0, 1) := by decide +kernel
theorem dX8_office_51 : decode cX8_office 51 = .ok (.getfield 13, 3) := by decide +kernel
theorem dX8_office_54 : decode cX8_office 54 = .ok (.iconst 1, 1) := by decide +kernel
theorem dX8_office_55 : decode cX8_office 55 = .ok (.iconst 0, 1) := by decide +kernel
theorem dX8_office_56 : decode cX8_office 56 = .ok (.bastore, 1) := by decide +kernel
theorem dX8_office_57 : decode cX8_office 57 = .ok (.aload_n 0, 1) := by decide +kernel
theorem dX8_office_58 : decode cX8_office 58 = .ok (.iconst 0, 1) := by decide +kernel
theorem dX8_office_59 : decode cX8_office 59 = .ok (.putfield 77, 3) := by decide +kernel
theorem dX8_office_62 : decode cX8_office 62 = .ok (.iconst 0, 1) := by decide +kernel
theorem dX8_office_63 : decode cX8_office 63 = .ok (.istore_n 1, 1) := by decide +kernel
theorem dX8_office_64 : decode cX8_office 64 = .ok (.iload_n 1, 1) := by decide +kernel
theorem dX8_office_65 : decode cX8_office 65 = .ok (.bipush 8, 2) := by decide +kernel
theorem dX8_office_67 : decode cX8_office 67 = .ok (.if_icmp .ge 16, 3) := by decide +kernel
theorem dX8_office_70 : decode cX8_office 70 = .ok (.aload_n 0, 1) := by decide +kernel
theorem dX8_office_71 : decode cX8_office 71 = .ok (.getfield 51, 3) := by decide +kernel
theorem dX8_office_74 : decode cX8_office 74 = .ok (.iload_n 1, 1) := by decide +kernel
theorem dX8_office_75 : decode cX8_office 75 = .ok (.iconst 0, 1) := by decide +kernel
theorem dX8_office_76 : decode cX8_office 76 = .ok (.iastore, 1) := by decide +kernel
theorem dX8_office_77 : decode cX8_office 77 = .ok (.iinc 1 1, 3) := by decide +kernel
theorem dX8_office_80 : decode cX8_office 80 = .ok (.goto (-16), 3) := by decide +kernel
theorem dX8_office_83 : decode cX8_office 83 = .ok (.aload_n 0, 1) := by decide +kernel
theorem dX8_office_84 : decode cX8_office 84 = .ok (.getfield 112, 3) := by decide +kernel
theorem dX8_office_87 : decode cX8_office 87 = .ok (.ireturn, 1) := by decide +kernel
theorem dX8_isDesk_0 : decode cX8_isDesk 0 = .ok (.iload_n 1, 1) := by decide +kernel
theorem dX8_isDesk_1 : decode cX8_isDesk 1 = .ok (.i2l, 1) := by decide +kernel
theorem dX8_isDesk_2 : decode cX8_isDesk 2 = .ok (.lconst 0, 1) := by decide +kernel
theorem dX8_isDesk_3 : decode cX8_isDesk 3 = .ok (.aload_n 0, 1) := by decide +kernel
theorem dX8_isDesk_4 : decode cX8_isDesk 4 = .ok (.getfield 23, 3) := by decide +kernel
theorem dX8_isDesk_7 : decode cX8_isDesk 7 = .ok (.iconst 1, 1) := by decide +kernel
theorem dX8_isDesk_8 : decode cX8_isDesk 8 = .ok (.isub, 1) := by decide +kernel
theorem dX8_isDesk_9 : decode cX8_isDesk 9 = .ok (.i2l, 1) := by decide +kernel
theorem dX8_isDesk_10 : decode cX8_isDesk 10 = .ok (.invokestatic 73, 3) := by decide +kernel
theorem dX8_isDesk_13 : decode cX8_isDesk 13 = .ok (.ireturn, 1) := by decide +kernel
theorem dX8_isTrail_0 : decode cX8_isTrail 0 = .ok (.iload_n 1, 1) := by decide +kernel
theorem dX8_isTrail_1 : decode cX8_isTrail 1 = .ok (.i2l, 1) := by decide +kernel
theorem dX8_isTrail_2 : decode cX8_isTrail 2 = .ok (.lconst 0, 1) := by decide +kernel
theorem dX8_isTrail_3 : decode cX8_isTrail 3 = .ok (.aload_n 0, 1) := by decide +kernel
theorem dX8_isTrail_4 : decode cX8_isTrail 4 = .ok (.getfield 61, 3) := by decide +kernel
theorem dX8_isTrail_7 : decode cX8_isTrail 7 = .ok (.iconst 1, 1) := by decide +kernel
theorem dX8_isTrail_8 : decode cX8_isTrail 8 = .ok (.isub, 1) := by decide +kernel
theorem dX8_isTrail_9 : decode cX8_isTrail 9 = .ok (.i2l, 1) := by decide +kernel
theorem dX8_isTrail_10 : decode cX8_isTrail 10 = .ok (.invokestatic 73, 3) := by decide +kernel
theorem dX8_isTrail_13 : decode cX8_isTrail 13 = .ok (.ireturn, 1) := by decide +kernel
theorem dX8_isFile_0 : decode cX8_isFile 0 = .ok (.iload_n 1, 1) := by decide +kernel
theorem dX8_isFile_1 : decode cX8_isFile 1 = .ok (.i2l, 1) := by decide +kernel
theorem dX8_isFile_2 : decode cX8_isFile 2 = .ok (.lconst 0, 1) := by decide +kernel
theorem dX8_isFile_3 : decode cX8_isFile 3 = .ok (.aload_n 0, 1) := by decide +kernel
theorem dX8_isFile_4 : decode cX8_isFile 4 = .ok (.getfield 64, 3) := by decide +kernel
theorem dX8_isFile_7 : decode cX8_isFile 7 = .ok (.iconst 1, 1) := by decide +kernel
theorem dX8_isFile_8 : decode cX8_isFile 8 = .ok (.isub, 1) := by decide +kernel
theorem dX8_isFile_9 : decode cX8_isFile 9 = .ok (.i2l, 1) := by decide +kernel
theorem dX8_isFile_10 : decode cX8_isFile 10 = .ok (.invokestatic 73, 3) := by decide +kernel
theorem dX8_isFile_13 : decode cX8_isFile 13 = .ok (.ireturn, 1) := by decide +kernel
theorem dX8_isOf_0 : decode cX8_isOf 0 = .ok (.aload_n 0, 1) := by decide +kernel
theorem dX8_isOf_1 : decode cX8_isOf 1 = .ok (.getfield 30, 3) := by decide +kernel
theorem dX8_isOf_4 : decode cX8_isOf 4 = .ok (.iload_n 1, 1) := by decide +kernel
theorem dX8_isOf_5 : decode cX8_isOf 5 = .ok (.iaload, 1) := by decide +kernel
theorem dX8_isOf_6 : decode cX8_isOf 6 = .ok (.iload_n 2, 1) := by decide +kernel
theorem dX8_isOf_7 : decode cX8_isOf 7 = .ok (.if_icmp .eq 13, 3) := by decide +kernel
theorem dX8_isOf_10 : decode cX8_isOf 10 = .ok (.aload_n 0, 1) := by decide +kernel
theorem dX8_isOf_11 : decode cX8_isOf 11 = .ok (.getfield 33, 3) := by decide +kernel
theorem dX8_isOf_14 : decode cX8_isOf 14 = .ok (.iload_n 1, 1) := by decide +kernel
theorem dX8_isOf_15 : decode cX8_isOf 15 = .ok (.iaload, 1) := by decide +kernel
theorem dX8_isOf_16 : decode cX8_isOf 16 = .ok (.iload_n 2, 1) := by decide +kernel
theorem dX8_isOf_17 : decode cX8_isOf 17 = .ok (.if_icmp .ne 7, 3) := by decide +kernel
theorem dX8_isOf_20 : decode cX8_isOf 20 = .ok (.iconst 1, 1) := by decide +kernel
theorem dX8_isOf_21 : decode cX8_isOf 21 = .ok (.goto 4, 3) := by decide +kernel
theorem dX8_isOf_24 : decode cX8_isOf 24 = .ok (.iconst 0, 1) := by decide +kernel
theorem dX8_isOf_25 : decode cX8_isOf 25 = .ok (.ireturn, 1) := by decide +kernel
theorem dX8_desk_0 : decode cX8_desk 0 = .ok (.aload_n 0, 1) := by decide +kernel
theorem dX8_desk_1 : decode cX8_desk 1 = .ok (.iload_n 1, 1) := by decide +kernel
theorem dX8_desk_2 : decode cX8_desk 2 = .ok (.invokevirtual 151, 3) := by decide +kernel
theorem dX8_desk_5 : decode cX8_desk 5 = .ok (.ifCond .ne 6, 3) := by decide +kernel
theorem dX8_desk_8 : decode cX8_desk 8 = .ok (.bipush (-2), 2) := by decide +kernel
theorem dX8_desk_10 : decode cX8_desk 10 = .ok (.ireturn, 1) := by decide +kernel
theorem dX8_desk_11 : decode cX8_desk 11 = .ok (.iconst 0, 1) := by decide +kernel
theorem dX8_desk_12 : decode cX8_desk 12 = .ok (.istore_n 3, 1) := by decide +kernel
theorem dX8_desk_13 : decode cX8_desk 13 = .ok (.iconst 0, 1) := by decide +kernel
theorem dX8_desk_14 : decode cX8_desk 14 = .ok (.istore 4, 2) := by decide +kernel
theorem dX8_desk_16 : decode cX8_desk 16 = .ok (.iconst 0, 1) := by decide +kernel
theorem dX8_desk_17 : decode cX8_desk 17 = .ok (.istore 5, 2) := by decide +kernel
theorem dX8_desk_19 : decode cX8_desk 19 = .ok (.iload 5, 2) := by decide +kernel
theorem dX8_desk_21 : decode cX8_desk 21 = .ok (.aload_n 0, 1) := by decide +kernel
theorem dX8_desk_22 : decode cX8_desk 22 = .ok (.getfield 64, 3) := by decide +kernel
theorem dX8_desk_25 : decode cX8_desk 25 = .ok (.if_icmp .ge 34, 3) := by decide +kernel
theorem dX8_desk_28 : decode cX8_desk 28 = .ok (.iload_n 3, 1) := by decide +kernel
theorem dX8_desk_29 : decode cX8_desk 29 = .ok (.aload_n 0, 1) := by decide +kernel
theorem dX8_desk_30 : decode cX8_desk 30 = .ok (.getfield 7, 3) := by decide +kernel
theorem dX8_desk_33 : decode cX8_desk 33 = .ok (.bipush 15, 2) := by decide +kernel
theorem dX8_desk_35 : decode cX8_desk 35 = .ok (.iload 5, 2) := by decide +kernel
theorem dX8_desk_37 : decode cX8_desk 37 = .ok (.iadd, 1) := by decide +kernel
theorem dX8_desk_38 : decode cX8_desk 38 = .ok (.iaload, 1) := by decide +kernel
theorem dX8_desk_39 : decode cX8_desk 39 = .ok (.iload_n 1, 1) := by decide +kernel
theorem dX8_desk_40 : decode cX8_desk 40 = .ok (.if_icmp .ne 10, 3) := by decide +kernel
theorem dX8_desk_43 : decode cX8_desk 43 = .ok (.iconst 1, 1) := by decide +kernel
theorem dX8_desk_44 : decode cX8_desk 44 = .ok (.iload 5, 2) := by decide +kernel
theorem dX8_desk_46 : decode cX8_desk 46 = .ok (.ishl, 1) := by decide +kernel
theorem dX8_desk_47 : decode cX8_desk 47 = .ok (.goto 4, 3) := by decide +kernel
theorem dX8_desk_50 : decode cX8_desk 50 = .ok (.iconst 0, 1) := by decide +kernel
theorem dX8_desk_51 : decode cX8_desk 51 = .ok (.ior, 1) := by decide +kernel
theorem dX8_desk_52 : decode cX8_desk 52 = .ok (.istore_n 3, 1) := by decide +kernel
theorem dX8_desk_53 : decode cX8_desk 53 = .ok (.iinc 5 1, 3) := by decide +kernel
theorem dX8_desk_56 : decode cX8_desk 56 = .ok (.goto (-37), 3) := by decide +kernel
theorem dX8_desk_59 : decode cX8_desk 59 = .ok (.iconst 0, 1) := by decide +kernel
theorem dX8_desk_60 : decode cX8_desk 60 = .ok (.istore 5, 2) := by decide +kernel
theorem dX8_desk_62 : decode cX8_desk 62 = .ok (.iload 5, 2) := by decide +kernel
theorem dX8_desk_64 : decode cX8_desk 64 = .ok (.aload_n 0, 1) := by decide +kernel
theorem dX8_desk_65 : decode cX8_desk 65 = .ok (.getfield 61, 3) := by decide +kernel
theorem dX8_desk_68 : decode cX8_desk 68 = .ok (.if_icmp .ge 29, 3) := by decide +kernel
theorem dX8_desk_71 : decode cX8_desk 71 = .ok (.iload 4, 2) := by decide +kernel
theorem dX8_desk_73 : decode cX8_desk 73 = .ok (.aload_n 0, 1) := by decide +kernel
theorem dX8_desk_74 : decode cX8_desk 74 = .ok (.iload 5, 2) := by decide +kernel
theorem dX8_desk_76 : decode cX8_desk 76 = .ok (.iload_n 1, 1) := by decide +kernel
theorem dX8_desk_77 : decode cX8_desk 77 = .ok (.invokevirtual 154, 3) := by decide +kernel
theorem dX8_desk_80 : decode cX8_desk 80 = .ok (.ifCond .eq 7, 3) := by decide +kernel
theorem dX8_desk_83 : decode cX8_desk 83 = .ok (.iconst 1, 1) := by decide +kernel
theorem dX8_desk_84 : decode cX8_desk 84 = .ok (.goto 4, 3) := by decide +kernel
theorem dX8_desk_87 : decode cX8_desk 87 = .ok (.iconst 0, 1) := by decide +kernel
theorem dX8_desk_88 : decode cX8_desk 88 = .ok (.iadd, 1) := by decide +kernel
theorem dX8_desk_89 : decode cX8_desk 89 = .ok (.istore 4, 2) := by decide +kernel
theorem dX8_desk_91 : decode cX8_desk 91 = .ok (.iinc 5 1, 3) := by decide +kernel
theorem dX8_desk_94 : decode cX8_desk 94 = .ok (.goto (-32), 3) := by decide +kernel
theorem dX8_desk_97 : decode cX8_desk 97 = .ok (.iload_n 2, 1) := by decide +kernel
theorem dX8_desk_98 : decode cX8_desk 98 = .ok (.ifCond .ne 12, 3) := by decide +kernel
theorem dX8_desk_101 : decode cX8_desk 101 = .ok (.aload_n 0, 1) := by decide +kernel
theorem dX8_desk_102 : decode cX8_desk 102 = .ok (.getfield 27, 3) := by decide +kernel
theorem dX8_desk_105 : decode cX8_desk 105 = .ok (.iload_n 1, 1) := by decide +kernel
theorem dX8_desk_106 : decode cX8_desk 106 = .ok (.iaload, 1) := by decide +kernel
theorem dX8_desk_107 : decode cX8_desk 107 = .ok (.goto 24, 3) := by decide +kernel
theorem dX8_desk_110 : decode cX8_desk 110 = .ok (.iload_n 2, 1) := by decide +kernel
theorem dX8_desk_111 : decode cX8_desk 111 = .ok (.iconst 1, 1) := by decide +kernel
theorem dX8_desk_112 : decode cX8_desk 112 = .ok (.if_icmp .ne 7, 3) := by decide +kernel
theorem dX8_desk_115 : decode cX8_desk 115 = .ok (.iload_n 3, 1) := by decide +kernel
theorem dX8_desk_116 : decode cX8_desk 116 = .ok (.goto 15, 3) := by decide +kernel
theorem dX8_desk_119 : decode cX8_desk 119 = .ok (.iload_n 2, 1) := by decide +kernel
theorem dX8_desk_120 : decode cX8_desk 120 = .ok (.iconst 2, 1) := by decide +kernel
theorem dX8_desk_121 : decode cX8_desk 121 = .ok (.if_icmp .ne 8, 3) := by decide +kernel
theorem dX8_desk_124 : decode cX8_desk 124 = .ok (.iload 4, 2) := by decide +kernel
theorem dX8_desk_126 : decode cX8_desk 126 = .ok (.goto 5, 3) := by decide +kernel
theorem dX8_desk_129 : decode cX8_desk 129 = .ok (.bipush (-3), 2) := by decide +kernel
theorem dX8_desk_131 : decode cX8_desk 131 = .ok (.ireturn, 1) := by decide +kernel
theorem dX8_trail_0 : decode cX8_trail 0 = .ok (.aload_n 0, 1) := by decide +kernel
theorem dX8_trail_1 : decode cX8_trail 1 = .ok (.iload_n 1, 1) := by decide +kernel
theorem dX8_trail_2 : decode cX8_trail 2 = .ok (.invokevirtual 157, 3) := by decide +kernel
theorem dX8_trail_5 : decode cX8_trail 5 = .ok (.ifCond .ne 6, 3) := by decide +kernel
theorem dX8_trail_8 : decode cX8_trail 8 = .ok (.bipush (-2), 2) := by decide +kernel
theorem dX8_trail_10 : decode cX8_trail 10 = .ok (.ireturn, 1) := by decide +kernel
theorem dX8_trail_11 : decode cX8_trail 11 = .ok (.iload_n 2, 1) := by decide +kernel
theorem dX8_trail_12 : decode cX8_trail 12 = .ok (.ifCond .ne 12, 3) := by decide +kernel
theorem dX8_trail_15 : decode cX8_trail 15 = .ok (.aload_n 0, 1) := by decide +kernel
theorem dX8_trail_16 : decode cX8_trail 16 = .ok (.getfield 30, 3) := by decide +kernel
theorem dX8_trail_19 : decode cX8_trail 19 = .ok (.iload_n 1, 1) := by decide +kernel
theorem dX8_trail_20 : decode cX8_trail 20 = .ok (.iaload, 1) := by decide +kernel
theorem dX8_trail_21 : decode cX8_trail 21 = .ok (.goto 35, 3) := by decide +kernel
theorem dX8_trail_24 : decode cX8_trail 24 = .ok (.iload_n 2, 1) := by decide +kernel
theorem dX8_trail_25 : decode cX8_trail 25 = .ok (.iconst 1, 1) := by decide +kernel
theorem dX8_trail_26 : decode cX8_trail 26 = .ok (.if_icmp .ne 12, 3) := by decide +kernel
theorem dX8_trail_29 : decode cX8_trail 29 = .ok (.aload_n 0, 1) := by decide +kernel
theorem dX8_trail_30 : decode cX8_trail 30 = .ok (.getfield 33, 3) := by decide +kernel
theorem dX8_trail_33 : decode cX8_trail 33 = .ok (.iload_n 1, 1) := by decide +kernel
theorem dX8_trail_34 : decode cX8_trail 34 = .ok (.iaload, 1) := by decide +kernel
theorem dX8_trail_35 : decode cX8_trail 35 = .ok (.goto 21, 3) := by decide +kernel
theorem dX8_trail_38 : decode cX8_trail 38 = .ok (.iload_n 2, 1) := by decide +kernel
theorem dX8_trail_39 : decode cX8_trail 39 = .ok (.iconst 2, 1) := by decide +kernel
theorem dX8_trail_40 : decode cX8_trail 40 = .ok (.if_icmp .ne 14, 3) := by decide +kernel
theorem dX8_trail_43 : decode cX8_trail 43 = .ok (.aload_n 0, 1) := by decide +kernel
theorem dX8_trail_44 : decode cX8_trail 44 = .ok (.getfield 7, 3) := by decide +kernel
theorem dX8_trail_47 : decode cX8_trail 47 = .ok (.iconst 3, 1) := by decide +kernel
theorem dX8_trail_48 : decode cX8_trail 48 = .ok (.iload_n 1, 1) := by decide +kernel
theorem dX8_trail_49 : decode cX8_trail 49 = .ok (.iadd, 1) := by decide +kernel
theorem dX8_trail_50 : decode cX8_trail 50 = .ok (.iaload, 1) := by decide +kernel
theorem dX8_trail_51 : decode cX8_trail 51 = .ok (.goto 5, 3) := by decide +kernel
theorem dX8_trail_54 : decode cX8_trail 54 = .ok (.bipush (-3), 2) := by decide +kernel
theorem dX8_trail_56 : decode cX8_trail 56 = .ok (.ireturn, 1) := by decide +kernel
theorem dX8_file_0 : decode cX8_file 0 = .ok (.aload_n 0, 1) := by decide +kernel
theorem dX8_file_1 : decode cX8_file 1 = .ok (.iload_n 1, 1) := by decide +kernel
theorem dX8_file_2 : decode cX8_file 2 = .ok (.invokevirtual 160, 3) := by decide +kernel
theorem dX8_file_5 : decode cX8_file 5 = .ok (.ifCond .ne 6, 3) := by decide +kernel
theorem dX8_file_8 : decode cX8_file 8 = .ok (.bipush (-2), 2) := by decide +kernel
theorem dX8_file_10 : decode cX8_file 10 = .ok (.ireturn, 1) := by decide +kernel
theorem dX8_file_11 : decode cX8_file 11 = .ok (.iload_n 2, 1) := by decide +kernel
theorem dX8_file_12 : decode cX8_file 12 = .ok (.tableswitch 83 0 4 #[36, 46, 53, 63, 73], 36) := by decide +kernel
theorem dX8_file_48 : decode cX8_file 48 = .ok (.aload_n 0, 1) := by decide +kernel
theorem dX8_file_49 : decode cX8_file 49 = .ok (.getfield 7, 3) := by decide +kernel
theorem dX8_file_52 : decode cX8_file 52 = .ok (.bipush 15, 2) := by decide +kernel
theorem dX8_file_54 : decode cX8_file 54 = .ok (.iload_n 1, 1) := by decide +kernel
theorem dX8_file_55 : decode cX8_file 55 = .ok (.iadd, 1) := by decide +kernel
theorem dX8_file_56 : decode cX8_file 56 = .ok (.iaload, 1) := by decide +kernel
theorem dX8_file_57 : decode cX8_file 57 = .ok (.ireturn, 1) := by decide +kernel
theorem dX8_file_58 : decode cX8_file 58 = .ok (.aload_n 0, 1) := by decide +kernel
theorem dX8_file_59 : decode cX8_file 59 = .ok (.getfield 36, 3) := by decide +kernel
theorem dX8_file_62 : decode cX8_file 62 = .ok (.iload_n 1, 1) := by decide +kernel
theorem dX8_file_63 : decode cX8_file 63 = .ok (.iaload, 1) := by decide +kernel
theorem dX8_file_64 : decode cX8_file 64 = .ok (.ireturn, 1) := by decide +kernel
theorem dX8_file_65 : decode cX8_file 65 = .ok (.aload_n 0, 1) := by decide +kernel
theorem dX8_file_66 : decode cX8_file 66 = .ok (.getfield 7, 3) := by decide +kernel
theorem dX8_file_69 : decode cX8_file 69 = .ok (.bipush 21, 2) := by decide +kernel
theorem dX8_file_71 : decode cX8_file 71 = .ok (.iload_n 1, 1) := by decide +kernel
theorem dX8_file_72 : decode cX8_file 72 = .ok (.iadd, 1) := by decide +kernel
theorem dX8_file_73 : decode cX8_file 73 = .ok (.iaload, 1) := by decide +kernel
theorem dX8_file_74 : decode cX8_file 74 = .ok (.ireturn, 1) := by decide +kernel
theorem dX8_file_75 : decode cX8_file 75 = .ok (.aload_n 0, 1) := by decide +kernel
theorem dX8_file_76 : decode cX8_file 76 = .ok (.getfield 7, 3) := by decide +kernel
theorem dX8_file_79 : decode cX8_file 79 = .ok (.bipush 27, 2) := by decide +kernel
theorem dX8_file_81 : decode cX8_file 81 = .ok (.iload_n 1, 1) := by decide +kernel
theorem dX8_file_82 : decode cX8_file 82 = .ok (.iadd, 1) := by decide +kernel
theorem dX8_file_83 : decode cX8_file 83 = .ok (.iaload, 1) := by decide +kernel
theorem dX8_file_84 : decode cX8_file 84 = .ok (.ireturn, 1) := by decide +kernel
theorem dX8_file_85 : decode cX8_file 85 = .ok (.aload_n 0, 1) := by decide +kernel
theorem dX8_file_86 : decode cX8_file 86 = .ok (.getfield 7, 3) := by decide +kernel
theorem dX8_file_89 : decode cX8_file 89 = .ok (.bipush 33, 2) := by decide +kernel
theorem dX8_file_91 : decode cX8_file 91 = .ok (.iload_n 1, 1) := by decide +kernel
theorem dX8_file_92 : decode cX8_file 92 = .ok (.iadd, 1) := by decide +kernel
theorem dX8_file_93 : decode cX8_file 93 = .ok (.iaload, 1) := by decide +kernel
theorem dX8_file_94 : decode cX8_file 94 = .ok (.ireturn, 1) := by decide +kernel
theorem dX8_file_95 : decode cX8_file 95 = .ok (.bipush (-3), 2) := by decide +kernel
theorem dX8_file_97 : decode cX8_file 97 = .ok (.ireturn, 1) := by decide +kernel
theorem dX8_sweetAt_0 : decode cX8_sweetAt 0 = .ok (.aload_n 0, 1) := by decide +kernel
theorem dX8_sweetAt_1 : decode cX8_sweetAt 1 = .ok (.getfield 27, 3) := by decide +kernel
theorem dX8_sweetAt_4 : decode cX8_sweetAt 4 = .ok (.iload_n 1, 1) := by decide +kernel
theorem dX8_sweetAt_5 : decode cX8_sweetAt 5 = .ok (.iaload, 1) := by decide +kernel
theorem dX8_sweetAt_6 : decode cX8_sweetAt 6 = .ok (.iconst 1, 1) := by decide +kernel
theorem dX8_sweetAt_7 : decode cX8_sweetAt 7 = .ok (.if_icmp .ne 13, 3) := by decide +kernel
theorem dX8_sweetAt_10 : decode cX8_sweetAt 10 = .ok (.iload_n 2, 1) := by decide +kernel
theorem dX8_sweetAt_11 : decode cX8_sweetAt 11 = .ok (.ifCond .le 9, 3) := by decide +kernel
theorem dX8_sweetAt_14 : decode cX8_sweetAt 14 = .ok (.iload_n 2, 1) := by decide +kernel
theorem dX8_sweetAt_15 : decode cX8_sweetAt 15 = .ok (.iconst 1, 1) := by decide +kernel
theorem dX8_sweetAt_16 : decode cX8_sweetAt 16 = .ok (.isub, 1) := by decide +kernel
theorem dX8_sweetAt_17 : decode cX8_sweetAt 17 = .ok (.goto 26, 3) := by decide +kernel
theorem dX8_sweetAt_20 : decode cX8_sweetAt 20 = .ok (.aload_n 0, 1) := by decide +kernel
theorem dX8_sweetAt_21 : decode cX8_sweetAt 21 = .ok (.getfield 27, 3) := by decide +kernel
theorem dX8_sweetAt_24 : decode cX8_sweetAt 24 = .ok (.iload_n 1, 1) := by decide +kernel
theorem dX8_sweetAt_25 : decode cX8_sweetAt 25 = .ok (.iaload, 1) := by decide +kernel
theorem dX8_sweetAt_26 : decode cX8_sweetAt 26 = .ok (.iconst 2, 1) := by decide +kernel
theorem dX8_sweetAt_27 : decode cX8_sweetAt 27 = .ok (.if_icmp .ne 15, 3) := by decide +kernel
theorem dX8_sweetAt_30 : decode cX8_sweetAt 30 = .ok (.iload_n 2, 1) := by decide +kernel
theorem dX8_sweetAt_31 : decode cX8_sweetAt 31 = .ok (.bipush 9, 2) := by decide +kernel
theorem dX8_sweetAt_33 : decode cX8_sweetAt 33 = .ok (.if_icmp .ge 9, 3) := by decide +kernel
theorem dX8_sweetAt_36 : decode cX8_sweetAt 36 = .ok (.iload_n 2, 1) := by decide +kernel
theorem dX8_sweetAt_37 : decode cX8_sweetAt 37 = .ok (.iconst 1, 1) := by decide +kernel
theorem dX8_sweetAt_38 : decode cX8_sweetAt 38 = .ok (.iadd, 1) := by decide +kernel
theorem dX8_sweetAt_39 : decode cX8_sweetAt 39 = .ok (.goto 4, 3) := by decide +kernel
theorem dX8_sweetAt_42 : decode cX8_sweetAt 42 = .ok (.iload_n 2, 1) := by decide +kernel
theorem dX8_sweetAt_43 : decode cX8_sweetAt 43 = .ok (.ireturn, 1) := by decide +kernel
theorem dX8_as_0 : decode cX8_as 0 = .ok (.aload_n 0, 1) := by decide +kernel
theorem dX8_as_1 : decode cX8_as 1 = .ok (.iload_n 1, 1) := by decide +kernel
theorem dX8_as_2 : decode cX8_as 2 = .ok (.invokevirtual 151, 3) := by decide +kernel
theorem dX8_as_5 : decode cX8_as 5 = .ok (.ifCond .ne 6, 3) := by decide +kernel
theorem dX8_as_8 : decode cX8_as 8 = .ok (.bipush (-2), 2) := by decide +kernel
theorem dX8_as_10 : decode cX8_as 10 = .ok (.ireturn, 1) := by decide +kernel
theorem dX8_as_11 : decode cX8_as 11 = .ok (.iload_n 2, 1) := by decide +kernel
theorem dX8_as_12 : decode cX8_as 12 = .ok (.i2l, 1) := by decide +kernel
theorem dX8_as_13 : decode cX8_as 13 = .ok (.lconst 0, 1) := by decide +kernel
theorem dX8_as_14 : decode cX8_as 14 = .ok (.ldc2_w 163, 3) := by decide +kernel
theorem dX8_as_17 : decode cX8_as 17 = .ok (.invokestatic 73, 3) := by decide +kernel
theorem dX8_as_20 : decode cX8_as 20 = .ok (.ifCond .ne 6, 3) := by decide +kernel
theorem dX8_as_23 : decode cX8_as 23 = .ok (.bipush (-3), 2) := by decide +kernel
theorem dX8_as_25 : decode cX8_as 25 = .ok (.ireturn, 1) := by decide +kernel
theorem dX8_as_26 : decode cX8_as 26 = .ok (.aload_n 0, 1) := by decide +kernel
theorem dX8_as_27 : decode cX8_as 27 = .ok (.getfield 27, 3) := by decide +kernel
theorem dX8_as_30 : decode cX8_as 30 = .ok (.iload_n 1, 1) := by decide +kernel
theorem dX8_as_31 : decode cX8_as 31 = .ok (.iaload, 1) := by decide +kernel
theorem dX8_as_32 : decode cX8_as 32 = .ok (.istore_n 3, 1) := by decide +kernel
theorem dX8_as_33 : decode cX8_as 33 = .ok (.iload_n 2, 1) := by decide +kernel
theorem dX8_as_34 : decode cX8_as 34 = .ok (.ifCond .eq 43, 3) := by decide +kernel
theorem dX8_as_37 : decode cX8_as 37 = .ok (.iload_n 2, 1) := by decide +kernel
theorem dX8_as_38 : decode cX8_as 38 = .ok (.iconst 1, 1) := by decide +kernel
theorem dX8_as_39 : decode cX8_as 39 = .ok (.if_icmp .ne 8, 3) := by decide +kernel
theorem dX8_as_42 : decode cX8_as 42 = .ok (.iload_n 3, 1) := by decide +kernel
theorem dX8_as_43 : decode cX8_as 43 = .ok (.iconst 3, 1) := by decide +kernel
theorem dX8_as_44 : decode cX8_as 44 = .ok (.if_icmp .ne 33, 3) := by decide +kernel
theorem dX8_as_47 : decode cX8_as 47 = .ok (.iload_n 2, 1) := by decide +kernel
theorem dX8_as_48 : decode cX8_as 48 = .ok (.iconst 2, 1) := by decide +kernel
theorem dX8_as_49 : decode cX8_as 49 = .ok (.if_icmp .ne 8, 3) := by decide +kernel
theorem dX8_as_52 : decode cX8_as 52 = .ok (.iload_n 3, 1) := by decide +kernel
theorem dX8_as_53 : decode cX8_as 53 = .ok (.iconst 1, 1) := by decide +kernel
theorem dX8_as_54 : decode cX8_as 54 = .ok (.if_icmp .eq 23, 3) := by decide +kernel
theorem dX8_as_57 : decode cX8_as 57 = .ok (.iload_n 2, 1) := by decide +kernel
theorem dX8_as_58 : decode cX8_as 58 = .ok (.iconst 3, 1) := by decide +kernel
theorem dX8_as_59 : decode cX8_as 59 = .ok (.if_icmp .ne 8, 3) := by decide +kernel
theorem dX8_as_62 : decode cX8_as 62 = .ok (.iload_n 3, 1) := by decide +kernel
theorem dX8_as_63 : decode cX8_as 63 = .ok (.iconst 2, 1) := by decide +kernel
theorem dX8_as_64 : decode cX8_as 64 = .ok (.if_icmp .eq 13, 3) := by decide +kernel
theorem dX8_as_67 : decode cX8_as 67 = .ok (.iload_n 2, 1) := by decide +kernel
theorem dX8_as_68 : decode cX8_as 68 = .ok (.iconst 4, 1) := by decide +kernel
theorem dX8_as_69 : decode cX8_as 69 = .ok (.if_icmp .ne 12, 3) := by decide +kernel
theorem dX8_as_72 : decode cX8_as 72 = .ok (.iload_n 3, 1) := by decide +kernel
theorem dX8_as_73 : decode cX8_as 73 = .ok (.iconst 3, 1) := by decide +kernel
theorem dX8_as_74 : decode cX8_as 74 = .ok (.if_icmp .ne 7, 3) := by decide +kernel
theorem dX8_as_77 : decode cX8_as 77 = .ok (.iconst 1, 1) := by decide +kernel
theorem dX8_as_78 : decode cX8_as 78 = .ok (.goto 4, 3) := by decide +kernel
theorem dX8_as_81 : decode cX8_as 81 = .ok (.iconst 0, 1) := by decide +kernel
theorem dX8_as_82 : decode cX8_as 82 = .ok (.istore 4, 2) := by decide +kernel
theorem dX8_as_84 : decode cX8_as 84 = .ok (.iload 4, 2) := by decide +kernel
theorem dX8_as_86 : decode cX8_as 86 = .ok (.ifCond .eq 12, 3) := by decide +kernel
theorem dX8_as_89 : decode cX8_as 89 = .ok (.aload_n 0, 1) := by decide +kernel
theorem dX8_as_90 : decode cX8_as 90 = .ok (.iload_n 1, 1) := by decide +kernel
theorem dX8_as_91 : decode cX8_as 91 = .ok (.iconst 5, 1) := by decide +kernel
theorem dX8_as_92 : decode cX8_as 92 = .ok (.invokevirtual 165, 3) := by decide +kernel
theorem dX8_as_95 : decode cX8_as 95 = .ok (.goto 5, 3) := by decide +kernel
theorem dX8_as_98 : decode cX8_as 98 = .ok (.bipush (-4), 2) := by decide +kernel
theorem dX8_as_100 : decode cX8_as 100 = .ok (.ireturn, 1) := by decide +kernel
theorem dX8_sweetest_0 : decode cX8_sweetest 0 = .ok (.iconst (-1), 1) := by decide +kernel
theorem dX8_sweetest_1 : decode cX8_sweetest 1 = .ok (.istore_n 3, 1) := by decide +kernel
theorem dX8_sweetest_2 : decode cX8_sweetest 2 = .ok (.iconst 0, 1) := by decide +kernel
theorem dX8_sweetest_3 : decode cX8_sweetest 3 = .ok (.istore 4, 2) := by decide +kernel
theorem dX8_sweetest_5 : decode cX8_sweetest 5 = .ok (.iconst 0, 1) := by decide +kernel
theorem dX8_sweetest_6 : decode cX8_sweetest 6 = .ok (.istore 5, 2) := by decide +kernel
theorem dX8_sweetest_8 : decode cX8_sweetest 8 = .ok (.iload 5, 2) := by decide +kernel
theorem dX8_sweetest_10 : decode cX8_sweetest 10 = .ok (.aload_n 0, 1) := by decide +kernel
theorem dX8_sweetest_11 : decode cX8_sweetest 11 = .ok (.getfield 64, 3) := by decide +kernel
theorem dX8_sweetest_14 : decode cX8_sweetest 14 = .ok (.if_icmp .ge 75, 3) := by decide +kernel
theorem dX8_sweetest_17 : decode cX8_sweetest 17 = .ok (.aload_n 0, 1) := by decide +kernel
theorem dX8_sweetest_18 : decode cX8_sweetest 18 = .ok (.getfield 7, 3) := by decide +kernel
theorem dX8_sweetest_21 : decode cX8_sweetest 21 = .ok (.iload_n 1, 1) := by decide +kernel
theorem dX8_sweetest_22 : decode cX8_sweetest 22 = .ok (.bipush 15, 2) := by decide +kernel
theorem dX8_sweetest_24 : decode cX8_sweetest 24 = .ok (.iadd, 1) := by decide +kernel
theorem dX8_sweetest_25 : decode cX8_sweetest 25 = .ok (.iload 5, 2) := by decide +kernel
theorem dX8_sweetest_27 : decode cX8_sweetest 27 = .ok (.iadd, 1) := by decide +kernel
theorem dX8_sweetest_28 : decode cX8_sweetest 28 = .ok (.iaload, 1) := by decide +kernel
theorem dX8_sweetest_29 : decode cX8_sweetest 29 = .ok (.iload_n 2, 1) := by decide +kernel
theorem dX8_sweetest_30 : decode cX8_sweetest 30 = .ok (.if_icmp .ne 53, 3) := by decide +kernel
theorem dX8_sweetest_33 : decode cX8_sweetest 33 = .ok (.aload_n 0, 1) := by decide +kernel
theorem dX8_sweetest_34 : decode cX8_sweetest 34 = .ok (.getfield 7, 3) := by decide +kernel
theorem dX8_sweetest_37 : decode cX8_sweetest 37 = .ok (.iload_n 1, 1) := by decide +kernel
theorem dX8_sweetest_38 : decode cX8_sweetest 38 = .ok (.bipush 33, 2) := by decide +kernel
theorem dX8_sweetest_40 : decode cX8_sweetest 40 = .ok (.iadd, 1) := by decide +kernel
theorem dX8_sweetest_41 : decode cX8_sweetest 41 = .ok (.iload 5, 2) := by decide +kernel
theorem dX8_sweetest_43 : decode cX8_sweetest 43 = .ok (.iadd, 1) := by decide +kernel
theorem dX8_sweetest_44 : decode cX8_sweetest 44 = .ok (.iaload, 1) := by decide +kernel
theorem dX8_sweetest_45 : decode cX8_sweetest 45 = .ok (.iconst (-1), 1) := by decide +kernel
theorem dX8_sweetest_46 : decode cX8_sweetest 46 = .ok (.if_icmp .ne 37, 3) := by decide +kernel
theorem dX8_sweetest_49 : decode cX8_sweetest 49 = .ok (.aload_n 0, 1) := by decide +kernel
theorem dX8_sweetest_50 : decode cX8_sweetest 50 = .ok (.getfield 7, 3) := by decide +kernel
theorem dX8_sweetest_53 : decode cX8_sweetest 53 = .ok (.iload_n 1, 1) := by decide +kernel
theorem dX8_sweetest_54 : decode cX8_sweetest 54 = .ok (.bipush 21, 2) := by decide +kernel
theorem dX8_sweetest_56 : decode cX8_sweetest 56 = .ok (.iadd, 1) := by decide +kernel
theorem dX8_sweetest_57 : decode cX8_sweetest 57 = .ok (.iload 5, 2) := by decide +kernel
theorem dX8_sweetest_59 : decode cX8_sweetest 59 = .ok (.iadd, 1) := by decide +kernel
theorem dX8_sweetest_60 : decode cX8_sweetest 60 = .ok (.iaload, 1) := by decide +kernel
theorem dX8_sweetest_61 : decode cX8_sweetest 61 = .ok (.iload 4, 2) := by decide +kernel
theorem dX8_sweetest_63 : decode cX8_sweetest 63 = .ok (.if_icmp .le 20, 3) := by decide +kernel
theorem dX8_sweetest_66 : decode cX8_sweetest 66 = .ok (.iload 5, 2) := by decide +kernel
theorem dX8_sweetest_68 : decode cX8_sweetest 68 = .ok (.istore_n 3, 1) := by decide +kernel
theorem dX8_sweetest_69 : decode cX8_sweetest 69 = .ok (.aload_n 0, 1) := by decide +kernel
theorem dX8_sweetest_70 : decode cX8_sweetest 70 = .ok (.getfield 7, 3) := by decide +kernel
theorem dX8_sweetest_73 : decode cX8_sweetest 73 = .ok (.iload_n 1, 1) := by decide +kernel
theorem dX8_sweetest_74 : decode cX8_sweetest 74 = .ok (.bipush 21, 2) := by decide +kernel
theorem dX8_sweetest_76 : decode cX8_sweetest 76 = .ok (.iadd, 1) := by decide +kernel
theorem dX8_sweetest_77 : decode cX8_sweetest 77 = .ok (.iload 5, 2) := by decide +kernel
theorem dX8_sweetest_79 : decode cX8_sweetest 79 = .ok (.iadd, 1) := by decide +kernel
theorem dX8_sweetest_80 : decode cX8_sweetest 80 = .ok (.iaload, 1) := by decide +kernel
theorem dX8_sweetest_81 : decode cX8_sweetest 81 = .ok (.istore 4, 2) := by decide +kernel
theorem dX8_sweetest_83 : decode cX8_sweetest 83 = .ok (.iinc 5 1, 3) := by decide +kernel
theorem dX8_sweetest_86 : decode cX8_sweetest 86 = .ok (.goto (-78), 3) := by decide +kernel
theorem dX8_sweetest_89 : decode cX8_sweetest 89 = .ok (.iload_n 3, 1) := by decide +kernel
theorem dX8_sweetest_90 : decode cX8_sweetest 90 = .ok (.ireturn, 1) := by decide +kernel
theorem dX8_strongest_0 : decode cX8_strongest 0 = .ok (.iconst (-1), 1) := by decide +kernel
theorem dX8_strongest_1 : decode cX8_strongest 1 = .ok (.istore 4, 2) := by decide +kernel
theorem dX8_strongest_3 : decode cX8_strongest 3 = .ok (.iconst (-1), 1) := by decide +kernel
theorem dX8_strongest_4 : decode cX8_strongest 4 = .ok (.istore 5, 2) := by decide +kernel
theorem dX8_strongest_6 : decode cX8_strongest 6 = .ok (.iconst 0, 1) := by decide +kernel
theorem dX8_strongest_7 : decode cX8_strongest 7 = .ok (.istore 6, 2) := by decide +kernel
theorem dX8_strongest_9 : decode cX8_strongest 9 = .ok (.iconst 0, 1) := by decide +kernel
theorem dX8_strongest_10 : decode cX8_strongest 10 = .ok (.istore 7, 2) := by decide +kernel
theorem dX8_strongest_12 : decode cX8_strongest 12 = .ok (.iload 7, 2) := by decide +kernel
theorem dX8_strongest_14 : decode cX8_strongest 14 = .ok (.aload_n 0, 1) := by decide +kernel
theorem dX8_strongest_15 : decode cX8_strongest 15 = .ok (.getfield 61, 3) := by decide +kernel
theorem dX8_strongest_18 : decode cX8_strongest 18 = .ok (.if_icmp .ge 86, 3) := by decide +kernel
theorem dX8_strongest_21 : decode cX8_strongest 21 = .ok (.iload 6, 2) := by decide +kernel
theorem dX8_strongest_23 : decode cX8_strongest 23 = .ok (.ifCond .ne 19, 3) := by decide +kernel
theorem dX8_strongest_26 : decode cX8_strongest 26 = .ok (.iload 7, 2) := by decide +kernel
theorem dX8_strongest_28 : decode cX8_strongest 28 = .ok (.iload_n 3, 1) := by decide +kernel
theorem dX8_strongest_29 : decode cX8_strongest 29 = .ok (.if_icmp .ne 17, 3) := by decide +kernel
theorem dX8_strongest_32 : decode cX8_strongest 32 = .ok (.aload_n 0, 1) := by decide +kernel
theorem dX8_strongest_33 : decode cX8_strongest 33 = .ok (.iload 7, 2) := by decide +kernel
theorem dX8_strongest_35 : decode cX8_strongest 35 = .ok (.iload_n 2, 1) := by decide +kernel
theorem dX8_strongest_36 : decode cX8_strongest 36 = .ok (.invokevirtual 154, 3) := by decide +kernel
theorem dX8_strongest_39 : decode cX8_strongest 39 = .ok (.ifCond .eq 7, 3) := by decide +kernel
theorem dX8_strongest_42 : decode cX8_strongest 42 = .ok (.iconst 1, 1) := by decide +kernel
theorem dX8_strongest_43 : decode cX8_strongest 43 = .ok (.goto 4, 3) := by decide +kernel
theorem dX8_strongest_46 : decode cX8_strongest 46 = .ok (.iconst 0, 1) := by decide +kernel
theorem dX8_strongest_47 : decode cX8_strongest 47 = .ok (.istore 6, 2) := by decide +kernel
theorem dX8_strongest_49 : decode cX8_strongest 49 = .ok (.aload_n 0, 1) := by decide +kernel
theorem dX8_strongest_50 : decode cX8_strongest 50 = .ok (.iload 7, 2) := by decide +kernel
theorem dX8_strongest_52 : decode cX8_strongest 52 = .ok (.iload_n 2, 1) := by decide +kernel
theorem dX8_strongest_53 : decode cX8_strongest 53 = .ok (.invokevirtual 154, 3) := by decide +kernel
theorem dX8_strongest_56 : decode cX8_strongest 56 = .ok (.ifCond .eq 42, 3) := by decide +kernel
theorem dX8_strongest_59 : decode cX8_strongest 59 = .ok (.iload 7, 2) := by decide +kernel
theorem dX8_strongest_61 : decode cX8_strongest 61 = .ok (.iload_n 3, 1) := by decide +kernel
theorem dX8_strongest_62 : decode cX8_strongest 62 = .ok (.if_icmp .eq 36, 3) := by decide +kernel
theorem dX8_strongest_65 : decode cX8_strongest 65 = .ok (.aload_n 0, 1) := by decide +kernel
theorem dX8_strongest_66 : decode cX8_strongest 66 = .ok (.getfield 7, 3) := by decide +kernel
theorem dX8_strongest_69 : decode cX8_strongest 69 = .ok (.iload_n 1, 1) := by decide +kernel
theorem dX8_strongest_70 : decode cX8_strongest 70 = .ok (.iconst 3, 1) := by decide +kernel
theorem dX8_strongest_71 : decode cX8_strongest 71 = .ok (.iadd, 1) := by decide +kernel
theorem dX8_strongest_72 : decode cX8_strongest 72 = .ok (.iload 7, 2) := by decide +kernel
theorem dX8_strongest_74 : decode cX8_strongest 74 = .ok (.iadd, 1) := by decide +kernel
theorem dX8_strongest_75 : decode cX8_strongest 75 = .ok (.iaload, 1) := by decide +kernel
theorem dX8_strongest_76 : decode cX8_strongest 76 = .ok (.iload 5, 2) := by decide +kernel
theorem dX8_strongest_78 : decode cX8_strongest 78 = .ok (.if_icmp .le 20, 3) := by decide +kernel
theorem dX8_strongest_81 : decode cX8_strongest 81 = .ok (.iload 7, 2) := by decide +kernel
theorem dX8_strongest_83 : decode cX8_strongest 83 = .ok (.istore 4, 2) := by decide +kernel
theorem dX8_strongest_85 : decode cX8_strongest 85 = .ok (.aload_n 0, 1) := by decide +kernel
theorem dX8_strongest_86 : decode cX8_strongest 86 = .ok (.getfield 7, 3) := by decide +kernel
theorem dX8_strongest_89 : decode cX8_strongest 89 = .ok (.iload_n 1, 1) := by decide +kernel
theorem dX8_strongest_90 : decode cX8_strongest 90 = .ok (.iconst 3, 1) := by decide +kernel
theorem dX8_strongest_91 : decode cX8_strongest 91 = .ok (.iadd, 1) := by decide +kernel
theorem dX8_strongest_92 : decode cX8_strongest 92 = .ok (.iload 7, 2) := by decide +kernel
theorem dX8_strongest_94 : decode cX8_strongest 94 = .ok (.iadd, 1) := by decide +kernel
theorem dX8_strongest_95 : decode cX8_strongest 95 = .ok (.iaload, 1) := by decide +kernel
theorem dX8_strongest_96 : decode cX8_strongest 96 = .ok (.istore 5, 2) := by decide +kernel
theorem dX8_strongest_98 : decode cX8_strongest 98 = .ok (.iinc 7 1, 3) := by decide +kernel
theorem dX8_strongest_101 : decode cX8_strongest 101 = .ok (.goto (-89), 3) := by decide +kernel
theorem dX8_strongest_104 : decode cX8_strongest 104 = .ok (.iload 4, 2) := by decide +kernel
theorem dX8_strongest_106 : decode cX8_strongest 106 = .ok (.iconst (-1), 1) := by decide +kernel
theorem dX8_strongest_107 : decode cX8_strongest 107 = .ok (.if_icmp .ne 12, 3) := by decide +kernel
theorem dX8_strongest_110 : decode cX8_strongest 110 = .ok (.iload 6, 2) := by decide +kernel
theorem dX8_strongest_112 : decode cX8_strongest 112 = .ok (.ifCond .eq 7, 3) := by decide +kernel
theorem dX8_strongest_115 : decode cX8_strongest 115 = .ok (.iload_n 3, 1) := by decide +kernel
theorem dX8_strongest_116 : decode cX8_strongest 116 = .ok (.goto 5, 3) := by decide +kernel
theorem dX8_strongest_119 : decode cX8_strongest 119 = .ok (.iload 4, 2) := by decide +kernel
theorem dX8_strongest_121 : decode cX8_strongest 121 = .ok (.ireturn, 1) := by decide +kernel
theorem dX8_layCarried_0 : decode cX8_layCarried 0 = .ok (.iconst 0, 1) := by decide +kernel
theorem dX8_layCarried_1 : decode cX8_layCarried 1 = .ok (.istore_n 2, 1) := by decide +kernel
theorem dX8_layCarried_2 : decode cX8_layCarried 2 = .ok (.iload_n 2, 1) := by decide +kernel
theorem dX8_layCarried_3 : decode cX8_layCarried 3 = .ok (.bipush 6, 2) := by decide +kernel
theorem dX8_layCarried_5 : decode cX8_layCarried 5 = .ok (.if_icmp .ge 16, 3) := by decide +kernel
theorem dX8_layCarried_8 : decode cX8_layCarried 8 = .ok (.aload_n 0, 1) := by decide +kernel
theorem dX8_layCarried_9 : decode cX8_layCarried 9 = .ok (.getfield 42, 3) := by decide +kernel
theorem dX8_layCarried_12 : decode cX8_layCarried 12 = .ok (.iload_n 2, 1) := by decide +kernel
theorem dX8_layCarried_13 : decode cX8_layCarried 13 = .ok (.iconst (-1), 1) := by decide +kernel
theorem dX8_layCarried_14 : decode cX8_layCarried 14 = .ok (.iastore, 1) := by decide +kernel
theorem dX8_layCarried_15 : decode cX8_layCarried 15 = .ok (.iinc 2 1, 3) := by decide +kernel
theorem dX8_layCarried_18 : decode cX8_layCarried 18 = .ok (.goto (-16), 3) := by decide +kernel
theorem dX8_layCarried_21 : decode cX8_layCarried 21 = .ok (.iconst 0, 1) := by decide +kernel
theorem dX8_layCarried_22 : decode cX8_layCarried 22 = .ok (.istore_n 2, 1) := by decide +kernel
theorem dX8_layCarried_23 : decode cX8_layCarried 23 = .ok (.iload_n 2, 1) := by decide +kernel
theorem dX8_layCarried_24 : decode cX8_layCarried 24 = .ok (.aload_n 0, 1) := by decide +kernel
theorem dX8_layCarried_25 : decode cX8_layCarried 25 = .ok (.getfield 23, 3) := by decide +kernel
theorem dX8_layCarried_28 : decode cX8_layCarried 28 = .ok (.if_icmp .ge 81, 3) := by decide +kernel
theorem dX8_layCarried_31 : decode cX8_layCarried 31 = .ok (.aload_n 0, 1) := by decide +kernel
theorem dX8_layCarried_32 : decode cX8_layCarried 32 = .ok (.getfield 7, 3) := by decide +kernel
theorem dX8_layCarried_35 : decode cX8_layCarried 35 = .ok (.iload_n 1, 1) := by decide +kernel
theorem dX8_layCarried_36 : decode cX8_layCarried 36 = .ok (.iconst 1, 1) := by decide +kernel
theorem dX8_layCarried_37 : decode cX8_layCarried 37 = .ok (.iadd, 1) := by decide +kernel
theorem dX8_layCarried_38 : decode cX8_layCarried 38 = .ok (.iaload, 1) := by decide +kernel
theorem dX8_layCarried_39 : decode cX8_layCarried 39 = .ok (.ifCond .ne 70, 3) := by decide +kernel
theorem dX8_layCarried_42 : decode cX8_layCarried 42 = .ok (.aload_n 0, 1) := by decide +kernel
theorem dX8_layCarried_43 : decode cX8_layCarried 43 = .ok (.getfield 27, 3) := by decide +kernel
theorem dX8_layCarried_46 : decode cX8_layCarried 46 = .ok (.iload_n 2, 1) := by decide +kernel
theorem dX8_layCarried_47 : decode cX8_layCarried 47 = .ok (.iaload, 1) := by decide +kernel
theorem dX8_layCarried_48 : decode cX8_layCarried 48 = .ok (.iconst 3, 1) := by decide +kernel
theorem dX8_layCarried_49 : decode cX8_layCarried 49 = .ok (.if_icmp .eq 15, 3) := by decide +kernel
theorem dX8_layCarried_52 : decode cX8_layCarried 52 = .ok (.aload_n 0, 1) := by decide +kernel
theorem dX8_layCarried_53 : decode cX8_layCarried 53 = .ok (.getfield 7, 3) := by decide +kernel
theorem dX8_layCarried_56 : decode cX8_layCarried 56 = .ok (.iload_n 1, 1) := by decide +kernel
theorem dX8_layCarried_57 : decode cX8_layCarried 57 = .ok (.iconst 2, 1) := by decide +kernel
theorem dX8_layCarried_58 : decode cX8_layCarried 58 = .ok (.iadd, 1) := by decide +kernel
theorem dX8_layCarried_59 : decode cX8_layCarried 59 = .ok (.iaload, 1) := by decide +kernel
theorem dX8_layCarried_60 : decode cX8_layCarried 60 = .ok (.iload_n 2, 1) := by decide +kernel
theorem dX8_layCarried_61 : decode cX8_layCarried 61 = .ok (.if_icmp .ne 7, 3) := by decide +kernel
theorem dX8_layCarried_64 : decode cX8_layCarried 64 = .ok (.iconst (-1), 1) := by decide +kernel
theorem dX8_layCarried_65 : decode cX8_layCarried 65 = .ok (.goto 9, 3) := by decide +kernel
theorem dX8_layCarried_68 : decode cX8_layCarried 68 = .ok (.aload_n 0, 1) := by decide +kernel
theorem dX8_layCarried_69 : decode cX8_layCarried 69 = .ok (.iload_n 1, 1) := by decide +kernel
theorem dX8_layCarried_70 : decode cX8_layCarried 70 = .ok (.iload_n 2, 1) := by decide +kernel
theorem dX8_layCarried_71 : decode cX8_layCarried 71 = .ok (.invokevirtual 169, 3) := by decide +kernel
theorem dX8_layCarried_74 : decode cX8_layCarried 74 = .ok (.istore_n 3, 1) := by decide +kernel
theorem dX8_layCarried_75 : decode cX8_layCarried 75 = .ok (.iload_n 3, 1) := by decide +kernel
theorem dX8_layCarried_76 : decode cX8_layCarried 76 = .ok (.iconst (-1), 1) := by decide +kernel
theorem dX8_layCarried_77 : decode cX8_layCarried 77 = .ok (.if_icmp .eq 26, 3) := by decide +kernel
theorem dX8_layCarried_80 : decode cX8_layCarried 80 = .ok (.aload_n 0, 1) := by decide +kernel
theorem dX8_layCarried_81 : decode cX8_layCarried 81 = .ok (.getfield 42, 3) := by decide +kernel
theorem dX8_layCarried_84 : decode cX8_layCarried 84 = .ok (.iload_n 3, 1) := by decide +kernel
theorem dX8_layCarried_85 : decode cX8_layCarried 85 = .ok (.aload_n 0, 1) := by decide +kernel
theorem dX8_layCarried_86 : decode cX8_layCarried 86 = .ok (.iload_n 1, 1) := by decide +kernel
theorem dX8_layCarried_87 : decode cX8_layCarried 87 = .ok (.iload_n 2, 1) := by decide +kernel
theorem dX8_layCarried_88 : decode cX8_layCarried 88 = .ok (.aload_n 0, 1) := by decide +kernel
theorem dX8_layCarried_89 : decode cX8_layCarried 89 = .ok (.getfield 7, 3) := by decide +kernel
theorem dX8_layCarried_92 : decode cX8_layCarried 92 = .ok (.iload_n 1, 1) := by decide +kernel
theorem dX8_layCarried_93 : decode cX8_layCarried 93 = .ok (.bipush 27, 2) := by decide +kernel
theorem dX8_layCarried_95 : decode cX8_layCarried 95 = .ok (.iadd, 1) := by decide +kernel
theorem dX8_layCarried_96 : decode cX8_layCarried 96 = .ok (.iload_n 3, 1) := by decide +kernel
theorem dX8_layCarried_97 : decode cX8_layCarried 97 = .ok (.iadd, 1) := by decide +kernel
theorem dX8_layCarried_98 : decode cX8_layCarried 98 = .ok (.iaload, 1) := by decide +kernel
theorem dX8_layCarried_99 : decode cX8_layCarried 99 = .ok (.invokevirtual 172, 3) := by decide +kernel
theorem dX8_layCarried_102 : decode cX8_layCarried 102 = .ok (.iastore, 1) := by decide +kernel
theorem dX8_layCarried_103 : decode cX8_layCarried 103 = .ok (.iinc 2 1, 3) := by decide +kernel
theorem dX8_layCarried_106 : decode cX8_layCarried 106 = .ok (.goto (-83), 3) := by decide +kernel
theorem dX8_layCarried_109 : decode cX8_layCarried 109 = .ok (.return_, 1) := by decide +kernel
theorem dX8_arrive_0 : decode cX8_arrive 0 = .ok (.aload_n 0, 1) := by decide +kernel
theorem dX8_arrive_1 : decode cX8_arrive 1 = .ok (.getfield 30, 3) := by decide +kernel
theorem dX8_arrive_4 : decode cX8_arrive 4 = .ok (.iload_n 3, 1) := by decide +kernel
theorem dX8_arrive_5 : decode cX8_arrive 5 = .ok (.iaload, 1) := by decide +kernel
theorem dX8_arrive_6 : decode cX8_arrive 6 = .ok (.aload_n 0, 1) := by decide +kernel
theorem dX8_arrive_7 : decode cX8_arrive 7 = .ok (.getfield 7, 3) := by decide +kernel
theorem dX8_arrive_10 : decode cX8_arrive 10 = .ok (.iload_n 1, 1) := by decide +kernel
theorem dX8_arrive_11 : decode cX8_arrive 11 = .ok (.bipush 15, 2) := by decide +kernel
theorem dX8_arrive_13 : decode cX8_arrive 13 = .ok (.iadd, 1) := by decide +kernel
theorem dX8_arrive_14 : decode cX8_arrive 14 = .ok (.iload_n 2, 1) := by decide +kernel
theorem dX8_arrive_15 : decode cX8_arrive 15 = .ok (.iadd, 1) := by decide +kernel
theorem dX8_arrive_16 : decode cX8_arrive 16 = .ok (.iaload, 1) := by decide +kernel
theorem dX8_arrive_17 : decode cX8_arrive 17 = .ok (.if_icmp .ne 12, 3) := by decide +kernel
theorem dX8_arrive_20 : decode cX8_arrive 20 = .ok (.aload_n 0, 1) := by decide +kernel
theorem dX8_arrive_21 : decode cX8_arrive 21 = .ok (.getfield 33, 3) := by decide +kernel
theorem dX8_arrive_24 : decode cX8_arrive 24 = .ok (.iload_n 3, 1) := by decide +kernel
theorem dX8_arrive_25 : decode cX8_arrive 25 = .ok (.iaload, 1) := by decide +kernel
theorem dX8_arrive_26 : decode cX8_arrive 26 = .ok (.goto 9, 3) := by decide +kernel
theorem dX8_arrive_29 : decode cX8_arrive 29 = .ok (.aload_n 0, 1) := by decide +kernel
theorem dX8_arrive_30 : decode cX8_arrive 30 = .ok (.getfield 30, 3) := by decide +kernel
theorem dX8_arrive_33 : decode cX8_arrive 33 = .ok (.iload_n 3, 1) := by decide +kernel
theorem dX8_arrive_34 : decode cX8_arrive 34 = .ok (.iaload, 1) := by decide +kernel
theorem dX8_arrive_35 : decode cX8_arrive 35 = .ok (.istore 4, 2) := by decide +kernel
theorem dX8_arrive_37 : decode cX8_arrive 37 = .ok (.aload_n 0, 1) := by decide +kernel
theorem dX8_arrive_38 : decode cX8_arrive 38 = .ok (.getfield 7, 3) := by decide +kernel
theorem dX8_arrive_41 : decode cX8_arrive 41 = .ok (.iload_n 1, 1) := by decide +kernel
theorem dX8_arrive_42 : decode cX8_arrive 42 = .ok (.bipush 15, 2) := by decide +kernel
theorem dX8_arrive_44 : decode cX8_arrive 44 = .ok (.iadd, 1) := by decide +kernel
theorem dX8_arrive_45 : decode cX8_arrive 45 = .ok (.iload_n 2, 1) := by decide +kernel
theorem dX8_arrive_46 : decode cX8_arrive 46 = .ok (.iadd, 1) := by decide +kernel
theorem dX8_arrive_47 : decode cX8_arrive 47 = .ok (.iload 4, 2) := by decide +kernel
theorem dX8_arrive_49 : decode cX8_arrive 49 = .ok (.iastore, 1) := by decide +kernel
theorem dX8_arrive_50 : decode cX8_arrive 50 = .ok (.aload_n 0, 1) := by decide +kernel
theorem dX8_arrive_51 : decode cX8_arrive 51 = .ok (.getfield 7, 3) := by decide +kernel
theorem dX8_arrive_54 : decode cX8_arrive 54 = .ok (.iload_n 1, 1) := by decide +kernel
theorem dX8_arrive_55 : decode cX8_arrive 55 = .ok (.bipush 27, 2) := by decide +kernel
theorem dX8_arrive_57 : decode cX8_arrive 57 = .ok (.iadd, 1) := by decide +kernel
theorem dX8_arrive_58 : decode cX8_arrive 58 = .ok (.iload_n 2, 1) := by decide +kernel
theorem dX8_arrive_59 : decode cX8_arrive 59 = .ok (.iadd, 1) := by decide +kernel
theorem dX8_arrive_60 : decode cX8_arrive 60 = .ok (.iload_n 3, 1) := by decide +kernel
theorem dX8_arrive_61 : decode cX8_arrive 61 = .ok (.iastore, 1) := by decide +kernel
theorem dX8_arrive_62 : decode cX8_arrive 62 = .ok (.aload_n 0, 1) := by decide +kernel
theorem dX8_arrive_63 : decode cX8_arrive 63 = .ok (.getfield 7, 3) := by decide +kernel
theorem dX8_arrive_66 : decode cX8_arrive 66 = .ok (.iload_n 1, 1) := by decide +kernel
theorem dX8_arrive_67 : decode cX8_arrive 67 = .ok (.bipush 21, 2) := by decide +kernel
theorem dX8_arrive_69 : decode cX8_arrive 69 = .ok (.iadd, 1) := by decide +kernel
theorem dX8_arrive_70 : decode cX8_arrive 70 = .ok (.iload_n 2, 1) := by decide +kernel
theorem dX8_arrive_71 : decode cX8_arrive 71 = .ok (.iadd, 1) := by decide +kernel
theorem dX8_arrive_72 : decode cX8_arrive 72 = .ok (.aload_n 0, 1) := by decide +kernel
theorem dX8_arrive_73 : decode cX8_arrive 73 = .ok (.iload 4, 2) := by decide +kernel
theorem dX8_arrive_75 : decode cX8_arrive 75 = .ok (.aload_n 0, 1) := by decide +kernel
theorem dX8_arrive_76 : decode cX8_arrive 76 = .ok (.getfield 7, 3) := by decide +kernel
theorem dX8_arrive_79 : decode cX8_arrive 79 = .ok (.iload_n 1, 1) := by decide +kernel
theorem dX8_arrive_80 : decode cX8_arrive 80 = .ok (.bipush 21, 2) := by decide +kernel
theorem dX8_arrive_82 : decode cX8_arrive 82 = .ok (.iadd, 1) := by decide +kernel
theorem dX8_arrive_83 : decode cX8_arrive 83 = .ok (.iload_n 2, 1) := by decide +kernel
theorem dX8_arrive_84 : decode cX8_arrive 84 = .ok (.iadd, 1) := by decide +kernel
theorem dX8_arrive_85 : decode cX8_arrive 85 = .ok (.iaload, 1) := by decide +kernel
theorem dX8_arrive_86 : decode cX8_arrive 86 = .ok (.invokevirtual 165, 3) := by decide +kernel
theorem dX8_arrive_89 : decode cX8_arrive 89 = .ok (.iastore, 1) := by decide +kernel
theorem dX8_arrive_90 : decode cX8_arrive 90 = .ok (.aload_n 0, 1) := by decide +kernel
theorem dX8_arrive_91 : decode cX8_arrive 91 = .ok (.getfield 7, 3) := by decide +kernel
theorem dX8_arrive_94 : decode cX8_arrive 94 = .ok (.iload_n 1, 1) := by decide +kernel
theorem dX8_arrive_95 : decode cX8_arrive 95 = .ok (.bipush 33, 2) := by decide +kernel
theorem dX8_arrive_97 : decode cX8_arrive 97 = .ok (.iadd, 1) := by decide +kernel
theorem dX8_arrive_98 : decode cX8_arrive 98 = .ok (.iload_n 2, 1) := by decide +kernel
theorem dX8_arrive_99 : decode cX8_arrive 99 = .ok (.iadd, 1) := by decide +kernel
theorem dX8_arrive_100 : decode cX8_arrive 100 = .ok (.iload 4, 2) := by decide +kernel
theorem dX8_arrive_102 : decode cX8_arrive 102 = .ok (.aload_n 0, 1) := by decide +kernel
theorem dX8_arrive_103 : decode cX8_arrive 103 = .ok (.getfield 36, 3) := by decide +kernel
theorem dX8_arrive_106 : decode cX8_arrive 106 = .ok (.iload_n 2, 1) := by decide +kernel
theorem dX8_arrive_107 : decode cX8_arrive 107 = .ok (.iaload, 1) := by decide +kernel
theorem dX8_arrive_108 : decode cX8_arrive 108 = .ok (.if_icmp .ne 14, 3) := by decide +kernel
theorem dX8_arrive_111 : decode cX8_arrive 111 = .ok (.aload_n 0, 1) := by decide +kernel
theorem dX8_arrive_112 : decode cX8_arrive 112 = .ok (.getfield 7, 3) := by decide +kernel
theorem dX8_arrive_115 : decode cX8_arrive 115 = .ok (.iload_n 1, 1) := by decide +kernel
theorem dX8_arrive_116 : decode cX8_arrive 116 = .ok (.iconst 0, 1) := by decide +kernel
theorem dX8_arrive_117 : decode cX8_arrive 117 = .ok (.iadd, 1) := by decide +kernel
theorem dX8_arrive_118 : decode cX8_arrive 118 = .ok (.iaload, 1) := by decide +kernel
theorem dX8_arrive_119 : decode cX8_arrive 119 = .ok (.goto 4, 3) := by decide +kernel
theorem dX8_arrive_122 : decode cX8_arrive 122 = .ok (.iconst (-1), 1) := by decide +kernel
theorem dX8_arrive_123 : decode cX8_arrive 123 = .ok (.iastore, 1) := by decide +kernel
theorem dX8_arrive_124 : decode cX8_arrive 124 = .ok (.return_, 1) := by decide +kernel
theorem dX8_minute_0 : decode cX8_minute 0 = .ok (.aload_n 0, 1) := by decide +kernel
theorem dX8_minute_1 : decode cX8_minute 1 = .ok (.iload_n 1, 1) := by decide +kernel
theorem dX8_minute_2 : decode cX8_minute 2 = .ok (.invokevirtual 176, 3) := by decide +kernel
end
section
theorem dX8_minute_5 : decode cX8_minute 5 = .ok (.aload_n 0, 1) := by decide +kernel
theorem dX8_minute_6 : decode cX8_minute 6 = .ok (.getfield 7, 3) := by decide +kernel
theorem dX8_minute_9 : decode cX8_minute 9 = .ok (.iload_n 1, 1) := by decide +kernel
theorem dX8_minute_10 : decode cX8_minute 10 = .ok (.iconst 1, 1) := by decide +kernel
theorem dX8_minute_11 : decode cX8_minute 11 = .ok (.iadd, 1) := by decide +kernel
theorem dX8_minute_12 : decode cX8_minute 12 = .ok (.dup2, 1) := by decide +kernel
theorem dX8_minute_13 : decode cX8_minute 13 = .ok (.iaload, 1) := by decide +kernel
theorem dX8_minute_14 : decode cX8_minute 14 = .ok (.aload_n 0, 1) := by decide +kernel
theorem dX8_minute_15 : decode cX8_minute 15 = .ok (.getfield 7, 3) := by decide +kernel
theorem dX8_minute_18 : decode cX8_minute 18 = .ok (.iload_n 1, 1) := by decide +kernel
theorem dX8_minute_19 : decode cX8_minute 19 = .ok (.iconst 1, 1) := by decide +kernel
theorem dX8_minute_20 : decode cX8_minute 20 = .ok (.iadd, 1) := by decide +kernel
theorem dX8_minute_21 : decode cX8_minute 21 = .ok (.iaload, 1) := by decide +kernel
theorem dX8_minute_22 : decode cX8_minute 22 = .ok (.ifCond .le 7, 3) := by decide +kernel
theorem dX8_minute_25 : decode cX8_minute 25 = .ok (.iconst 1, 1) := by decide +kernel
theorem dX8_minute_26 : decode cX8_minute 26 = .ok (.goto 4, 3) := by decide +kernel
theorem dX8_minute_29 : decode cX8_minute 29 = .ok (.iconst 0, 1) := by decide +kernel
theorem dX8_minute_30 : decode cX8_minute 30 = .ok (.isub, 1) := by decide +kernel
theorem dX8_minute_31 : decode cX8_minute 31 = .ok (.iastore, 1) := by decide +kernel
theorem dX8_minute_32 : decode cX8_minute 32 = .ok (.iconst 0, 1) := by decide +kernel
theorem dX8_minute_33 : decode cX8_minute 33 = .ok (.istore_n 2, 1) := by decide +kernel
theorem dX8_minute_34 : decode cX8_minute 34 = .ok (.iload_n 2, 1) := by decide +kernel
theorem dX8_minute_35 : decode cX8_minute 35 = .ok (.aload_n 0, 1) := by decide +kernel
theorem dX8_minute_36 : decode cX8_minute 36 = .ok (.getfield 64, 3) := by decide +kernel
theorem dX8_minute_39 : decode cX8_minute 39 = .ok (.if_icmp .ge 48, 3) := by decide +kernel
theorem dX8_minute_42 : decode cX8_minute 42 = .ok (.aload_n 0, 1) := by decide +kernel
theorem dX8_minute_43 : decode cX8_minute 43 = .ok (.getfield 42, 3) := by decide +kernel
theorem dX8_minute_46 : decode cX8_minute 46 = .ok (.iload_n 2, 1) := by decide +kernel
theorem dX8_minute_47 : decode cX8_minute 47 = .ok (.iaload, 1) := by decide +kernel
theorem dX8_minute_48 : decode cX8_minute 48 = .ok (.iconst (-1), 1) := by decide +kernel
theorem dX8_minute_49 : decode cX8_minute 49 = .ok (.if_icmp .eq 32, 3) := by decide +kernel
theorem dX8_minute_52 : decode cX8_minute 52 = .ok (.aload_n 0, 1) := by decide +kernel
theorem dX8_minute_53 : decode cX8_minute 53 = .ok (.getfield 7, 3) := by decide +kernel
theorem dX8_minute_56 : decode cX8_minute 56 = .ok (.iload_n 1, 1) := by decide +kernel
theorem dX8_minute_57 : decode cX8_minute 57 = .ok (.iconst 3, 1) := by decide +kernel
theorem dX8_minute_58 : decode cX8_minute 58 = .ok (.iadd, 1) := by decide +kernel
theorem dX8_minute_59 : decode cX8_minute 59 = .ok (.aload_n 0, 1) := by decide +kernel
theorem dX8_minute_60 : decode cX8_minute 60 = .ok (.getfield 42, 3) := by decide +kernel
theorem dX8_minute_63 : decode cX8_minute 63 = .ok (.iload_n 2, 1) := by decide +kernel
theorem dX8_minute_64 : decode cX8_minute 64 = .ok (.iaload, 1) := by decide +kernel
theorem dX8_minute_65 : decode cX8_minute 65 = .ok (.iadd, 1) := by decide +kernel
theorem dX8_minute_66 : decode cX8_minute 66 = .ok (.dup2, 1) := by decide +kernel
theorem dX8_minute_67 : decode cX8_minute 67 = .ok (.iaload, 1) := by decide +kernel
theorem dX8_minute_68 : decode cX8_minute 68 = .ok (.aload_n 0, 1) := by decide +kernel
theorem dX8_minute_69 : decode cX8_minute 69 = .ok (.getfield 7, 3) := by decide +kernel
theorem dX8_minute_72 : decode cX8_minute 72 = .ok (.iload_n 1, 1) := by decide +kernel
theorem dX8_minute_73 : decode cX8_minute 73 = .ok (.bipush 21, 2) := by decide +kernel
theorem dX8_minute_75 : decode cX8_minute 75 = .ok (.iadd, 1) := by decide +kernel
theorem dX8_minute_76 : decode cX8_minute 76 = .ok (.iload_n 2, 1) := by decide +kernel
theorem dX8_minute_77 : decode cX8_minute 77 = .ok (.iadd, 1) := by decide +kernel
theorem dX8_minute_78 : decode cX8_minute 78 = .ok (.iaload, 1) := by decide +kernel
theorem dX8_minute_79 : decode cX8_minute 79 = .ok (.iadd, 1) := by decide +kernel
theorem dX8_minute_80 : decode cX8_minute 80 = .ok (.iastore, 1) := by decide +kernel
theorem dX8_minute_81 : decode cX8_minute 81 = .ok (.iinc 2 1, 3) := by decide +kernel
theorem dX8_minute_84 : decode cX8_minute 84 = .ok (.goto (-50), 3) := by decide +kernel
theorem dX8_minute_87 : decode cX8_minute 87 = .ok (.iconst 0, 1) := by decide +kernel
theorem dX8_minute_88 : decode cX8_minute 88 = .ok (.istore_n 2, 1) := by decide +kernel
theorem dX8_minute_89 : decode cX8_minute 89 = .ok (.iload_n 2, 1) := by decide +kernel
theorem dX8_minute_90 : decode cX8_minute 90 = .ok (.aload_n 0, 1) := by decide +kernel
theorem dX8_minute_91 : decode cX8_minute 91 = .ok (.getfield 61, 3) := by decide +kernel
theorem dX8_minute_94 : decode cX8_minute 94 = .ok (.if_icmp .ge 68, 3) := by decide +kernel
theorem dX8_minute_97 : decode cX8_minute 97 = .ok (.aload_n 0, 1) := by decide +kernel
theorem dX8_minute_98 : decode cX8_minute 98 = .ok (.getfield 7, 3) := by decide +kernel
theorem dX8_minute_101 : decode cX8_minute 101 = .ok (.iload_n 1, 1) := by decide +kernel
theorem dX8_minute_102 : decode cX8_minute 102 = .ok (.iconst 3, 1) := by decide +kernel
theorem dX8_minute_103 : decode cX8_minute 103 = .ok (.iadd, 1) := by decide +kernel
theorem dX8_minute_104 : decode cX8_minute 104 = .ok (.iload_n 2, 1) := by decide +kernel
theorem dX8_minute_105 : decode cX8_minute 105 = .ok (.iadd, 1) := by decide +kernel
theorem dX8_minute_106 : decode cX8_minute 106 = .ok (.iaload, 1) := by decide +kernel
theorem dX8_minute_107 : decode cX8_minute 107 = .ok (.bipush 99, 2) := by decide +kernel
theorem dX8_minute_109 : decode cX8_minute 109 = .ok (.if_icmp .le 8, 3) := by decide +kernel
theorem dX8_minute_112 : decode cX8_minute 112 = .ok (.bipush 99, 2) := by decide +kernel
theorem dX8_minute_114 : decode cX8_minute 114 = .ok (.goto 13, 3) := by decide +kernel
theorem dX8_minute_117 : decode cX8_minute 117 = .ok (.aload_n 0, 1) := by decide +kernel
theorem dX8_minute_118 : decode cX8_minute 118 = .ok (.getfield 7, 3) := by decide +kernel
theorem dX8_minute_121 : decode cX8_minute 121 = .ok (.iload_n 1, 1) := by decide +kernel
theorem dX8_minute_122 : decode cX8_minute 122 = .ok (.iconst 3, 1) := by decide +kernel
theorem dX8_minute_123 : decode cX8_minute 123 = .ok (.iadd, 1) := by decide +kernel
theorem dX8_minute_124 : decode cX8_minute 124 = .ok (.iload_n 2, 1) := by decide +kernel
theorem dX8_minute_125 : decode cX8_minute 125 = .ok (.iadd, 1) := by decide +kernel
theorem dX8_minute_126 : decode cX8_minute 126 = .ok (.iaload, 1) := by decide +kernel
theorem dX8_minute_127 : decode cX8_minute 127 = .ok (.istore_n 3, 1) := by decide +kernel
theorem dX8_minute_128 : decode cX8_minute 128 = .ok (.aload_n 0, 1) := by decide +kernel
theorem dX8_minute_129 : decode cX8_minute 129 = .ok (.getfield 7, 3) := by decide +kernel
theorem dX8_minute_132 : decode cX8_minute 132 = .ok (.iload_n 1, 1) := by decide +kernel
theorem dX8_minute_133 : decode cX8_minute 133 = .ok (.iconst 3, 1) := by decide +kernel
theorem dX8_minute_134 : decode cX8_minute 134 = .ok (.iadd, 1) := by decide +kernel
theorem dX8_minute_135 : decode cX8_minute 135 = .ok (.iload_n 2, 1) := by decide +kernel
theorem dX8_minute_136 : decode cX8_minute 136 = .ok (.iadd, 1) := by decide +kernel
theorem dX8_minute_137 : decode cX8_minute 137 = .ok (.iload_n 3, 1) := by decide +kernel
theorem dX8_minute_138 : decode cX8_minute 138 = .ok (.aload_n 0, 1) := by decide +kernel
theorem dX8_minute_139 : decode cX8_minute 139 = .ok (.getfield 39, 3) := by decide +kernel
theorem dX8_minute_142 : decode cX8_minute 142 = .ok (.if_icmp .le 12, 3) := by decide +kernel
theorem dX8_minute_145 : decode cX8_minute 145 = .ok (.iload_n 3, 1) := by decide +kernel
theorem dX8_minute_146 : decode cX8_minute 146 = .ok (.aload_n 0, 1) := by decide +kernel
theorem dX8_minute_147 : decode cX8_minute 147 = .ok (.getfield 39, 3) := by decide +kernel
theorem dX8_minute_150 : decode cX8_minute 150 = .ok (.isub, 1) := by decide +kernel
theorem dX8_minute_151 : decode cX8_minute 151 = .ok (.goto 4, 3) := by decide +kernel
theorem dX8_minute_154 : decode cX8_minute 154 = .ok (.iconst 0, 1) := by decide +kernel
theorem dX8_minute_155 : decode cX8_minute 155 = .ok (.iastore, 1) := by decide +kernel
theorem dX8_minute_156 : decode cX8_minute 156 = .ok (.iinc 2 1, 3) := by decide +kernel
theorem dX8_minute_159 : decode cX8_minute 159 = .ok (.goto (-70), 3) := by decide +kernel
theorem dX8_minute_162 : decode cX8_minute 162 = .ok (.iconst 0, 1) := by decide +kernel
theorem dX8_minute_163 : decode cX8_minute 163 = .ok (.istore_n 2, 1) := by decide +kernel
theorem dX8_minute_164 : decode cX8_minute 164 = .ok (.iload_n 2, 1) := by decide +kernel
theorem dX8_minute_165 : decode cX8_minute 165 = .ok (.aload_n 0, 1) := by decide +kernel
theorem dX8_minute_166 : decode cX8_minute 166 = .ok (.getfield 64, 3) := by decide +kernel
theorem dX8_minute_169 : decode cX8_minute 169 = .ok (.if_icmp .ge 31, 3) := by decide +kernel
theorem dX8_minute_172 : decode cX8_minute 172 = .ok (.aload_n 0, 1) := by decide +kernel
theorem dX8_minute_173 : decode cX8_minute 173 = .ok (.getfield 42, 3) := by decide +kernel
theorem dX8_minute_176 : decode cX8_minute 176 = .ok (.iload_n 2, 1) := by decide +kernel
theorem dX8_minute_177 : decode cX8_minute 177 = .ok (.iaload, 1) := by decide +kernel
theorem dX8_minute_178 : decode cX8_minute 178 = .ok (.iconst (-1), 1) := by decide +kernel
theorem dX8_minute_179 : decode cX8_minute 179 = .ok (.if_icmp .eq 15, 3) := by decide +kernel
theorem dX8_minute_182 : decode cX8_minute 182 = .ok (.aload_n 0, 1) := by decide +kernel
theorem dX8_minute_183 : decode cX8_minute 183 = .ok (.iload_n 1, 1) := by decide +kernel
theorem dX8_minute_184 : decode cX8_minute 184 = .ok (.iload_n 2, 1) := by decide +kernel
theorem dX8_minute_185 : decode cX8_minute 185 = .ok (.aload_n 0, 1) := by decide +kernel
theorem dX8_minute_186 : decode cX8_minute 186 = .ok (.getfield 42, 3) := by decide +kernel
theorem dX8_minute_189 : decode cX8_minute 189 = .ok (.iload_n 2, 1) := by decide +kernel
theorem dX8_minute_190 : decode cX8_minute 190 = .ok (.iaload, 1) := by decide +kernel
theorem dX8_minute_191 : decode cX8_minute 191 = .ok (.invokevirtual 179, 3) := by decide +kernel
theorem dX8_minute_194 : decode cX8_minute 194 = .ok (.iinc 2 1, 3) := by decide +kernel
theorem dX8_minute_197 : decode cX8_minute 197 = .ok (.goto (-33), 3) := by decide +kernel
theorem dX8_minute_200 : decode cX8_minute 200 = .ok (.aload_n 0, 1) := by decide +kernel
theorem dX8_minute_201 : decode cX8_minute 201 = .ok (.getfield 7, 3) := by decide +kernel
theorem dX8_minute_204 : decode cX8_minute 204 = .ok (.iload_n 1, 1) := by decide +kernel
theorem dX8_minute_205 : decode cX8_minute 205 = .ok (.iconst 0, 1) := by decide +kernel
theorem dX8_minute_206 : decode cX8_minute 206 = .ok (.iadd, 1) := by decide +kernel
theorem dX8_minute_207 : decode cX8_minute 207 = .ok (.dup2, 1) := by decide +kernel
theorem dX8_minute_208 : decode cX8_minute 208 = .ok (.iaload, 1) := by decide +kernel
theorem dX8_minute_209 : decode cX8_minute 209 = .ok (.iconst 1, 1) := by decide +kernel
theorem dX8_minute_210 : decode cX8_minute 210 = .ok (.iadd, 1) := by decide +kernel
theorem dX8_minute_211 : decode cX8_minute 211 = .ok (.iastore, 1) := by decide +kernel
theorem dX8_minute_212 : decode cX8_minute 212 = .ok (.return_, 1) := by decide +kernel
theorem dX8_go_0 : decode cX8_go 0 = .ok (.iload_n 1, 1) := by decide +kernel
theorem dX8_go_1 : decode cX8_go 1 = .ok (.i2l, 1) := by decide +kernel
theorem dX8_go_2 : decode cX8_go 2 = .ok (.lconst 1, 1) := by decide +kernel
theorem dX8_go_3 : decode cX8_go 3 = .ok (.ldc2_w 183, 3) := by decide +kernel
theorem dX8_go_6 : decode cX8_go 6 = .ok (.invokestatic 73, 3) := by decide +kernel
theorem dX8_go_9 : decode cX8_go 9 = .ok (.ifCond .ne 6, 3) := by decide +kernel
theorem dX8_go_12 : decode cX8_go 12 = .ok (.bipush (-3), 2) := by decide +kernel
theorem dX8_go_14 : decode cX8_go 14 = .ok (.ireturn, 1) := by decide +kernel
theorem dX8_go_15 : decode cX8_go 15 = .ok (.aload_n 0, 1) := by decide +kernel
theorem dX8_go_16 : decode cX8_go 16 = .ok (.getfield 7, 3) := by decide +kernel
theorem dX8_go_19 : decode cX8_go 19 = .ok (.iconst 0, 1) := by decide +kernel
theorem dX8_go_20 : decode cX8_go 20 = .ok (.iaload, 1) := by decide +kernel
theorem dX8_go_21 : decode cX8_go 21 = .ok (.iload_n 1, 1) := by decide +kernel
theorem dX8_go_22 : decode cX8_go 22 = .ok (.iadd, 1) := by decide +kernel
theorem dX8_go_23 : decode cX8_go 23 = .ok (.sipush 9999, 3) := by decide +kernel
theorem dX8_go_26 : decode cX8_go 26 = .ok (.if_icmp .le 6, 3) := by decide +kernel
theorem dX8_go_29 : decode cX8_go 29 = .ok (.bipush (-5), 2) := by decide +kernel
theorem dX8_go_31 : decode cX8_go 31 = .ok (.ireturn, 1) := by decide +kernel
theorem dX8_go_32 : decode cX8_go 32 = .ok (.iconst 0, 1) := by decide +kernel
theorem dX8_go_33 : decode cX8_go 33 = .ok (.istore_n 2, 1) := by decide +kernel
theorem dX8_go_34 : decode cX8_go 34 = .ok (.iload_n 2, 1) := by decide +kernel
theorem dX8_go_35 : decode cX8_go 35 = .ok (.iload_n 1, 1) := by decide +kernel
theorem dX8_go_36 : decode cX8_go 36 = .ok (.if_icmp .ge 14, 3) := by decide +kernel
theorem dX8_go_39 : decode cX8_go 39 = .ok (.aload_n 0, 1) := by decide +kernel
theorem dX8_go_40 : decode cX8_go 40 = .ok (.iconst 0, 1) := by decide +kernel
theorem dX8_go_41 : decode cX8_go 41 = .ok (.invokevirtual 185, 3) := by decide +kernel
theorem dX8_go_44 : decode cX8_go 44 = .ok (.iinc 2 1, 3) := by decide +kernel
theorem dX8_go_47 : decode cX8_go 47 = .ok (.goto (-13), 3) := by decide +kernel
theorem dX8_go_50 : decode cX8_go 50 = .ok (.aload_n 0, 1) := by decide +kernel
theorem dX8_go_51 : decode cX8_go 51 = .ok (.getfield 7, 3) := by decide +kernel
theorem dX8_go_54 : decode cX8_go 54 = .ok (.iconst 0, 1) := by decide +kernel
theorem dX8_go_55 : decode cX8_go 55 = .ok (.iaload, 1) := by decide +kernel
theorem dX8_go_56 : decode cX8_go 56 = .ok (.ireturn, 1) := by decide +kernel
theorem dX8_next_0 : decode cX8_next 0 = .ok (.aload_n 0, 1) := by decide +kernel
theorem dX8_next_1 : decode cX8_next 1 = .ok (.iload_n 1, 1) := by decide +kernel
theorem dX8_next_2 : decode cX8_next 2 = .ok (.invokevirtual 160, 3) := by decide +kernel
theorem dX8_next_5 : decode cX8_next 5 = .ok (.ifCond .ne 6, 3) := by decide +kernel
theorem dX8_next_8 : decode cX8_next 8 = .ok (.bipush (-2), 2) := by decide +kernel
theorem dX8_next_10 : decode cX8_next 10 = .ok (.ireturn, 1) := by decide +kernel
theorem dX8_next_11 : decode cX8_next 11 = .ok (.aload_n 0, 1) := by decide +kernel
theorem dX8_next_12 : decode cX8_next 12 = .ok (.iconst 0, 1) := by decide +kernel
theorem dX8_next_13 : decode cX8_next 13 = .ok (.invokevirtual 176, 3) := by decide +kernel
theorem dX8_next_16 : decode cX8_next 16 = .ok (.aload_n 0, 1) := by decide +kernel
theorem dX8_next_17 : decode cX8_next 17 = .ok (.getfield 42, 3) := by decide +kernel
theorem dX8_next_20 : decode cX8_next 20 = .ok (.iload_n 1, 1) := by decide +kernel
theorem dX8_next_21 : decode cX8_next 21 = .ok (.iaload, 1) := by decide +kernel
theorem dX8_next_22 : decode cX8_next 22 = .ok (.ireturn, 1) := by decide +kernel
theorem dX8_spill_0 : decode cX8_spill 0 = .ok (.aload_n 0, 1) := by decide +kernel
theorem dX8_spill_1 : decode cX8_spill 1 = .ok (.iload_n 1, 1) := by decide +kernel
theorem dX8_spill_2 : decode cX8_spill 2 = .ok (.invokevirtual 157, 3) := by decide +kernel
theorem dX8_spill_5 : decode cX8_spill 5 = .ok (.ifCond .ne 6, 3) := by decide +kernel
theorem dX8_spill_8 : decode cX8_spill 8 = .ok (.bipush (-2), 2) := by decide +kernel
theorem dX8_spill_10 : decode cX8_spill 10 = .ok (.ireturn, 1) := by decide +kernel
theorem dX8_spill_11 : decode cX8_spill 11 = .ok (.iload_n 2, 1) := by decide +kernel
theorem dX8_spill_12 : decode cX8_spill 12 = .ok (.i2l, 1) := by decide +kernel
theorem dX8_spill_13 : decode cX8_spill 13 = .ok (.lconst 0, 1) := by decide +kernel
theorem dX8_spill_14 : decode cX8_spill 14 = .ok (.ldc2_w 183, 3) := by decide +kernel
theorem dX8_spill_17 : decode cX8_spill 17 = .ok (.invokestatic 73, 3) := by decide +kernel
theorem dX8_spill_20 : decode cX8_spill 20 = .ok (.ifCond .ne 6, 3) := by decide +kernel
theorem dX8_spill_23 : decode cX8_spill 23 = .ok (.bipush (-3), 2) := by decide +kernel
theorem dX8_spill_25 : decode cX8_spill 25 = .ok (.ireturn, 1) := by decide +kernel
theorem dX8_spill_26 : decode cX8_spill 26 = .ok (.aload_n 0, 1) := by decide +kernel
theorem dX8_spill_27 : decode cX8_spill 27 = .ok (.getfield 7, 3) := by decide +kernel
theorem dX8_spill_30 : decode cX8_spill 30 = .ok (.iconst 3, 1) := by decide +kernel
theorem dX8_spill_31 : decode cX8_spill 31 = .ok (.iload_n 1, 1) := by decide +kernel
theorem dX8_spill_32 : decode cX8_spill 32 = .ok (.iadd, 1) := by decide +kernel
theorem dX8_spill_33 : decode cX8_spill 33 = .ok (.iaload, 1) := by decide +kernel
theorem dX8_spill_34 : decode cX8_spill 34 = .ok (.istore_n 3, 1) := by decide +kernel
theorem dX8_spill_35 : decode cX8_spill 35 = .ok (.aload_n 0, 1) := by decide +kernel
theorem dX8_spill_36 : decode cX8_spill 36 = .ok (.getfield 7, 3) := by decide +kernel
theorem dX8_spill_39 : decode cX8_spill 39 = .ok (.iconst 3, 1) := by decide +kernel
theorem dX8_spill_40 : decode cX8_spill 40 = .ok (.iload_n 1, 1) := by decide +kernel
theorem dX8_spill_41 : decode cX8_spill 41 = .ok (.iadd, 1) := by decide +kernel
theorem dX8_spill_42 : decode cX8_spill 42 = .ok (.iload_n 2, 1) := by decide +kernel
theorem dX8_spill_43 : decode cX8_spill 43 = .ok (.iastore, 1) := by decide +kernel
theorem dX8_spill_44 : decode cX8_spill 44 = .ok (.iload_n 3, 1) := by decide +kernel
theorem dX8_spill_45 : decode cX8_spill 45 = .ok (.ireturn, 1) := by decide +kernel
theorem dX8_stamp_0 : decode cX8_stamp 0 = .ok (.aload_n 0, 1) := by decide +kernel
theorem dX8_stamp_1 : decode cX8_stamp 1 = .ok (.iload_n 1, 1) := by decide +kernel
theorem dX8_stamp_2 : decode cX8_stamp 2 = .ok (.invokevirtual 160, 3) := by decide +kernel
theorem dX8_stamp_5 : decode cX8_stamp 5 = .ok (.ifCond .ne 6, 3) := by decide +kernel
theorem dX8_stamp_8 : decode cX8_stamp 8 = .ok (.bipush (-2), 2) := by decide +kernel
theorem dX8_stamp_10 : decode cX8_stamp 10 = .ok (.ireturn, 1) := by decide +kernel
theorem dX8_stamp_11 : decode cX8_stamp 11 = .ok (.iload_n 2, 1) := by decide +kernel
theorem dX8_stamp_12 : decode cX8_stamp 12 = .ok (.i2l, 1) := by decide +kernel
theorem dX8_stamp_13 : decode cX8_stamp 13 = .ok (.lconst 0, 1) := by decide +kernel
theorem dX8_stamp_14 : decode cX8_stamp 14 = .ok (.ldc2_w 188, 3) := by decide +kernel
theorem dX8_stamp_17 : decode cX8_stamp 17 = .ok (.invokestatic 73, 3) := by decide +kernel
theorem dX8_stamp_20 : decode cX8_stamp 20 = .ok (.ifCond .ne 6, 3) := by decide +kernel
theorem dX8_stamp_23 : decode cX8_stamp 23 = .ok (.bipush (-3), 2) := by decide +kernel
theorem dX8_stamp_25 : decode cX8_stamp 25 = .ok (.ireturn, 1) := by decide +kernel
theorem dX8_stamp_26 : decode cX8_stamp 26 = .ok (.aload_n 0, 1) := by decide +kernel
theorem dX8_stamp_27 : decode cX8_stamp 27 = .ok (.getfield 7, 3) := by decide +kernel
theorem dX8_stamp_30 : decode cX8_stamp 30 = .ok (.bipush 33, 2) := by decide +kernel
theorem dX8_stamp_32 : decode cX8_stamp 32 = .ok (.iload_n 1, 1) := by decide +kernel
theorem dX8_stamp_33 : decode cX8_stamp 33 = .ok (.iadd, 1) := by decide +kernel
theorem dX8_stamp_34 : decode cX8_stamp 34 = .ok (.iaload, 1) := by decide +kernel
theorem dX8_stamp_35 : decode cX8_stamp 35 = .ok (.iconst (-1), 1) := by decide +kernel
theorem dX8_stamp_36 : decode cX8_stamp 36 = .ok (.if_icmp .eq 6, 3) := by decide +kernel
theorem dX8_stamp_39 : decode cX8_stamp 39 = .ok (.bipush (-4), 2) := by decide +kernel
theorem dX8_stamp_41 : decode cX8_stamp 41 = .ok (.ireturn, 1) := by decide +kernel
theorem dX8_stamp_42 : decode cX8_stamp 42 = .ok (.aload_n 0, 1) := by decide +kernel
theorem dX8_stamp_43 : decode cX8_stamp 43 = .ok (.getfield 7, 3) := by decide +kernel
theorem dX8_stamp_46 : decode cX8_stamp 46 = .ok (.bipush 21, 2) := by decide +kernel
theorem dX8_stamp_48 : decode cX8_stamp 48 = .ok (.iload_n 1, 1) := by decide +kernel
theorem dX8_stamp_49 : decode cX8_stamp 49 = .ok (.iadd, 1) := by decide +kernel
theorem dX8_stamp_50 : decode cX8_stamp 50 = .ok (.iaload, 1) := by decide +kernel
theorem dX8_stamp_51 : decode cX8_stamp 51 = .ok (.istore_n 3, 1) := by decide +kernel
theorem dX8_stamp_52 : decode cX8_stamp 52 = .ok (.aload_n 0, 1) := by decide +kernel
theorem dX8_stamp_53 : decode cX8_stamp 53 = .ok (.getfield 7, 3) := by decide +kernel
theorem dX8_stamp_56 : decode cX8_stamp 56 = .ok (.bipush 21, 2) := by decide +kernel
theorem dX8_stamp_58 : decode cX8_stamp 58 = .ok (.iload_n 1, 1) := by decide +kernel
theorem dX8_stamp_59 : decode cX8_stamp 59 = .ok (.iadd, 1) := by decide +kernel
theorem dX8_stamp_60 : decode cX8_stamp 60 = .ok (.iload_n 2, 1) := by decide +kernel
theorem dX8_stamp_61 : decode cX8_stamp 61 = .ok (.iastore, 1) := by decide +kernel
theorem dX8_stamp_62 : decode cX8_stamp 62 = .ok (.iload_n 3, 1) := by decide +kernel
theorem dX8_stamp_63 : decode cX8_stamp 63 = .ok (.ireturn, 1) := by decide +kernel
theorem dX8_rain_0 : decode cX8_rain 0 = .ok (.iconst 0, 1) := by decide +kernel
theorem dX8_rain_1 : decode cX8_rain 1 = .ok (.istore_n 1, 1) := by decide +kernel
theorem dX8_rain_2 : decode cX8_rain 2 = .ok (.iconst 0, 1) := by decide +kernel
theorem dX8_rain_3 : decode cX8_rain 3 = .ok (.istore_n 2, 1) := by decide +kernel
theorem dX8_rain_4 : decode cX8_rain 4 = .ok (.iload_n 2, 1) := by decide +kernel
theorem dX8_rain_5 : decode cX8_rain 5 = .ok (.aload_n 0, 1) := by decide +kernel
theorem dX8_rain_6 : decode cX8_rain 6 = .ok (.getfield 61, 3) := by decide +kernel
theorem dX8_rain_9 : decode cX8_rain 9 = .ok (.if_icmp .ge 40, 3) := by decide +kernel
theorem dX8_rain_12 : decode cX8_rain 12 = .ok (.aload_n 0, 1) := by decide +kernel
theorem dX8_rain_13 : decode cX8_rain 13 = .ok (.getfield 7, 3) := by decide +kernel
theorem dX8_rain_16 : decode cX8_rain 16 = .ok (.iconst 3, 1) := by decide +kernel
theorem dX8_rain_17 : decode cX8_rain 17 = .ok (.iload_n 2, 1) := by decide +kernel
theorem dX8_rain_18 : decode cX8_rain 18 = .ok (.iadd, 1) := by decide +kernel
theorem dX8_rain_19 : decode cX8_rain 19 = .ok (.dup2, 1) := by decide +kernel
theorem dX8_rain_20 : decode cX8_rain 20 = .ok (.iaload, 1) := by decide +kernel
theorem dX8_rain_21 : decode cX8_rain 21 = .ok (.iconst 2, 1) := by decide +kernel
theorem dX8_rain_22 : decode cX8_rain 22 = .ok (.idiv, 1) := by decide +kernel
theorem dX8_rain_23 : decode cX8_rain 23 = .ok (.iastore, 1) := by decide +kernel
theorem dX8_rain_24 : decode cX8_rain 24 = .ok (.iload_n 1, 1) := by decide +kernel
theorem dX8_rain_25 : decode cX8_rain 25 = .ok (.aload_n 0, 1) := by decide +kernel
theorem dX8_rain_26 : decode cX8_rain 26 = .ok (.getfield 7, 3) := by decide +kernel
theorem dX8_rain_29 : decode cX8_rain 29 = .ok (.iconst 3, 1) := by decide +kernel
theorem dX8_rain_30 : decode cX8_rain 30 = .ok (.iload_n 2, 1) := by decide +kernel
theorem dX8_rain_31 : decode cX8_rain 31 = .ok (.iadd, 1) := by decide +kernel
theorem dX8_rain_32 : decode cX8_rain 32 = .ok (.iaload, 1) := by decide +kernel
theorem dX8_rain_33 : decode cX8_rain 33 = .ok (.ifCond .le 7, 3) := by decide +kernel
theorem dX8_rain_36 : decode cX8_rain 36 = .ok (.iconst 1, 1) := by decide +kernel
theorem dX8_rain_37 : decode cX8_rain 37 = .ok (.goto 4, 3) := by decide +kernel
theorem dX8_rain_40 : decode cX8_rain 40 = .ok (.iconst 0, 1) := by decide +kernel
theorem dX8_rain_41 : decode cX8_rain 41 = .ok (.iadd, 1) := by decide +kernel
theorem dX8_rain_42 : decode cX8_rain 42 = .ok (.istore_n 1, 1) := by decide +kernel
theorem dX8_rain_43 : decode cX8_rain 43 = .ok (.iinc 2 1, 3) := by decide +kernel
theorem dX8_rain_46 : decode cX8_rain 46 = .ok (.goto (-42), 3) := by decide +kernel
theorem dX8_rain_49 : decode cX8_rain 49 = .ok (.iload_n 1, 1) := by decide +kernel
theorem dX8_rain_50 : decode cX8_rain 50 = .ok (.ireturn, 1) := by decide +kernel
theorem dX8_sit_0 : decode cX8_sit 0 = .ok (.iload_n 1, 1) := by decide +kernel
theorem dX8_sit_1 : decode cX8_sit 1 = .ok (.iconst (-1), 1) := by decide +kernel
theorem dX8_sit_2 : decode cX8_sit 2 = .ok (.if_icmp .eq 14, 3) := by decide +kernel
theorem dX8_sit_5 : decode cX8_sit 5 = .ok (.aload_n 0, 1) := by decide +kernel
theorem dX8_sit_6 : decode cX8_sit 6 = .ok (.iload_n 1, 1) := by decide +kernel
theorem dX8_sit_7 : decode cX8_sit 7 = .ok (.invokevirtual 151, 3) := by decide +kernel
theorem dX8_sit_10 : decode cX8_sit 10 = .ok (.ifCond .ne 6, 3) := by decide +kernel
theorem dX8_sit_13 : decode cX8_sit 13 = .ok (.bipush (-2), 2) := by decide +kernel
theorem dX8_sit_15 : decode cX8_sit 15 = .ok (.ireturn, 1) := by decide +kernel
theorem dX8_sit_16 : decode cX8_sit 16 = .ok (.aload_n 0, 1) := by decide +kernel
theorem dX8_sit_17 : decode cX8_sit 17 = .ok (.getfield 7, 3) := by decide +kernel
theorem dX8_sit_20 : decode cX8_sit 20 = .ok (.iconst 2, 1) := by decide +kernel
theorem dX8_sit_21 : decode cX8_sit 21 = .ok (.iaload, 1) := by decide +kernel
theorem dX8_sit_22 : decode cX8_sit 22 = .ok (.istore_n 2, 1) := by decide +kernel
theorem dX8_sit_23 : decode cX8_sit 23 = .ok (.aload_n 0, 1) := by decide +kernel
theorem dX8_sit_24 : decode cX8_sit 24 = .ok (.getfield 7, 3) := by decide +kernel
theorem dX8_sit_27 : decode cX8_sit 27 = .ok (.iconst 2, 1) := by decide +kernel
theorem dX8_sit_28 : decode cX8_sit 28 = .ok (.iload_n 1, 1) := by decide +kernel
theorem dX8_sit_29 : decode cX8_sit 29 = .ok (.iastore, 1) := by decide +kernel
theorem dX8_sit_30 : decode cX8_sit 30 = .ok (.iload_n 2, 1) := by decide +kernel
theorem dX8_sit_31 : decode cX8_sit 31 = .ok (.ireturn, 1) := by decide +kernel
theorem dX8_keep_0 : decode cX8_keep 0 = .ok (.iload_n 1, 1) := by decide +kernel
theorem dX8_keep_1 : decode cX8_keep 1 = .ok (.i2l, 1) := by decide +kernel
theorem dX8_keep_2 : decode cX8_keep 2 = .ok (.lconst 0, 1) := by decide +kernel
theorem dX8_keep_3 : decode cX8_keep 3 = .ok (.lconst 1, 1) := by decide +kernel
theorem dX8_keep_4 : decode cX8_keep 4 = .ok (.invokestatic 73, 3) := by decide +kernel
theorem dX8_keep_7 : decode cX8_keep 7 = .ok (.ifCond .ne 6, 3) := by decide +kernel
theorem dX8_keep_10 : decode cX8_keep 10 = .ok (.bipush (-2), 2) := by decide +kernel
theorem dX8_keep_12 : decode cX8_keep 12 = .ok (.ireturn, 1) := by decide +kernel
theorem dX8_keep_13 : decode cX8_keep 13 = .ok (.aload_n 0, 1) := by decide +kernel
theorem dX8_keep_14 : decode cX8_keep 14 = .ok (.iconst 0, 1) := by decide +kernel
theorem dX8_keep_15 : decode cX8_keep 15 = .ok (.iconst 1, 1) := by decide +kernel
theorem dX8_keep_16 : decode cX8_keep 16 = .ok (.iload_n 1, 1) := by decide +kernel
theorem dX8_keep_17 : decode cX8_keep 17 = .ok (.iadd, 1) := by decide +kernel
theorem dX8_keep_18 : decode cX8_keep 18 = .ok (.invokevirtual 67, 3) := by decide +kernel
theorem dX8_keep_21 : decode cX8_keep 21 = .ok (.aload_n 0, 1) := by decide +kernel
theorem dX8_keep_22 : decode cX8_keep 22 = .ok (.getfield 13, 3) := by decide +kernel
theorem dX8_keep_25 : decode cX8_keep 25 = .ok (.iload_n 1, 1) := by decide +kernel
theorem dX8_keep_26 : decode cX8_keep 26 = .ok (.iconst 1, 1) := by decide +kernel
theorem dX8_keep_27 : decode cX8_keep 27 = .ok (.bastore, 1) := by decide +kernel
theorem dX8_keep_28 : decode cX8_keep 28 = .ok (.aload_n 0, 1) := by decide +kernel
theorem dX8_keep_29 : decode cX8_keep 29 = .ok (.getfield 7, 3) := by decide +kernel
theorem dX8_keep_32 : decode cX8_keep 32 = .ok (.iconst 0, 1) := by decide +kernel
theorem dX8_keep_33 : decode cX8_keep 33 = .ok (.iaload, 1) := by decide +kernel
theorem dX8_keep_34 : decode cX8_keep 34 = .ok (.ireturn, 1) := by decide +kernel
theorem dX8_back_0 : decode cX8_back 0 = .ok (.iload_n 1, 1) := by decide +kernel
theorem dX8_back_1 : decode cX8_back 1 = .ok (.i2l, 1) := by decide +kernel
theorem dX8_back_2 : decode cX8_back 2 = .ok (.lconst 0, 1) := by decide +kernel
theorem dX8_back_3 : decode cX8_back 3 = .ok (.lconst 1, 1) := by decide +kernel
theorem dX8_back_4 : decode cX8_back 4 = .ok (.invokestatic 73, 3) := by decide +kernel
theorem dX8_back_7 : decode cX8_back 7 = .ok (.ifCond .ne 6, 3) := by decide +kernel
theorem dX8_back_10 : decode cX8_back 10 = .ok (.bipush (-2), 2) := by decide +kernel
theorem dX8_back_12 : decode cX8_back 12 = .ok (.ireturn, 1) := by decide +kernel
theorem dX8_back_13 : decode cX8_back 13 = .ok (.aload_n 0, 1) := by decide +kernel
theorem dX8_back_14 : decode cX8_back 14 = .ok (.getfield 13, 3) := by decide +kernel
theorem dX8_back_17 : decode cX8_back 17 = .ok (.iload_n 1, 1) := by decide +kernel
theorem dX8_back_18 : decode cX8_back 18 = .ok (.baload, 1) := by decide +kernel
theorem dX8_back_19 : decode cX8_back 19 = .ok (.ifCond .ne 6, 3) := by decide +kernel
theorem dX8_back_22 : decode cX8_back 22 = .ok (.bipush (-4), 2) := by decide +kernel
theorem dX8_back_24 : decode cX8_back 24 = .ok (.ireturn, 1) := by decide +kernel
theorem dX8_back_25 : decode cX8_back 25 = .ok (.aload_n 0, 1) := by decide +kernel
theorem dX8_back_26 : decode cX8_back 26 = .ok (.iconst 1, 1) := by decide +kernel
theorem dX8_back_27 : decode cX8_back 27 = .ok (.iload_n 1, 1) := by decide +kernel
theorem dX8_back_28 : decode cX8_back 28 = .ok (.iadd, 1) := by decide +kernel
theorem dX8_back_29 : decode cX8_back 29 = .ok (.iconst 0, 1) := by decide +kernel
theorem dX8_back_30 : decode cX8_back 30 = .ok (.invokevirtual 67, 3) := by decide +kernel
theorem dX8_back_33 : decode cX8_back 33 = .ok (.aload_n 0, 1) := by decide +kernel
theorem dX8_back_34 : decode cX8_back 34 = .ok (.getfield 7, 3) := by decide +kernel
theorem dX8_back_37 : decode cX8_back 37 = .ok (.iconst 0, 1) := by decide +kernel
theorem dX8_back_38 : decode cX8_back 38 = .ok (.iaload, 1) := by decide +kernel
theorem dX8_back_39 : decode cX8_back 39 = .ok (.ireturn, 1) := by decide +kernel
theorem dX8_tryFor_0 : decode cX8_tryFor 0 = .ok (.iconst 0, 1) := by decide +kernel
theorem dX8_tryFor_1 : decode cX8_tryFor 1 = .ok (.istore_n 2, 1) := by decide +kernel
theorem dX8_tryFor_2 : decode cX8_tryFor 2 = .ok (.iload_n 2, 1) := by decide +kernel
theorem dX8_tryFor_3 : decode cX8_tryFor 3 = .ok (.iload_n 1, 1) := by decide +kernel
theorem dX8_tryFor_4 : decode cX8_tryFor 4 = .ok (.if_icmp .ge 15, 3) := by decide +kernel
theorem dX8_tryFor_7 : decode cX8_tryFor 7 = .ok (.aload_n 0, 1) := by decide +kernel
theorem dX8_tryFor_8 : decode cX8_tryFor 8 = .ok (.bipush 117, 2) := by decide +kernel
theorem dX8_tryFor_10 : decode cX8_tryFor 10 = .ok (.invokevirtual 185, 3) := by decide +kernel
theorem dX8_tryFor_13 : decode cX8_tryFor 13 = .ok (.iinc 2 1, 3) := by decide +kernel
theorem dX8_tryFor_16 : decode cX8_tryFor 16 = .ok (.goto (-14), 3) := by decide +kernel
theorem dX8_tryFor_19 : decode cX8_tryFor 19 = .ok (.return_, 1) := by decide +kernel
theorem dX8_later_0 : decode cX8_later 0 = .ok (.iload_n 3, 1) := by decide +kernel
theorem dX8_later_1 : decode cX8_later 1 = .ok (.i2l, 1) := by decide +kernel
theorem dX8_later_2 : decode cX8_later 2 = .ok (.lconst 0, 1) := by decide +kernel
theorem dX8_later_3 : decode cX8_later 3 = .ok (.ldc2_w 190, 3) := by decide +kernel
theorem dX8_later_6 : decode cX8_later 6 = .ok (.invokestatic 73, 3) := by decide +kernel
theorem dX8_later_9 : decode cX8_later 9 = .ok (.ifCond .ne 6, 3) := by decide +kernel
theorem dX8_later_12 : decode cX8_later 12 = .ok (.bipush (-3), 2) := by decide +kernel
theorem dX8_later_14 : decode cX8_later 14 = .ok (.ireturn, 1) := by decide +kernel
theorem dX8_later_15 : decode cX8_later 15 = .ok (.iload_n 3, 1) := by decide +kernel
theorem dX8_later_16 : decode cX8_later 16 = .ok (.iconst 2, 1) := by decide +kernel
theorem dX8_later_17 : decode cX8_later 17 = .ok (.if_icmp .ge 14, 3) := by decide +kernel
theorem dX8_later_20 : decode cX8_later 20 = .ok (.aload_n 0, 1) := by decide +kernel
theorem dX8_later_21 : decode cX8_later 21 = .ok (.iload_n 1, 1) := by decide +kernel
theorem dX8_later_22 : decode cX8_later 22 = .ok (.invokevirtual 160, 3) := by decide +kernel
theorem dX8_later_25 : decode cX8_later 25 = .ok (.ifCond .ne 17, 3) := by decide +kernel
theorem dX8_later_28 : decode cX8_later 28 = .ok (.goto 11, 3) := by decide +kernel
theorem dX8_later_31 : decode cX8_later 31 = .ok (.aload_n 0, 1) := by decide +kernel
theorem dX8_later_32 : decode cX8_later 32 = .ok (.iload_n 1, 1) := by decide +kernel
theorem dX8_later_33 : decode cX8_later 33 = .ok (.invokevirtual 157, 3) := by decide +kernel
theorem dX8_later_36 : decode cX8_later 36 = .ok (.ifCond .ne 6, 3) := by decide +kernel
theorem dX8_later_39 : decode cX8_later 39 = .ok (.bipush (-2), 2) := by decide +kernel
theorem dX8_later_41 : decode cX8_later 41 = .ok (.ireturn, 1) := by decide +kernel
theorem dX8_later_42 : decode cX8_later 42 = .ok (.iload_n 2, 1) := by decide +kernel
theorem dX8_later_43 : decode cX8_later 43 = .ok (.i2l, 1) := by decide +kernel
theorem dX8_later_44 : decode cX8_later 44 = .ok (.lconst 0, 1) := by decide +kernel
theorem dX8_later_45 : decode cX8_later 45 = .ok (.ldc2_w 183, 3) := by decide +kernel
theorem dX8_later_48 : decode cX8_later 48 = .ok (.invokestatic 73, 3) := by decide +kernel
theorem dX8_later_51 : decode cX8_later 51 = .ok (.ifCond .ne 6, 3) := by decide +kernel
theorem dX8_later_54 : decode cX8_later 54 = .ok (.bipush (-3), 2) := by decide +kernel
theorem dX8_later_56 : decode cX8_later 56 = .ok (.ireturn, 1) := by decide +kernel
theorem dX8_later_57 : decode cX8_later 57 = .ok (.aload_n 0, 1) := by decide +kernel
theorem dX8_later_58 : decode cX8_later 58 = .ok (.iconst 0, 1) := by decide +kernel
theorem dX8_later_59 : decode cX8_later 59 = .ok (.iconst 3, 1) := by decide +kernel
theorem dX8_later_60 : decode cX8_later 60 = .ok (.invokevirtual 67, 3) := by decide +kernel
theorem dX8_later_63 : decode cX8_later 63 = .ok (.aload_n 0, 1) := by decide +kernel
theorem dX8_later_64 : decode cX8_later 64 = .ok (.iload_n 2, 1) := by decide +kernel
theorem dX8_later_65 : decode cX8_later 65 = .ok (.invokevirtual 192, 3) := by decide +kernel
theorem dX8_later_68 : decode cX8_later 68 = .ok (.bipush 117, 2) := by decide +kernel
theorem dX8_later_70 : decode cX8_later 70 = .ok (.istore 4, 2) := by decide +kernel
theorem dX8_later_72 : decode cX8_later 72 = .ok (.iload_n 3, 1) := by decide +kernel
theorem dX8_later_73 : decode cX8_later 73 = .ok (.ifCond .ne 18, 3) := by decide +kernel
theorem dX8_later_76 : decode cX8_later 76 = .ok (.aload_n 0, 1) := by decide +kernel
theorem dX8_later_77 : decode cX8_later 77 = .ok (.getfield 7, 3) := by decide +kernel
theorem dX8_later_80 : decode cX8_later 80 = .ok (.iload 4, 2) := by decide +kernel
theorem dX8_later_82 : decode cX8_later 82 = .ok (.bipush 15, 2) := by decide +kernel
theorem dX8_later_84 : decode cX8_later 84 = .ok (.iadd, 1) := by decide +kernel
theorem dX8_later_85 : decode cX8_later 85 = .ok (.iload_n 1, 1) := by decide +kernel
theorem dX8_later_86 : decode cX8_later 86 = .ok (.iadd, 1) := by decide +kernel
theorem dX8_later_87 : decode cX8_later 87 = .ok (.iaload, 1) := by decide +kernel
theorem dX8_later_88 : decode cX8_later 88 = .ok (.goto 34, 3) := by decide +kernel
theorem dX8_later_91 : decode cX8_later 91 = .ok (.iload_n 3, 1) := by decide +kernel
theorem dX8_later_92 : decode cX8_later 92 = .ok (.iconst 1, 1) := by decide +kernel
theorem dX8_later_93 : decode cX8_later 93 = .ok (.if_icmp .ne 18, 3) := by decide +kernel
theorem dX8_later_96 : decode cX8_later 96 = .ok (.aload_n 0, 1) := by decide +kernel
theorem dX8_later_97 : decode cX8_later 97 = .ok (.getfield 7, 3) := by decide +kernel
theorem dX8_later_100 : decode cX8_later 100 = .ok (.iload 4, 2) := by decide +kernel
theorem dX8_later_102 : decode cX8_later 102 = .ok (.bipush 21, 2) := by decide +kernel
theorem dX8_later_104 : decode cX8_later 104 = .ok (.iadd, 1) := by decide +kernel
theorem dX8_later_105 : decode cX8_later 105 = .ok (.iload_n 1, 1) := by decide +kernel
theorem dX8_later_106 : decode cX8_later 106 = .ok (.iadd, 1) := by decide +kernel
theorem dX8_later_107 : decode cX8_later 107 = .ok (.iaload, 1) := by decide +kernel
theorem dX8_later_108 : decode cX8_later 108 = .ok (.goto 14, 3) := by decide +kernel
theorem dX8_later_111 : decode cX8_later 111 = .ok (.aload_n 0, 1) := by decide +kernel
theorem dX8_later_112 : decode cX8_later 112 = .ok (.getfield 7, 3) := by decide +kernel
theorem dX8_later_115 : decode cX8_later 115 = .ok (.iload 4, 2) := by decide +kernel
theorem dX8_later_117 : decode cX8_later 117 = .ok (.iconst 3, 1) := by decide +kernel
theorem dX8_later_118 : decode cX8_later 118 = .ok (.iadd, 1) := by decide +kernel
theorem dX8_later_119 : decode cX8_later 119 = .ok (.iload_n 1, 1) := by decide +kernel
theorem dX8_later_120 : decode cX8_later 120 = .ok (.iadd, 1) := by decide +kernel
theorem dX8_later_121 : decode cX8_later 121 = .ok (.iaload, 1) := by decide +kernel
theorem dX8_later_122 : decode cX8_later 122 = .ok (.ireturn, 1) := by decide +kernel
theorem dX8_filedIn_0 : decode cX8_filedIn 0 = .ok (.bipush 117, 2) := by decide +kernel
theorem dX8_filedIn_2 : decode cX8_filedIn 2 = .ok (.istore_n 3, 1) := by decide +kernel
theorem dX8_filedIn_3 : decode cX8_filedIn 3 = .ok (.iconst 0, 1) := by decide +kernel
theorem dX8_filedIn_4 : decode cX8_filedIn 4 = .ok (.istore 4, 2) := by decide +kernel
theorem dX8_filedIn_6 : decode cX8_filedIn 6 = .ok (.iload 4, 2) := by decide +kernel
theorem dX8_filedIn_8 : decode cX8_filedIn 8 = .ok (.iload_n 2, 1) := by decide +kernel
theorem dX8_filedIn_9 : decode cX8_filedIn 9 = .ok (.if_icmp .ge 29, 3) := by decide +kernel
theorem dX8_filedIn_12 : decode cX8_filedIn 12 = .ok (.aload_n 0, 1) := by decide +kernel
theorem dX8_filedIn_13 : decode cX8_filedIn 13 = .ok (.getfield 7, 3) := by decide +kernel
theorem dX8_filedIn_16 : decode cX8_filedIn 16 = .ok (.iload_n 3, 1) := by decide +kernel
theorem dX8_filedIn_17 : decode cX8_filedIn 17 = .ok (.bipush 33, 2) := by decide +kernel
theorem dX8_filedIn_19 : decode cX8_filedIn 19 = .ok (.iadd, 1) := by decide +kernel
theorem dX8_filedIn_20 : decode cX8_filedIn 20 = .ok (.iload_n 1, 1) := by decide +kernel
theorem dX8_filedIn_21 : decode cX8_filedIn 21 = .ok (.iadd, 1) := by decide +kernel
theorem dX8_filedIn_22 : decode cX8_filedIn 22 = .ok (.iaload, 1) := by decide +kernel
theorem dX8_filedIn_23 : decode cX8_filedIn 23 = .ok (.iconst (-1), 1) := by decide +kernel
theorem dX8_filedIn_24 : decode cX8_filedIn 24 = .ok (.if_icmp .ne 14, 3) := by decide +kernel
theorem dX8_filedIn_27 : decode cX8_filedIn 27 = .ok (.aload_n 0, 1) := by decide +kernel
theorem dX8_filedIn_28 : decode cX8_filedIn 28 = .ok (.iload_n 3, 1) := by decide +kernel
theorem dX8_filedIn_29 : decode cX8_filedIn 29 = .ok (.invokevirtual 185, 3) := by decide +kernel
theorem dX8_filedIn_32 : decode cX8_filedIn 32 = .ok (.iinc 4 1, 3) := by decide +kernel
theorem dX8_filedIn_35 : decode cX8_filedIn 35 = .ok (.goto (-29), 3) := by decide +kernel
theorem dX8_filedIn_38 : decode cX8_filedIn 38 = .ok (.aload_n 0, 1) := by decide +kernel
theorem dX8_filedIn_39 : decode cX8_filedIn 39 = .ok (.getfield 7, 3) := by decide +kernel
theorem dX8_filedIn_42 : decode cX8_filedIn 42 = .ok (.iload_n 3, 1) := by decide +kernel
theorem dX8_filedIn_43 : decode cX8_filedIn 43 = .ok (.bipush 33, 2) := by decide +kernel
theorem dX8_filedIn_45 : decode cX8_filedIn 45 = .ok (.iadd, 1) := by decide +kernel
theorem dX8_filedIn_46 : decode cX8_filedIn 46 = .ok (.iload_n 1, 1) := by decide +kernel
theorem dX8_filedIn_47 : decode cX8_filedIn 47 = .ok (.iadd, 1) := by decide +kernel
theorem dX8_filedIn_48 : decode cX8_filedIn 48 = .ok (.iaload, 1) := by decide +kernel
theorem dX8_filedIn_49 : decode cX8_filedIn 49 = .ok (.ireturn, 1) := by decide +kernel
theorem dX8_filed_0 : decode cX8_filed 0 = .ok (.aload_n 0, 1) := by decide +kernel
theorem dX8_filed_1 : decode cX8_filed 1 = .ok (.iload_n 1, 1) := by decide +kernel
theorem dX8_filed_2 : decode cX8_filed 2 = .ok (.invokevirtual 160, 3) := by decide +kernel
theorem dX8_filed_5 : decode cX8_filed 5 = .ok (.ifCond .ne 6, 3) := by decide +kernel
theorem dX8_filed_8 : decode cX8_filed 8 = .ok (.bipush (-2), 2) := by decide +kernel
theorem dX8_filed_10 : decode cX8_filed 10 = .ok (.ireturn, 1) := by decide +kernel
theorem dX8_filed_11 : decode cX8_filed 11 = .ok (.aload_n 0, 1) := by decide +kernel
theorem dX8_filed_12 : decode cX8_filed 12 = .ok (.iconst 0, 1) := by decide +kernel
theorem dX8_filed_13 : decode cX8_filed 13 = .ok (.iconst 3, 1) := by decide +kernel
theorem dX8_filed_14 : decode cX8_filed 14 = .ok (.invokevirtual 67, 3) := by decide +kernel
theorem dX8_filed_17 : decode cX8_filed 17 = .ok (.aload_n 0, 1) := by decide +kernel
theorem dX8_filed_18 : decode cX8_filed 18 = .ok (.iload_n 1, 1) := by decide +kernel
theorem dX8_filed_19 : decode cX8_filed 19 = .ok (.sipush 200, 3) := by decide +kernel
theorem dX8_filed_22 : decode cX8_filed 22 = .ok (.invokevirtual 195, 3) := by decide +kernel
theorem dX8_filed_25 : decode cX8_filed 25 = .ok (.ireturn, 1) := by decide +kernel
theorem dX8_queue_0 : decode cX8_queue 0 = .ok (.aload_n 0, 1) := by decide +kernel
theorem dX8_queue_1 : decode cX8_queue 1 = .ok (.iload_n 1, 1) := by decide +kernel
theorem dX8_queue_2 : decode cX8_queue 2 = .ok (.invokevirtual 151, 3) := by decide +kernel
theorem dX8_queue_5 : decode cX8_queue 5 = .ok (.ifCond .ne 6, 3) := by decide +kernel
theorem dX8_queue_8 : decode cX8_queue 8 = .ok (.bipush (-2), 2) := by decide +kernel
theorem dX8_queue_10 : decode cX8_queue 10 = .ok (.ireturn, 1) := by decide +kernel
theorem dX8_queue_11 : decode cX8_queue 11 = .ok (.iload_n 2, 1) := by decide +kernel
theorem dX8_queue_12 : decode cX8_queue 12 = .ok (.i2l, 1) := by decide +kernel
theorem dX8_queue_13 : decode cX8_queue 13 = .ok (.lconst 0, 1) := by decide +kernel
theorem dX8_queue_14 : decode cX8_queue 14 = .ok (.ldc2_w 183, 3) := by decide +kernel
theorem dX8_queue_17 : decode cX8_queue 17 = .ok (.invokestatic 73, 3) := by decide +kernel
theorem dX8_queue_20 : decode cX8_queue 20 = .ok (.ifCond .ne 6, 3) := by decide +kernel
theorem dX8_queue_23 : decode cX8_queue 23 = .ok (.bipush (-3), 2) := by decide +kernel
theorem dX8_queue_25 : decode cX8_queue 25 = .ok (.ireturn, 1) := by decide +kernel
theorem dX8_queue_26 : decode cX8_queue 26 = .ok (.aload_n 0, 1) := by decide +kernel
theorem dX8_queue_27 : decode cX8_queue 27 = .ok (.iconst 0, 1) := by decide +kernel
theorem dX8_queue_28 : decode cX8_queue 28 = .ok (.iconst 3, 1) := by decide +kernel
theorem dX8_queue_29 : decode cX8_queue 29 = .ok (.invokevirtual 67, 3) := by decide +kernel
theorem dX8_queue_32 : decode cX8_queue 32 = .ok (.aload_n 0, 1) := by decide +kernel
theorem dX8_queue_33 : decode cX8_queue 33 = .ok (.iload_n 2, 1) := by decide +kernel
theorem dX8_queue_34 : decode cX8_queue 34 = .ok (.invokevirtual 192, 3) := by decide +kernel
theorem dX8_queue_37 : decode cX8_queue 37 = .ok (.bipush 117, 2) := by decide +kernel
theorem dX8_queue_39 : decode cX8_queue 39 = .ok (.istore_n 3, 1) := by decide +kernel
theorem dX8_queue_40 : decode cX8_queue 40 = .ok (.iconst 0, 1) := by decide +kernel
theorem dX8_queue_41 : decode cX8_queue 41 = .ok (.istore 4, 2) := by decide +kernel
theorem dX8_queue_43 : decode cX8_queue 43 = .ok (.iconst 0, 1) := by decide +kernel
theorem dX8_queue_44 : decode cX8_queue 44 = .ok (.istore 5, 2) := by decide +kernel
theorem dX8_queue_46 : decode cX8_queue 46 = .ok (.iload 5, 2) := by decide +kernel
theorem dX8_queue_48 : decode cX8_queue 48 = .ok (.aload_n 0, 1) := by decide +kernel
theorem dX8_queue_49 : decode cX8_queue 49 = .ok (.getfield 64, 3) := by decide +kernel
theorem dX8_queue_52 : decode cX8_queue 52 = .ok (.if_icmp .ge 51, 3) := by decide +kernel
theorem dX8_queue_55 : decode cX8_queue 55 = .ok (.iload 4, 2) := by decide +kernel
theorem dX8_queue_57 : decode cX8_queue 57 = .ok (.aload_n 0, 1) := by decide +kernel
theorem dX8_queue_58 : decode cX8_queue 58 = .ok (.getfield 7, 3) := by decide +kernel
theorem dX8_queue_61 : decode cX8_queue 61 = .ok (.iload_n 3, 1) := by decide +kernel
theorem dX8_queue_62 : decode cX8_queue 62 = .ok (.bipush 15, 2) := by decide +kernel
theorem dX8_queue_64 : decode cX8_queue 64 = .ok (.iadd, 1) := by decide +kernel
theorem dX8_queue_65 : decode cX8_queue 65 = .ok (.iload 5, 2) := by decide +kernel
theorem dX8_queue_67 : decode cX8_queue 67 = .ok (.iadd, 1) := by decide +kernel
theorem dX8_queue_68 : decode cX8_queue 68 = .ok (.iaload, 1) := by decide +kernel
theorem dX8_queue_69 : decode cX8_queue 69 = .ok (.iload_n 1, 1) := by decide +kernel
theorem dX8_queue_70 : decode cX8_queue 70 = .ok (.if_icmp .ne 23, 3) := by decide +kernel
theorem dX8_queue_73 : decode cX8_queue 73 = .ok (.aload_n 0, 1) := by decide +kernel
theorem dX8_queue_74 : decode cX8_queue 74 = .ok (.getfield 7, 3) := by decide +kernel
theorem dX8_queue_77 : decode cX8_queue 77 = .ok (.iload_n 3, 1) := by decide +kernel
theorem dX8_queue_78 : decode cX8_queue 78 = .ok (.bipush 33, 2) := by decide +kernel
theorem dX8_queue_80 : decode cX8_queue 80 = .ok (.iadd, 1) := by decide +kernel
theorem dX8_queue_81 : decode cX8_queue 81 = .ok (.iload 5, 2) := by decide +kernel
theorem dX8_queue_83 : decode cX8_queue 83 = .ok (.iadd, 1) := by decide +kernel
theorem dX8_queue_84 : decode cX8_queue 84 = .ok (.iaload, 1) := by decide +kernel
theorem dX8_queue_85 : decode cX8_queue 85 = .ok (.iconst (-1), 1) := by decide +kernel
theorem dX8_queue_86 : decode cX8_queue 86 = .ok (.if_icmp .ne 7, 3) := by decide +kernel
theorem dX8_queue_89 : decode cX8_queue 89 = .ok (.iconst 1, 1) := by decide +kernel
theorem dX8_queue_90 : decode cX8_queue 90 = .ok (.goto 4, 3) := by decide +kernel
theorem dX8_queue_93 : decode cX8_queue 93 = .ok (.iconst 0, 1) := by decide +kernel
theorem dX8_queue_94 : decode cX8_queue 94 = .ok (.iadd, 1) := by decide +kernel
theorem dX8_queue_95 : decode cX8_queue 95 = .ok (.istore 4, 2) := by decide +kernel
theorem dX8_queue_97 : decode cX8_queue 97 = .ok (.iinc 5 1, 3) := by decide +kernel
theorem dX8_queue_100 : decode cX8_queue 100 = .ok (.goto (-54), 3) := by decide +kernel
theorem dX8_queue_103 : decode cX8_queue 103 = .ok (.iload 4, 2) := by decide +kernel
theorem dX8_queue_105 : decode cX8_queue 105 = .ok (.ireturn, 1) := by decide +kernel
theorem dX8_filedSet_0 : decode cX8_filedSet 0 = .ok (.iconst 0, 1) := by decide +kernel
theorem dX8_filedSet_1 : decode cX8_filedSet 1 = .ok (.istore_n 2, 1) := by decide +kernel
theorem dX8_filedSet_2 : decode cX8_filedSet 2 = .ok (.iconst 0, 1) := by decide +kernel
theorem dX8_filedSet_3 : decode cX8_filedSet 3 = .ok (.istore_n 3, 1) := by decide +kernel
theorem dX8_filedSet_4 : decode cX8_filedSet 4 = .ok (.iload_n 3, 1) := by decide +kernel
theorem dX8_filedSet_5 : decode cX8_filedSet 5 = .ok (.aload_n 0, 1) := by decide +kernel
theorem dX8_filedSet_6 : decode cX8_filedSet 6 = .ok (.getfield 64, 3) := by decide +kernel
theorem dX8_filedSet_9 : decode cX8_filedSet 9 = .ok (.if_icmp .ge 34, 3) := by decide +kernel
theorem dX8_filedSet_12 : decode cX8_filedSet 12 = .ok (.iload_n 2, 1) := by decide +kernel
theorem dX8_filedSet_13 : decode cX8_filedSet 13 = .ok (.aload_n 0, 1) := by decide +kernel
theorem dX8_filedSet_14 : decode cX8_filedSet 14 = .ok (.getfield 7, 3) := by decide +kernel
theorem dX8_filedSet_17 : decode cX8_filedSet 17 = .ok (.iload_n 1, 1) := by decide +kernel
theorem dX8_filedSet_18 : decode cX8_filedSet 18 = .ok (.bipush 33, 2) := by decide +kernel
theorem dX8_filedSet_20 : decode cX8_filedSet 20 = .ok (.iadd, 1) := by decide +kernel
theorem dX8_filedSet_21 : decode cX8_filedSet 21 = .ok (.iload_n 3, 1) := by decide +kernel
theorem dX8_filedSet_22 : decode cX8_filedSet 22 = .ok (.iadd, 1) := by decide +kernel
theorem dX8_filedSet_23 : decode cX8_filedSet 23 = .ok (.iaload, 1) := by decide +kernel
theorem dX8_filedSet_24 : decode cX8_filedSet 24 = .ok (.iconst (-1), 1) := by decide +kernel
theorem dX8_filedSet_25 : decode cX8_filedSet 25 = .ok (.if_icmp .ne 7, 3) := by decide +kernel
theorem dX8_filedSet_28 : decode cX8_filedSet 28 = .ok (.iconst 0, 1) := by decide +kernel
theorem dX8_filedSet_29 : decode cX8_filedSet 29 = .ok (.goto 6, 3) := by decide +kernel
theorem dX8_filedSet_32 : decode cX8_filedSet 32 = .ok (.iconst 1, 1) := by decide +kernel
theorem dX8_filedSet_33 : decode cX8_filedSet 33 = .ok (.iload_n 3, 1) := by decide +kernel
theorem dX8_filedSet_34 : decode cX8_filedSet 34 = .ok (.ishl, 1) := by decide +kernel
theorem dX8_filedSet_35 : decode cX8_filedSet 35 = .ok (.ior, 1) := by decide +kernel
theorem dX8_filedSet_36 : decode cX8_filedSet 36 = .ok (.istore_n 2, 1) := by decide +kernel
theorem dX8_filedSet_37 : decode cX8_filedSet 37 = .ok (.iinc 3 1, 3) := by decide +kernel
theorem dX8_filedSet_40 : decode cX8_filedSet 40 = .ok (.goto (-36), 3) := by decide +kernel
theorem dX8_filedSet_43 : decode cX8_filedSet 43 = .ok (.iload_n 2, 1) := by decide +kernel
theorem dX8_filedSet_44 : decode cX8_filedSet 44 = .ok (.ireturn, 1) := by decide +kernel
theorem dX8_gets_0 : decode cX8_gets 0 = .ok (.iload_n 0, 1) := by decide +kernel
theorem dX8_gets_1 : decode cX8_gets 1 = .ok (.istore_n 3, 1) := by decide +kernel
theorem dX8_gets_2 : decode cX8_gets 2 = .ok (.iload_n 2, 1) := by decide +kernel
theorem dX8_gets_3 : decode cX8_gets 3 = .ok (.iconst 1, 1) := by decide +kernel
theorem dX8_gets_4 : decode cX8_gets 4 = .ok (.iadd, 1) := by decide +kernel
theorem dX8_gets_5 : decode cX8_gets 5 = .ok (.istore 4, 2) := by decide +kernel
theorem dX8_gets_7 : decode cX8_gets 7 = .ok (.iload 4, 2) := by decide +kernel
theorem dX8_gets_9 : decode cX8_gets 9 = .ok (.iload_n 1, 1) := by decide +kernel
theorem dX8_gets_10 : decode cX8_gets 10 = .ok (.if_icmp .ge 14, 3) := by decide +kernel
theorem dX8_gets_13 : decode cX8_gets 13 = .ok (.iload_n 3, 1) := by decide +kernel
theorem dX8_gets_14 : decode cX8_gets 14 = .ok (.bipush 10, 2) := by decide +kernel
theorem dX8_gets_16 : decode cX8_gets 16 = .ok (.idiv, 1) := by decide +kernel
theorem dX8_gets_17 : decode cX8_gets 17 = .ok (.istore_n 3, 1) := by decide +kernel
theorem dX8_gets_18 : decode cX8_gets 18 = .ok (.iinc 4 1, 3) := by decide +kernel
theorem dX8_gets_21 : decode cX8_gets 21 = .ok (.goto (-14), 3) := by decide +kernel
theorem dX8_gets_24 : decode cX8_gets 24 = .ok (.iload_n 3, 1) := by decide +kernel
theorem dX8_gets_25 : decode cX8_gets 25 = .ok (.bipush 10, 2) := by decide +kernel
theorem dX8_gets_27 : decode cX8_gets 27 = .ok (.irem, 1) := by decide +kernel
theorem dX8_gets_28 : decode cX8_gets 28 = .ok (.ireturn, 1) := by decide +kernel
theorem dX8_gives_0 : decode cX8_gives 0 = .ok (.aload_n 0, 1) := by decide +kernel
theorem dX8_gives_1 : decode cX8_gives 1 = .ok (.iconst 0, 1) := by decide +kernel
theorem dX8_gives_2 : decode cX8_gives 2 = .ok (.iconst 3, 1) := by decide +kernel
theorem dX8_gives_3 : decode cX8_gives 3 = .ok (.invokevirtual 67, 3) := by decide +kernel
theorem dX8_gives_6 : decode cX8_gives 6 = .ok (.bipush 117, 2) := by decide +kernel
theorem dX8_gives_8 : decode cX8_gives 8 = .ok (.istore 4, 2) := by decide +kernel
theorem dX8_gives_10 : decode cX8_gives 10 = .ok (.iconst 0, 1) := by decide +kernel
theorem dX8_gives_11 : decode cX8_gives 11 = .ok (.istore 5, 2) := by decide +kernel
theorem dX8_gives_13 : decode cX8_gives 13 = .ok (.iconst 0, 1) := by decide +kernel
theorem dX8_gives_14 : decode cX8_gives 14 = .ok (.istore 6, 2) := by decide +kernel
theorem dX8_gives_16 : decode cX8_gives 16 = .ok (.iconst 0, 1) := by decide +kernel
theorem dX8_gives_17 : decode cX8_gives 17 = .ok (.istore 7, 2) := by decide +kernel
theorem dX8_gives_19 : decode cX8_gives 19 = .ok (.iload 7, 2) := by decide +kernel
theorem dX8_gives_21 : decode cX8_gives 21 = .ok (.aload_n 0, 1) := by decide +kernel
theorem dX8_gives_22 : decode cX8_gives 22 = .ok (.getfield 64, 3) := by decide +kernel
theorem dX8_gives_25 : decode cX8_gives 25 = .ok (.if_icmp .ge 78, 3) := by decide +kernel
theorem dX8_gives_28 : decode cX8_gives 28 = .ok (.iload_n 2, 1) := by decide +kernel
theorem dX8_gives_29 : decode cX8_gives 29 = .ok (.iload 7, 2) := by decide +kernel
theorem dX8_gives_31 : decode cX8_gives 31 = .ok (.invokestatic 198, 3) := by decide +kernel
theorem dX8_gives_34 : decode cX8_gives 34 = .ok (.ifCond .eq 63, 3) := by decide +kernel
theorem dX8_gives_37 : decode cX8_gives 37 = .ok (.iload_n 1, 1) := by decide +kernel
theorem dX8_gives_38 : decode cX8_gives 38 = .ok (.iload_n 2, 1) := by decide +kernel
theorem dX8_gives_39 : decode cX8_gives 39 = .ok (.invokestatic 201, 3) := by decide +kernel
theorem dX8_gives_42 : decode cX8_gives 42 = .ok (.iload 5, 2) := by decide +kernel
theorem dX8_gives_44 : decode cX8_gives 44 = .ok (.invokestatic 204, 3) := by decide +kernel
theorem dX8_gives_47 : decode cX8_gives 47 = .ok (.istore 8, 2) := by decide +kernel
theorem dX8_gives_49 : decode cX8_gives 49 = .ok (.aload_n 0, 1) := by decide +kernel
theorem dX8_gives_50 : decode cX8_gives 50 = .ok (.getfield 7, 3) := by decide +kernel
theorem dX8_gives_53 : decode cX8_gives 53 = .ok (.iload 4, 2) := by decide +kernel
theorem dX8_gives_55 : decode cX8_gives 55 = .ok (.bipush 21, 2) := by decide +kernel
theorem dX8_gives_57 : decode cX8_gives 57 = .ok (.iadd, 1) := by decide +kernel
theorem dX8_gives_58 : decode cX8_gives 58 = .ok (.iload 7, 2) := by decide +kernel
theorem dX8_gives_60 : decode cX8_gives 60 = .ok (.iadd, 1) := by decide +kernel
theorem dX8_gives_61 : decode cX8_gives 61 = .ok (.dup2, 1) := by decide +kernel
theorem dX8_gives_62 : decode cX8_gives 62 = .ok (.iaload, 1) := by decide +kernel
theorem dX8_gives_63 : decode cX8_gives 63 = .ok (.iload 8, 2) := by decide +kernel
theorem dX8_gives_65 : decode cX8_gives 65 = .ok (.iadd, 1) := by decide +kernel
theorem dX8_gives_66 : decode cX8_gives 66 = .ok (.iastore, 1) := by decide +kernel
theorem dX8_gives_67 : decode cX8_gives 67 = .ok (.aload_n 0, 1) := by decide +kernel
theorem dX8_gives_68 : decode cX8_gives 68 = .ok (.getfield 7, 3) := by decide +kernel
theorem dX8_gives_71 : decode cX8_gives 71 = .ok (.iload 4, 2) := by decide +kernel
theorem dX8_gives_73 : decode cX8_gives 73 = .ok (.bipush 21, 2) := by decide +kernel
theorem dX8_gives_75 : decode cX8_gives 75 = .ok (.iadd, 1) := by decide +kernel
theorem dX8_gives_76 : decode cX8_gives 76 = .ok (.iload 7, 2) := by decide +kernel
theorem dX8_gives_78 : decode cX8_gives 78 = .ok (.iadd, 1) := by decide +kernel
theorem dX8_gives_79 : decode cX8_gives 79 = .ok (.iaload, 1) := by decide +kernel
theorem dX8_gives_80 : decode cX8_gives 80 = .ok (.bipush 9, 2) := by decide +kernel
theorem dX8_gives_82 : decode cX8_gives 82 = .ok (.if_icmp .le 5, 3) := by decide +kernel
theorem dX8_gives_85 : decode cX8_gives 85 = .ok (.iconst (-1), 1) := by decide +kernel
theorem dX8_gives_86 : decode cX8_gives 86 = .ok (.ireturn, 1) := by decide +kernel
theorem dX8_gives_87 : decode cX8_gives 87 = .ok (.iload 6, 2) := by decide +kernel
theorem dX8_gives_89 : decode cX8_gives 89 = .ok (.iload 8, 2) := by decide +kernel
theorem dX8_gives_91 : decode cX8_gives 91 = .ok (.iadd, 1) := by decide +kernel
theorem dX8_gives_92 : decode cX8_gives 92 = .ok (.istore 6, 2) := by decide +kernel
theorem dX8_gives_94 : decode cX8_gives 94 = .ok (.iinc 5 1, 3) := by decide +kernel
theorem dX8_gives_97 : decode cX8_gives 97 = .ok (.iinc 7 1, 3) := by decide +kernel
theorem dX8_gives_100 : decode cX8_gives 100 = .ok (.goto (-81), 3) := by decide +kernel
theorem dX8_gives_103 : decode cX8_gives 103 = .ok (.aload_n 0, 1) := by decide +kernel
theorem dX8_gives_104 : decode cX8_gives 104 = .ok (.iload_n 3, 1) := by decide +kernel
theorem dX8_gives_105 : decode cX8_gives 105 = .ok (.invokevirtual 192, 3) := by decide +kernel
theorem dX8_gives_108 : decode cX8_gives 108 = .ok (.iload_n 2, 1) := by decide +kernel
theorem dX8_gives_109 : decode cX8_gives 109 = .ok (.aload_n 0, 1) := by decide +kernel
theorem dX8_gives_110 : decode cX8_gives 110 = .ok (.iload 4, 2) := by decide +kernel
theorem dX8_gives_112 : decode cX8_gives 112 = .ok (.invokevirtual 207, 3) := by decide +kernel
theorem dX8_gives_115 : decode cX8_gives 115 = .ok (.iconst (-1), 1) := by decide +kernel
theorem dX8_gives_116 : decode cX8_gives 116 = .ok (.ixor, 1) := by decide +kernel
theorem dX8_gives_117 : decode cX8_gives 117 = .ok (.iand, 1) := by decide +kernel
theorem dX8_gives_118 : decode cX8_gives 118 = .ok (.ifCond .ne 8, 3) := by decide +kernel
theorem dX8_gives_121 : decode cX8_gives 121 = .ok (.iload 6, 2) := by decide +kernel
theorem dX8_gives_123 : decode cX8_gives 123 = .ok (.goto 4, 3) := by decide +kernel
theorem dX8_gives_126 : decode cX8_gives 126 = .ok (.iconst (-1), 1) := by decide +kernel
theorem dX8_gives_127 : decode cX8_gives 127 = .ok (.ireturn, 1) := by decide +kernel
theorem dX8_honey_0 : decode cX8_honey 0 = .ok (.iload_n 1, 1) := by decide +kernel
theorem dX8_honey_1 : decode cX8_honey 1 = .ok (.i2l, 1) := by decide +kernel
theorem dX8_honey_2 : decode cX8_honey 2 = .ok (.lconst 0, 1) := by decide +kernel
theorem dX8_honey_3 : decode cX8_honey 3 = .ok (.iconst 1, 1) := by decide +kernel
theorem dX8_honey_4 : decode cX8_honey 4 = .ok (.aload_n 0, 1) := by decide +kernel
theorem dX8_honey_5 : decode cX8_honey 5 = .ok (.getfield 64, 3) := by decide +kernel
theorem dX8_honey_8 : decode cX8_honey 8 = .ok (.ishl, 1) := by decide +kernel
theorem dX8_honey_9 : decode cX8_honey 9 = .ok (.iconst 1, 1) := by decide +kernel
theorem dX8_honey_10 : decode cX8_honey 10 = .ok (.isub, 1) := by decide +kernel
theorem dX8_honey_11 : decode cX8_honey 11 = .ok (.i2l, 1) := by decide +kernel
theorem dX8_honey_12 : decode cX8_honey 12 = .ok (.invokestatic 73, 3) := by decide +kernel
theorem dX8_honey_15 : decode cX8_honey 15 = .ok (.ifCond .ne 6, 3) := by decide +kernel
theorem dX8_honey_18 : decode cX8_honey 18 = .ok (.bipush (-2), 2) := by decide +kernel
theorem dX8_honey_20 : decode cX8_honey 20 = .ok (.ireturn, 1) := by decide +kernel
theorem dX8_honey_21 : decode cX8_honey 21 = .ok (.iload_n 2, 1) := by decide +kernel
theorem dX8_honey_22 : decode cX8_honey 22 = .ok (.i2l, 1) := by decide +kernel
theorem dX8_honey_23 : decode cX8_honey 23 = .ok (.lconst 1, 1) := by decide +kernel
theorem dX8_honey_24 : decode cX8_honey 24 = .ok (.ldc2_w 210, 3) := by decide +kernel
theorem dX8_honey_27 : decode cX8_honey 27 = .ok (.invokestatic 73, 3) := by decide +kernel
theorem dX8_honey_30 : decode cX8_honey 30 = .ok (.ifCond .eq 8, 3) := by decide +kernel
theorem dX8_honey_33 : decode cX8_honey 33 = .ok (.iload_n 3, 1) := by decide +kernel
theorem dX8_honey_34 : decode cX8_honey 34 = .ok (.iconst (-1), 1) := by decide +kernel
theorem dX8_honey_35 : decode cX8_honey 35 = .ok (.if_icmp .ge 6, 3) := by decide +kernel
theorem dX8_honey_38 : decode cX8_honey 38 = .ok (.bipush (-3), 2) := by decide +kernel
theorem dX8_honey_40 : decode cX8_honey 40 = .ok (.ireturn, 1) := by decide +kernel
theorem dX8_honey_41 : decode cX8_honey 41 = .ok (.iload_n 1, 1) := by decide +kernel
theorem dX8_honey_42 : decode cX8_honey 42 = .ok (.invokestatic 201, 3) := by decide +kernel
theorem dX8_honey_45 : decode cX8_honey 45 = .ok (.istore 4, 2) := by decide +kernel
theorem dX8_honey_47 : decode cX8_honey 47 = .ok (.iload 4, 2) := by decide +kernel
theorem dX8_honey_49 : decode cX8_honey 49 = .ok (.iconst 4, 1) := by decide +kernel
theorem dX8_honey_50 : decode cX8_honey 50 = .ok (.if_icmp .gt 13, 3) := by decide +kernel
theorem dX8_honey_53 : decode cX8_honey 53 = .ok (.iload_n 1, 1) := by decide +kernel
theorem dX8_honey_54 : decode cX8_honey 54 = .ok (.aload_n 0, 1) := by decide +kernel
theorem dX8_honey_55 : decode cX8_honey 55 = .ok (.iconst 0, 1) := by decide +kernel
theorem dX8_honey_56 : decode cX8_honey 56 = .ok (.invokevirtual 207, 3) := by decide +kernel
theorem dX8_honey_59 : decode cX8_honey 59 = .ok (.iand, 1) := by decide +kernel
theorem dX8_honey_60 : decode cX8_honey 60 = .ok (.ifCond .eq 6, 3) := by decide +kernel
theorem dX8_honey_63 : decode cX8_honey 63 = .ok (.bipush (-4), 2) := by decide +kernel
theorem dX8_honey_65 : decode cX8_honey 65 = .ok (.ireturn, 1) := by decide +kernel
theorem dX8_honey_66 : decode cX8_honey 66 = .ok (.iconst 1, 1) := by decide +kernel
theorem dX8_honey_67 : decode cX8_honey 67 = .ok (.istore 5, 2) := by decide +kernel
theorem dX8_honey_69 : decode cX8_honey 69 = .ok (.iconst 0, 1) := by decide +kernel
theorem dX8_honey_70 : decode cX8_honey 70 = .ok (.istore 6, 2) := by decide +kernel
theorem dX8_honey_72 : decode cX8_honey 72 = .ok (.iload 6, 2) := by decide +kernel
theorem dX8_honey_74 : decode cX8_honey 74 = .ok (.iload 4, 2) := by decide +kernel
theorem dX8_honey_76 : decode cX8_honey 76 = .ok (.if_icmp .ge 16, 3) := by decide +kernel
theorem dX8_honey_79 : decode cX8_honey 79 = .ok (.iload 5, 2) := by decide +kernel
theorem dX8_honey_81 : decode cX8_honey 81 = .ok (.bipush 10, 2) := by decide +kernel
theorem dX8_honey_83 : decode cX8_honey 83 = .ok (.imul, 1) := by decide +kernel
theorem dX8_honey_84 : decode cX8_honey 84 = .ok (.istore 5, 2) := by decide +kernel
theorem dX8_honey_86 : decode cX8_honey 86 = .ok (.iinc 6 1, 3) := by decide +kernel
theorem dX8_honey_89 : decode cX8_honey 89 = .ok (.goto (-17), 3) := by decide +kernel
theorem dX8_honey_92 : decode cX8_honey 92 = .ok (.iconst (-1), 1) := by decide +kernel
theorem dX8_honey_93 : decode cX8_honey 93 = .ok (.istore 6, 2) := by decide +kernel
theorem dX8_honey_95 : decode cX8_honey 95 = .ok (.bipush 99, 2) := by decide +kernel
theorem dX8_honey_97 : decode cX8_honey 97 = .ok (.istore 7, 2) := by decide +kernel
theorem dX8_honey_99 : decode cX8_honey 99 = .ok (.iconst 0, 1) := by decide +kernel
theorem dX8_honey_100 : decode cX8_honey 100 = .ok (.istore 8, 2) := by decide +kernel
theorem dX8_honey_102 : decode cX8_honey 102 = .ok (.iload 8, 2) := by decide +kernel
theorem dX8_honey_104 : decode cX8_honey 104 = .ok (.iload 5, 2) := by decide +kernel
theorem dX8_honey_106 : decode cX8_honey 106 = .ok (.if_icmp .ge 40, 3) := by decide +kernel
theorem dX8_honey_109 : decode cX8_honey 109 = .ok (.aload_n 0, 1) := by decide +kernel
theorem dX8_honey_110 : decode cX8_honey 110 = .ok (.iload 8, 2) := by decide +kernel
theorem dX8_honey_112 : decode cX8_honey 112 = .ok (.iload_n 1, 1) := by decide +kernel
theorem dX8_honey_113 : decode cX8_honey 113 = .ok (.iload_n 2, 1) := by decide +kernel
theorem dX8_honey_114 : decode cX8_honey 114 = .ok (.invokevirtual 212, 3) := by decide +kernel
theorem dX8_honey_117 : decode cX8_honey 117 = .ok (.istore 9, 2) := by decide +kernel
theorem dX8_honey_119 : decode cX8_honey 119 = .ok (.iload 9, 2) := by decide +kernel
theorem dX8_honey_121 : decode cX8_honey 121 = .ok (.iconst (-1), 1) := by decide +kernel
theorem dX8_honey_122 : decode cX8_honey 122 = .ok (.if_icmp .eq 18, 3) := by decide +kernel
theorem dX8_honey_125 : decode cX8_honey 125 = .ok (.iload 9, 2) := by decide +kernel
theorem dX8_honey_127 : decode cX8_honey 127 = .ok (.iload 7, 2) := by decide +kernel
theorem dX8_honey_129 : decode cX8_honey 129 = .ok (.if_icmp .ge 11, 3) := by decide +kernel
theorem dX8_honey_132 : decode cX8_honey 132 = .ok (.iload 9, 2) := by decide +kernel
theorem dX8_honey_134 : decode cX8_honey 134 = .ok (.istore 7, 2) := by decide +kernel
theorem dX8_honey_136 : decode cX8_honey 136 = .ok (.iload 8, 2) := by decide +kernel
theorem dX8_honey_138 : decode cX8_honey 138 = .ok (.istore 6, 2) := by decide +kernel
theorem dX8_honey_140 : decode cX8_honey 140 = .ok (.iinc 8 1, 3) := by decide +kernel
theorem dX8_honey_143 : decode cX8_honey 143 = .ok (.goto (-41), 3) := by decide +kernel
theorem dX8_honey_146 : decode cX8_honey 146 = .ok (.iload 6, 2) := by decide +kernel
theorem dX8_honey_148 : decode cX8_honey 148 = .ok (.iconst (-1), 1) := by decide +kernel
theorem dX8_honey_149 : decode cX8_honey 149 = .ok (.if_icmp .ne 7, 3) := by decide +kernel
theorem dX8_honey_152 : decode cX8_honey 152 = .ok (.iconst (-1), 1) := by decide +kernel
theorem dX8_honey_153 : decode cX8_honey 153 = .ok (.goto 31, 3) := by decide +kernel
theorem dX8_honey_156 : decode cX8_honey 156 = .ok (.iload_n 3, 1) := by decide +kernel
theorem dX8_honey_157 : decode cX8_honey 157 = .ok (.iconst (-1), 1) := by decide +kernel
theorem dX8_honey_158 : decode cX8_honey 158 = .ok (.if_icmp .ne 8, 3) := by decide +kernel
theorem dX8_honey_161 : decode cX8_honey 161 = .ok (.iload 7, 2) := by decide +kernel
theorem dX8_honey_163 : decode cX8_honey 163 = .ok (.goto 21, 3) := by decide +kernel
theorem dX8_honey_166 : decode cX8_honey 166 = .ok (.iload_n 3, 1) := by decide +kernel
theorem dX8_honey_167 : decode cX8_honey 167 = .ok (.iload 4, 2) := by decide +kernel
theorem dX8_honey_169 : decode cX8_honey 169 = .ok (.if_icmp .ge 14, 3) := by decide +kernel
theorem dX8_honey_172 : decode cX8_honey 172 = .ok (.iload 6, 2) := by decide +kernel
theorem dX8_honey_174 : decode cX8_honey 174 = .ok (.iload 4, 2) := by decide +kernel
theorem dX8_honey_176 : decode cX8_honey 176 = .ok (.iload_n 3, 1) := by decide +kernel
theorem dX8_honey_177 : decode cX8_honey 177 = .ok (.invokestatic 204, 3) := by decide +kernel
theorem dX8_honey_180 : decode cX8_honey 180 = .ok (.goto 4, 3) := by decide +kernel
theorem dX8_honey_183 : decode cX8_honey 183 = .ok (.iconst (-1), 1) := by decide +kernel
theorem dX8_honey_184 : decode cX8_honey 184 = .ok (.ireturn, 1) := by decide +kernel
theorem dX8_smear_0 : decode cX8_smear 0 = .ok (.aload_n 0, 1) := by decide +kernel
theorem dX8_smear_1 : decode cX8_smear 1 = .ok (.iload_n 1, 1) := by decide +kernel
theorem dX8_smear_2 : decode cX8_smear 2 = .ok (.invokevirtual 160, 3) := by decide +kernel
theorem dX8_smear_5 : decode cX8_smear 5 = .ok (.ifCond .ne 6, 3) := by decide +kernel
theorem dX8_smear_8 : decode cX8_smear 8 = .ok (.bipush (-2), 2) := by decide +kernel
theorem dX8_smear_10 : decode cX8_smear 10 = .ok (.ireturn, 1) := by decide +kernel
theorem dX8_smear_11 : decode cX8_smear 11 = .ok (.iload_n 2, 1) := by decide +kernel
theorem dX8_smear_12 : decode cX8_smear 12 = .ok (.i2l, 1) := by decide +kernel
theorem dX8_smear_13 : decode cX8_smear 13 = .ok (.lconst 1, 1) := by decide +kernel
theorem dX8_smear_14 : decode cX8_smear 14 = .ok (.ldc2_w 183, 3) := by decide +kernel
theorem dX8_smear_17 : decode cX8_smear 17 = .ok (.invokestatic 73, 3) := by decide +kernel
theorem dX8_smear_20 : decode cX8_smear 20 = .ok (.ifCond .eq 15, 3) := by decide +kernel
theorem dX8_smear_23 : decode cX8_smear 23 = .ok (.iload_n 3, 1) := by decide +kernel
theorem dX8_smear_24 : decode cX8_smear 24 = .ok (.i2l, 1) := by decide +kernel
theorem dX8_smear_25 : decode cX8_smear 25 = .ok (.lconst 0, 1) := by decide +kernel
theorem dX8_smear_26 : decode cX8_smear 26 = .ok (.ldc2_w 190, 3) := by decide +kernel
theorem dX8_smear_29 : decode cX8_smear 29 = .ok (.invokestatic 73, 3) := by decide +kernel
theorem dX8_smear_32 : decode cX8_smear 32 = .ok (.ifCond .ne 6, 3) := by decide +kernel
theorem dX8_smear_35 : decode cX8_smear 35 = .ok (.bipush (-3), 2) := by decide +kernel
theorem dX8_smear_37 : decode cX8_smear 37 = .ok (.ireturn, 1) := by decide +kernel
theorem dX8_smear_38 : decode cX8_smear 38 = .ok (.aload_n 0, 1) := by decide +kernel
theorem dX8_smear_39 : decode cX8_smear 39 = .ok (.getfield 7, 3) := by decide +kernel
theorem dX8_smear_42 : decode cX8_smear 42 = .ok (.bipush 33, 2) := by decide +kernel
theorem dX8_smear_44 : decode cX8_smear 44 = .ok (.iload_n 1, 1) := by decide +kernel
theorem dX8_smear_45 : decode cX8_smear 45 = .ok (.iadd, 1) := by decide +kernel
theorem dX8_smear_46 : decode cX8_smear 46 = .ok (.iaload, 1) := by decide +kernel
theorem dX8_smear_47 : decode cX8_smear 47 = .ok (.iconst (-1), 1) := by decide +kernel
theorem dX8_smear_48 : decode cX8_smear 48 = .ok (.if_icmp .eq 6, 3) := by decide +kernel
theorem dX8_smear_51 : decode cX8_smear 51 = .ok (.bipush (-4), 2) := by decide +kernel
theorem dX8_smear_53 : decode cX8_smear 53 = .ok (.ireturn, 1) := by decide +kernel
theorem dX8_smear_54 : decode cX8_smear 54 = .ok (.iconst (-1), 1) := by decide +kernel
theorem dX8_smear_55 : decode cX8_smear 55 = .ok (.istore 4, 2) := by decide +kernel
theorem dX8_smear_57 : decode cX8_smear 57 = .ok (.ldc 215, 2) := by decide +kernel
theorem dX8_smear_59 : decode cX8_smear 59 = .ok (.istore 5, 2) := by decide +kernel
theorem dX8_smear_61 : decode cX8_smear 61 = .ok (.iconst 0, 1) := by decide +kernel
theorem dX8_smear_62 : decode cX8_smear 62 = .ok (.istore 6, 2) := by decide +kernel
theorem dX8_smear_64 : decode cX8_smear 64 = .ok (.iload 6, 2) := by decide +kernel
theorem dX8_smear_66 : decode cX8_smear 66 = .ok (.bipush 100, 2) := by decide +kernel
theorem dX8_smear_68 : decode cX8_smear 68 = .ok (.aload_n 0, 1) := by decide +kernel
theorem dX8_smear_69 : decode cX8_smear 69 = .ok (.getfield 61, 3) := by decide +kernel
theorem dX8_smear_72 : decode cX8_smear 72 = .ok (.imul, 1) := by decide +kernel
theorem dX8_smear_73 : decode cX8_smear 73 = .ok (.if_icmp .ge 62, 3) := by decide +kernel
theorem dX8_smear_76 : decode cX8_smear 76 = .ok (.aload_n 0, 1) := by decide +kernel
theorem dX8_smear_77 : decode cX8_smear 77 = .ok (.iconst 0, 1) := by decide +kernel
theorem dX8_smear_78 : decode cX8_smear 78 = .ok (.iconst 3, 1) := by decide +kernel
theorem dX8_smear_79 : decode cX8_smear 79 = .ok (.invokevirtual 67, 3) := by decide +kernel
theorem dX8_smear_82 : decode cX8_smear 82 = .ok (.aload_n 0, 1) := by decide +kernel
theorem dX8_smear_83 : decode cX8_smear 83 = .ok (.getfield 7, 3) := by decide +kernel
theorem dX8_smear_86 : decode cX8_smear 86 = .ok (.bipush 120, 2) := by decide +kernel
theorem dX8_smear_88 : decode cX8_smear 88 = .ok (.iload 6, 2) := by decide +kernel
theorem dX8_smear_90 : decode cX8_smear 90 = .ok (.bipush 100, 2) := by decide +kernel
theorem dX8_smear_92 : decode cX8_smear 92 = .ok (.idiv, 1) := by decide +kernel
theorem dX8_smear_93 : decode cX8_smear 93 = .ok (.iadd, 1) := by decide +kernel
theorem dX8_smear_94 : decode cX8_smear 94 = .ok (.iload 6, 2) := by decide +kernel
theorem dX8_smear_96 : decode cX8_smear 96 = .ok (.bipush 100, 2) := by decide +kernel
theorem dX8_smear_98 : decode cX8_smear 98 = .ok (.irem, 1) := by decide +kernel
theorem dX8_smear_99 : decode cX8_smear 99 = .ok (.iastore, 1) := by decide +kernel
theorem dX8_smear_100 : decode cX8_smear 100 = .ok (.aload_n 0, 1) := by decide +kernel
theorem dX8_smear_101 : decode cX8_smear 101 = .ok (.iload_n 1, 1) := by decide +kernel
theorem dX8_smear_102 : decode cX8_smear 102 = .ok (.iload_n 2, 1) := by decide +kernel
theorem dX8_smear_103 : decode cX8_smear 103 = .ok (.invokevirtual 195, 3) := by decide +kernel
theorem dX8_smear_106 : decode cX8_smear 106 = .ok (.istore 7, 2) := by decide +kernel
theorem dX8_smear_108 : decode cX8_smear 108 = .ok (.iload 7, 2) := by decide +kernel
theorem dX8_smear_110 : decode cX8_smear 110 = .ok (.iconst (-1), 1) := by decide +kernel
theorem dX8_smear_111 : decode cX8_smear 111 = .ok (.if_icmp .eq 18, 3) := by decide +kernel
theorem dX8_smear_114 : decode cX8_smear 114 = .ok (.iload 7, 2) := by decide +kernel
theorem dX8_smear_116 : decode cX8_smear 116 = .ok (.iload 5, 2) := by decide +kernel
theorem dX8_smear_118 : decode cX8_smear 118 = .ok (.if_icmp .ge 11, 3) := by decide +kernel
theorem dX8_smear_121 : decode cX8_smear 121 = .ok (.iload 7, 2) := by decide +kernel
theorem dX8_smear_123 : decode cX8_smear 123 = .ok (.istore 5, 2) := by decide +kernel
theorem dX8_smear_125 : decode cX8_smear 125 = .ok (.iload 6, 2) := by decide +kernel
theorem dX8_smear_127 : decode cX8_smear 127 = .ok (.istore 4, 2) := by decide +kernel
theorem dX8_smear_129 : decode cX8_smear 129 = .ok (.iinc 6 1, 3) := by decide +kernel
theorem dX8_smear_132 : decode cX8_smear 132 = .ok (.goto (-68), 3) := by decide +kernel
theorem dX8_smear_135 : decode cX8_smear 135 = .ok (.iload 4, 2) := by decide +kernel
theorem dX8_smear_137 : decode cX8_smear 137 = .ok (.iconst (-1), 1) := by decide +kernel
theorem dX8_smear_138 : decode cX8_smear 138 = .ok (.if_icmp .ne 7, 3) := by decide +kernel
theorem dX8_smear_141 : decode cX8_smear 141 = .ok (.iconst (-1), 1) := by decide +kernel
theorem dX8_smear_142 : decode cX8_smear 142 = .ok (.goto 30, 3) := by decide +kernel
theorem dX8_smear_145 : decode cX8_smear 145 = .ok (.iload_n 3, 1) := by decide +kernel
theorem dX8_smear_146 : decode cX8_smear 146 = .ok (.ifCond .ne 8, 3) := by decide +kernel
theorem dX8_smear_149 : decode cX8_smear 149 = .ok (.iload 5, 2) := by decide +kernel
theorem dX8_smear_151 : decode cX8_smear 151 = .ok (.goto 21, 3) := by decide +kernel
theorem dX8_smear_154 : decode cX8_smear 154 = .ok (.iload_n 3, 1) := by decide +kernel
theorem dX8_smear_155 : decode cX8_smear 155 = .ok (.iconst 1, 1) := by decide +kernel
theorem dX8_smear_156 : decode cX8_smear 156 = .ok (.if_icmp .ne 11, 3) := by decide +kernel
theorem dX8_smear_159 : decode cX8_smear 159 = .ok (.iload 4, 2) := by decide +kernel
theorem dX8_smear_161 : decode cX8_smear 161 = .ok (.bipush 100, 2) := by decide +kernel
theorem dX8_smear_163 : decode cX8_smear 163 = .ok (.idiv, 1) := by decide +kernel
theorem dX8_smear_164 : decode cX8_smear 164 = .ok (.goto 8, 3) := by decide +kernel
theorem dX8_smear_167 : decode cX8_smear 167 = .ok (.iload 4, 2) := by decide +kernel
theorem dX8_smear_169 : decode cX8_smear 169 = .ok (.bipush 100, 2) := by decide +kernel
theorem dX8_smear_171 : decode cX8_smear 171 = .ok (.irem, 1) := by decide +kernel
theorem dX8_smear_172 : decode cX8_smear 172 = .ok (.ireturn, 1) := by decide +kernel
theorem dX8_quiet_0 : decode cX8_quiet 0 = .ok (.aload_n 0, 1) := by decide +kernel
theorem dX8_quiet_1 : decode cX8_quiet 1 = .ok (.iload_n 1, 1) := by decide +kernel
theorem dX8_quiet_2 : decode cX8_quiet 2 = .ok (.invokevirtual 151, 3) := by decide +kernel
theorem dX8_quiet_5 : decode cX8_quiet 5 = .ok (.ifCond .eq 11, 3) := by decide +kernel
theorem dX8_quiet_8 : decode cX8_quiet 8 = .ok (.aload_n 0, 1) := by decide +kernel
theorem dX8_quiet_9 : decode cX8_quiet 9 = .ok (.iload_n 2, 1) := by decide +kernel
theorem dX8_quiet_10 : decode cX8_quiet 10 = .ok (.invokevirtual 151, 3) := by decide +kernel
theorem dX8_quiet_13 : decode cX8_quiet 13 = .ok (.ifCond .ne 6, 3) := by decide +kernel
theorem dX8_quiet_16 : decode cX8_quiet 16 = .ok (.bipush (-2), 2) := by decide +kernel
theorem dX8_quiet_18 : decode cX8_quiet 18 = .ok (.ireturn, 1) := by decide +kernel
theorem dX8_quiet_19 : decode cX8_quiet 19 = .ok (.iconst 0, 1) := by decide +kernel
theorem dX8_quiet_20 : decode cX8_quiet 20 = .ok (.istore_n 3, 1) := by decide +kernel
theorem dX8_quiet_21 : decode cX8_quiet 21 = .ok (.iload_n 3, 1) := by decide +kernel
theorem dX8_quiet_22 : decode cX8_quiet 22 = .ok (.bipush 8, 2) := by decide +kernel
theorem dX8_quiet_24 : decode cX8_quiet 24 = .ok (.if_icmp .ge 26, 3) := by decide +kernel
theorem dX8_quiet_27 : decode cX8_quiet 27 = .ok (.aload_n 0, 1) := by decide +kernel
theorem dX8_quiet_28 : decode cX8_quiet 28 = .ok (.getfield 45, 3) := by decide +kernel
theorem dX8_quiet_31 : decode cX8_quiet 31 = .ok (.iload_n 3, 1) := by decide +kernel
theorem dX8_quiet_32 : decode cX8_quiet 32 = .ok (.iload_n 3, 1) := by decide +kernel
theorem dX8_quiet_33 : decode cX8_quiet 33 = .ok (.iload_n 1, 1) := by decide +kernel
theorem dX8_quiet_34 : decode cX8_quiet 34 = .ok (.if_icmp .ne 7, 3) := by decide +kernel
theorem dX8_quiet_37 : decode cX8_quiet 37 = .ok (.iconst 0, 1) := by decide +kernel
theorem dX8_quiet_38 : decode cX8_quiet 38 = .ok (.goto 5, 3) := by decide +kernel
theorem dX8_quiet_41 : decode cX8_quiet 41 = .ok (.bipush 99, 2) := by decide +kernel
theorem dX8_quiet_43 : decode cX8_quiet 43 = .ok (.iastore, 1) := by decide +kernel
theorem dX8_quiet_44 : decode cX8_quiet 44 = .ok (.iinc 3 1, 3) := by decide +kernel
theorem dX8_quiet_47 : decode cX8_quiet 47 = .ok (.goto (-26), 3) := by decide +kernel
theorem dX8_quiet_50 : decode cX8_quiet 50 = .ok (.iconst 0, 1) := by decide +kernel
theorem dX8_quiet_51 : decode cX8_quiet 51 = .ok (.istore_n 3, 1) := by decide +kernel
theorem dX8_quiet_52 : decode cX8_quiet 52 = .ok (.iload_n 3, 1) := by decide +kernel
theorem dX8_quiet_53 : decode cX8_quiet 53 = .ok (.aload_n 0, 1) := by decide +kernel
theorem dX8_quiet_54 : decode cX8_quiet 54 = .ok (.getfield 23, 3) := by decide +kernel
theorem dX8_quiet_57 : decode cX8_quiet 57 = .ok (.if_icmp .ge 179, 3) := by decide +kernel
theorem dX8_quiet_60 : decode cX8_quiet 60 = .ok (.iconst 0, 1) := by decide +kernel
theorem dX8_quiet_61 : decode cX8_quiet 61 = .ok (.istore 4, 2) := by decide +kernel
theorem dX8_quiet_63 : decode cX8_quiet 63 = .ok (.iload 4, 2) := by decide +kernel
theorem dX8_quiet_65 : decode cX8_quiet 65 = .ok (.aload_n 0, 1) := by decide +kernel
theorem dX8_quiet_66 : decode cX8_quiet 66 = .ok (.getfield 61, 3) := by decide +kernel
theorem dX8_quiet_69 : decode cX8_quiet 69 = .ok (.if_icmp .ge 161, 3) := by decide +kernel
theorem dX8_quiet_72 : decode cX8_quiet 72 = .ok (.aload_n 0, 1) := by decide +kernel
theorem dX8_quiet_73 : decode cX8_quiet 73 = .ok (.getfield 7, 3) := by decide +kernel
theorem dX8_quiet_76 : decode cX8_quiet 76 = .ok (.iconst 3, 1) := by decide +kernel
theorem dX8_quiet_77 : decode cX8_quiet 77 = .ok (.iload 4, 2) := by decide +kernel
theorem dX8_quiet_79 : decode cX8_quiet 79 = .ok (.iadd, 1) := by decide +kernel
theorem dX8_quiet_80 : decode cX8_quiet 80 = .ok (.iaload, 1) := by decide +kernel
theorem dX8_quiet_81 : decode cX8_quiet 81 = .ok (.ifCond .ne 143, 3) := by decide +kernel
theorem dX8_quiet_84 : decode cX8_quiet 84 = .ok (.aload_n 0, 1) := by decide +kernel
theorem dX8_quiet_85 : decode cX8_quiet 85 = .ok (.getfield 45, 3) := by decide +kernel
theorem dX8_quiet_88 : decode cX8_quiet 88 = .ok (.aload_n 0, 1) := by decide +kernel
theorem dX8_quiet_89 : decode cX8_quiet 89 = .ok (.getfield 33, 3) := by decide +kernel
theorem dX8_quiet_92 : decode cX8_quiet 92 = .ok (.iload 4, 2) := by decide +kernel
theorem dX8_quiet_94 : decode cX8_quiet 94 = .ok (.iaload, 1) := by decide +kernel
theorem dX8_quiet_95 : decode cX8_quiet 95 = .ok (.aload_n 0, 1) := by decide +kernel
theorem dX8_quiet_96 : decode cX8_quiet 96 = .ok (.getfield 45, 3) := by decide +kernel
theorem dX8_quiet_99 : decode cX8_quiet 99 = .ok (.aload_n 0, 1) := by decide +kernel
theorem dX8_quiet_100 : decode cX8_quiet 100 = .ok (.getfield 30, 3) := by decide +kernel
theorem dX8_quiet_103 : decode cX8_quiet 103 = .ok (.iload 4, 2) := by decide +kernel
theorem dX8_quiet_105 : decode cX8_quiet 105 = .ok (.iaload, 1) := by decide +kernel
theorem dX8_quiet_106 : decode cX8_quiet 106 = .ok (.iaload, 1) := by decide +kernel
theorem dX8_quiet_107 : decode cX8_quiet 107 = .ok (.iconst 1, 1) := by decide +kernel
theorem dX8_quiet_108 : decode cX8_quiet 108 = .ok (.iadd, 1) := by decide +kernel
theorem dX8_quiet_109 : decode cX8_quiet 109 = .ok (.aload_n 0, 1) := by decide +kernel
theorem dX8_quiet_110 : decode cX8_quiet 110 = .ok (.getfield 45, 3) := by decide +kernel
theorem dX8_quiet_113 : decode cX8_quiet 113 = .ok (.aload_n 0, 1) := by decide +kernel
theorem dX8_quiet_114 : decode cX8_quiet 114 = .ok (.getfield 33, 3) := by decide +kernel
theorem dX8_quiet_117 : decode cX8_quiet 117 = .ok (.iload 4, 2) := by decide +kernel
theorem dX8_quiet_119 : decode cX8_quiet 119 = .ok (.iaload, 1) := by decide +kernel
theorem dX8_quiet_120 : decode cX8_quiet 120 = .ok (.iaload, 1) := by decide +kernel
theorem dX8_quiet_121 : decode cX8_quiet 121 = .ok (.if_icmp .ge 20, 3) := by decide +kernel
theorem dX8_quiet_124 : decode cX8_quiet 124 = .ok (.aload_n 0, 1) := by decide +kernel
theorem dX8_quiet_125 : decode cX8_quiet 125 = .ok (.getfield 45, 3) := by decide +kernel
theorem dX8_quiet_128 : decode cX8_quiet 128 = .ok (.aload_n 0, 1) := by decide +kernel
theorem dX8_quiet_129 : decode cX8_quiet 129 = .ok (.getfield 30, 3) := by decide +kernel
theorem dX8_quiet_132 : decode cX8_quiet 132 = .ok (.iload 4, 2) := by decide +kernel
theorem dX8_quiet_134 : decode cX8_quiet 134 = .ok (.iaload, 1) := by decide +kernel
theorem dX8_quiet_135 : decode cX8_quiet 135 = .ok (.iaload, 1) := by decide +kernel
theorem dX8_quiet_136 : decode cX8_quiet 136 = .ok (.iconst 1, 1) := by decide +kernel
theorem dX8_quiet_137 : decode cX8_quiet 137 = .ok (.iadd, 1) := by decide +kernel
theorem dX8_quiet_138 : decode cX8_quiet 138 = .ok (.goto 15, 3) := by decide +kernel
theorem dX8_quiet_141 : decode cX8_quiet 141 = .ok (.aload_n 0, 1) := by decide +kernel
theorem dX8_quiet_142 : decode cX8_quiet 142 = .ok (.getfield 45, 3) := by decide +kernel
theorem dX8_quiet_145 : decode cX8_quiet 145 = .ok (.aload_n 0, 1) := by decide +kernel
theorem dX8_quiet_146 : decode cX8_quiet 146 = .ok (.getfield 33, 3) := by decide +kernel
theorem dX8_quiet_149 : decode cX8_quiet 149 = .ok (.iload 4, 2) := by decide +kernel
theorem dX8_quiet_151 : decode cX8_quiet 151 = .ok (.iaload, 1) := by decide +kernel
theorem dX8_quiet_152 : decode cX8_quiet 152 = .ok (.iaload, 1) := by decide +kernel
theorem dX8_quiet_153 : decode cX8_quiet 153 = .ok (.iastore, 1) := by decide +kernel
theorem dX8_quiet_154 : decode cX8_quiet 154 = .ok (.aload_n 0, 1) := by decide +kernel
theorem dX8_quiet_155 : decode cX8_quiet 155 = .ok (.getfield 45, 3) := by decide +kernel
theorem dX8_quiet_158 : decode cX8_quiet 158 = .ok (.aload_n 0, 1) := by decide +kernel
theorem dX8_quiet_159 : decode cX8_quiet 159 = .ok (.getfield 30, 3) := by decide +kernel
theorem dX8_quiet_162 : decode cX8_quiet 162 = .ok (.iload 4, 2) := by decide +kernel
theorem dX8_quiet_164 : decode cX8_quiet 164 = .ok (.iaload, 1) := by decide +kernel
theorem dX8_quiet_165 : decode cX8_quiet 165 = .ok (.aload_n 0, 1) := by decide +kernel
theorem dX8_quiet_166 : decode cX8_quiet 166 = .ok (.getfield 45, 3) := by decide +kernel
theorem dX8_quiet_169 : decode cX8_quiet 169 = .ok (.aload_n 0, 1) := by decide +kernel
theorem dX8_quiet_170 : decode cX8_quiet 170 = .ok (.getfield 33, 3) := by decide +kernel
theorem dX8_quiet_173 : decode cX8_quiet 173 = .ok (.iload 4, 2) := by decide +kernel
theorem dX8_quiet_175 : decode cX8_quiet 175 = .ok (.iaload, 1) := by decide +kernel
theorem dX8_quiet_176 : decode cX8_quiet 176 = .ok (.iaload, 1) := by decide +kernel
theorem dX8_quiet_177 : decode cX8_quiet 177 = .ok (.iconst 1, 1) := by decide +kernel
theorem dX8_quiet_178 : decode cX8_quiet 178 = .ok (.iadd, 1) := by decide +kernel
theorem dX8_quiet_179 : decode cX8_quiet 179 = .ok (.aload_n 0, 1) := by decide +kernel
theorem dX8_quiet_180 : decode cX8_quiet 180 = .ok (.getfield 45, 3) := by decide +kernel
theorem dX8_quiet_183 : decode cX8_quiet 183 = .ok (.aload_n 0, 1) := by decide +kernel
theorem dX8_quiet_184 : decode cX8_quiet 184 = .ok (.getfield 30, 3) := by decide +kernel
theorem dX8_quiet_187 : decode cX8_quiet 187 = .ok (.iload 4, 2) := by decide +kernel
theorem dX8_quiet_189 : decode cX8_quiet 189 = .ok (.iaload, 1) := by decide +kernel
theorem dX8_quiet_190 : decode cX8_quiet 190 = .ok (.iaload, 1) := by decide +kernel
theorem dX8_quiet_191 : decode cX8_quiet 191 = .ok (.if_icmp .ge 20, 3) := by decide +kernel
theorem dX8_quiet_194 : decode cX8_quiet 194 = .ok (.aload_n 0, 1) := by decide +kernel
theorem dX8_quiet_195 : decode cX8_quiet 195 = .ok (.getfield 45, 3) := by decide +kernel
theorem dX8_quiet_198 : decode cX8_quiet 198 = .ok (.aload_n 0, 1) := by decide +kernel
theorem dX8_quiet_199 : decode cX8_quiet 199 = .ok (.getfield 33, 3) := by decide +kernel
theorem dX8_quiet_202 : decode cX8_quiet 202 = .ok (.iload 4, 2) := by decide +kernel
theorem dX8_quiet_204 : decode cX8_quiet 204 = .ok (.iaload, 1) := by decide +kernel
theorem dX8_quiet_205 : decode cX8_quiet 205 = .ok (.iaload, 1) := by decide +kernel
theorem dX8_quiet_206 : decode cX8_quiet 206 = .ok (.iconst 1, 1) := by decide +kernel
theorem dX8_quiet_207 : decode cX8_quiet 207 = .ok (.iadd, 1) := by decide +kernel
theorem dX8_quiet_208 : decode cX8_quiet 208 = .ok (.goto 15, 3) := by decide +kernel
theorem dX8_quiet_211 : decode cX8_quiet 211 = .ok (.aload_n 0, 1) := by decide +kernel
theorem dX8_quiet_212 : decode cX8_quiet 212 = .ok (.getfield 45, 3) := by decide +kernel
theorem dX8_quiet_215 : decode cX8_quiet 215 = .ok (.aload_n 0, 1) := by decide +kernel
theorem dX8_quiet_216 : decode cX8_quiet 216 = .ok (.getfield 30, 3) := by decide +kernel
theorem dX8_quiet_219 : decode cX8_quiet 219 = .ok (.iload 4, 2) := by decide +kernel
theorem dX8_quiet_221 : decode cX8_quiet 221 = .ok (.iaload, 1) := by decide +kernel
theorem dX8_quiet_222 : decode cX8_quiet 222 = .ok (.iaload, 1) := by decide +kernel
theorem dX8_quiet_223 : decode cX8_quiet 223 = .ok (.iastore, 1) := by decide +kernel
theorem dX8_quiet_224 : decode cX8_quiet 224 = .ok (.iinc 4 1, 3) := by decide +kernel
theorem dX8_quiet_227 : decode cX8_quiet 227 = .ok (.goto (-164), 3) := by decide +kernel
theorem dX8_quiet_230 : decode cX8_quiet 230 = .ok (.iinc 3 1, 3) := by decide +kernel
theorem dX8_quiet_233 : decode cX8_quiet 233 = .ok (.goto (-181), 3) := by decide +kernel
theorem dX8_quiet_236 : decode cX8_quiet 236 = .ok (.aload_n 0, 1) := by decide +kernel
theorem dX8_quiet_237 : decode cX8_quiet 237 = .ok (.getfield 45, 3) := by decide +kernel
theorem dX8_quiet_240 : decode cX8_quiet 240 = .ok (.iload_n 2, 1) := by decide +kernel
theorem dX8_quiet_241 : decode cX8_quiet 241 = .ok (.iaload, 1) := by decide +kernel
theorem dX8_quiet_242 : decode cX8_quiet 242 = .ok (.bipush 99, 2) := by decide +kernel
theorem dX8_quiet_244 : decode cX8_quiet 244 = .ok (.if_icmp .ne 7, 3) := by decide +kernel
theorem dX8_quiet_247 : decode cX8_quiet 247 = .ok (.iconst (-1), 1) := by decide +kernel
theorem dX8_quiet_248 : decode cX8_quiet 248 = .ok (.goto 9, 3) := by decide +kernel
theorem dX8_quiet_251 : decode cX8_quiet 251 = .ok (.aload_n 0, 1) := by decide +kernel
theorem dX8_quiet_252 : decode cX8_quiet 252 = .ok (.getfield 45, 3) := by decide +kernel
theorem dX8_quiet_255 : decode cX8_quiet 255 = .ok (.iload_n 2, 1) := by decide +kernel
theorem dX8_quiet_256 : decode cX8_quiet 256 = .ok (.iaload, 1) := by decide +kernel
theorem dX8_quiet_257 : decode cX8_quiet 257 = .ok (.ireturn, 1) := by decide +kernel
theorem dX8_filedBy_0 : decode cX8_filedBy 0 = .ok (.aload_n 0, 1) := by decide +kernel
theorem dX8_filedBy_1 : decode cX8_filedBy 1 = .ok (.iconst 0, 1) := by decide +kernel
theorem dX8_filedBy_2 : decode cX8_filedBy 2 = .ok (.iconst 3, 1) := by decide +kernel
theorem dX8_filedBy_3 : decode cX8_filedBy 3 = .ok (.invokevirtual 67, 3) := by decide +kernel
theorem dX8_filedBy_6 : decode cX8_filedBy 6 = .ok (.aload_n 0, 1) := by decide +kernel
theorem dX8_filedBy_7 : decode cX8_filedBy 7 = .ok (.getfield 7, 3) := by decide +kernel
theorem dX8_filedBy_10 : decode cX8_filedBy 10 = .ok (.bipush 119, 2) := by decide +kernel
theorem dX8_filedBy_12 : decode cX8_filedBy 12 = .ok (.iload_n 1, 1) := by decide +kernel
theorem dX8_filedBy_13 : decode cX8_filedBy 13 = .ok (.iastore, 1) := by decide +kernel
theorem dX8_filedBy_14 : decode cX8_filedBy 14 = .ok (.aload_n 0, 1) := by decide +kernel
theorem dX8_filedBy_15 : decode cX8_filedBy 15 = .ok (.iload_n 2, 1) := by decide +kernel
theorem dX8_filedBy_16 : decode cX8_filedBy 16 = .ok (.invokevirtual 192, 3) := by decide +kernel
theorem dX8_filedBy_19 : decode cX8_filedBy 19 = .ok (.aload_n 0, 1) := by decide +kernel
theorem dX8_filedBy_20 : decode cX8_filedBy 20 = .ok (.bipush 117, 2) := by decide +kernel
theorem dX8_filedBy_22 : decode cX8_filedBy 22 = .ok (.invokevirtual 207, 3) := by decide +kernel
theorem dX8_filedBy_25 : decode cX8_filedBy 25 = .ok (.invokestatic 201, 3) := by decide +kernel
theorem dX8_filedBy_28 : decode cX8_filedBy 28 = .ok (.ireturn, 1) := by decide +kernel
theorem dX8_harmOf_0 : decode cX8_harmOf 0 = .ok (.aload_n 0, 1) := by decide +kernel
theorem dX8_harmOf_1 : decode cX8_harmOf 1 = .ok (.iconst (-1), 1) := by decide +kernel
theorem dX8_harmOf_2 : decode cX8_harmOf 2 = .ok (.iload_n 2, 1) := by decide +kernel
theorem dX8_harmOf_3 : decode cX8_harmOf 3 = .ok (.invokevirtual 216, 3) := by decide +kernel
theorem dX8_harmOf_6 : decode cX8_harmOf 6 = .ok (.aload_n 0, 1) := by decide +kernel
theorem dX8_harmOf_7 : decode cX8_harmOf 7 = .ok (.iload_n 1, 1) := by decide +kernel
theorem dX8_harmOf_8 : decode cX8_harmOf 8 = .ok (.iload_n 2, 1) := by decide +kernel
theorem dX8_harmOf_9 : decode cX8_harmOf 9 = .ok (.invokevirtual 216, 3) := by decide +kernel
theorem dX8_harmOf_12 : decode cX8_harmOf 12 = .ok (.isub, 1) := by decide +kernel
theorem dX8_harmOf_13 : decode cX8_harmOf 13 = .ok (.ireturn, 1) := by decide +kernel
theorem dX8_harm_0 : decode cX8_harm 0 = .ok (.aload_n 0, 1) := by decide +kernel
theorem dX8_harm_1 : decode cX8_harm 1 = .ok (.iload_n 1, 1) := by decide +kernel
theorem dX8_harm_2 : decode cX8_harm 2 = .ok (.invokevirtual 151, 3) := by decide +kernel
theorem dX8_harm_5 : decode cX8_harm 5 = .ok (.ifCond .ne 6, 3) := by decide +kernel
theorem dX8_harm_8 : decode cX8_harm 8 = .ok (.bipush (-2), 2) := by decide +kernel
theorem dX8_harm_10 : decode cX8_harm 10 = .ok (.ireturn, 1) := by decide +kernel
theorem dX8_harm_11 : decode cX8_harm 11 = .ok (.iload_n 2, 1) := by decide +kernel
theorem dX8_harm_12 : decode cX8_harm 12 = .ok (.i2l, 1) := by decide +kernel
theorem dX8_harm_13 : decode cX8_harm 13 = .ok (.lconst 1, 1) := by decide +kernel
theorem dX8_harm_14 : decode cX8_harm 14 = .ok (.ldc2_w 183, 3) := by decide +kernel
theorem dX8_harm_17 : decode cX8_harm 17 = .ok (.invokestatic 73, 3) := by decide +kernel
theorem dX8_harm_20 : decode cX8_harm 20 = .ok (.ifCond .eq 15, 3) := by decide +kernel
theorem dX8_harm_23 : decode cX8_harm 23 = .ok (.bipush 100, 2) := by decide +kernel
theorem dX8_harm_25 : decode cX8_harm 25 = .ok (.aload_n 0, 1) := by decide +kernel
theorem dX8_harm_26 : decode cX8_harm 26 = .ok (.iload_n 1, 1) := by decide +kernel
theorem dX8_harm_27 : decode cX8_harm 27 = .ok (.iload_n 2, 1) := by decide +kernel
theorem dX8_harm_28 : decode cX8_harm 28 = .ok (.invokevirtual 219, 3) := by decide +kernel
theorem dX8_harm_31 : decode cX8_harm 31 = .ok (.iadd, 1) := by decide +kernel
theorem dX8_harm_32 : decode cX8_harm 32 = .ok (.goto 5, 3) := by decide +kernel
theorem dX8_harm_35 : decode cX8_harm 35 = .ok (.bipush (-3), 2) := by decide +kernel
theorem dX8_harm_37 : decode cX8_harm 37 = .ok (.ireturn, 1) := by decide +kernel
theorem dX8_worst_0 : decode cX8_worst 0 = .ok (.iload_n 1, 1) := by decide +kernel
theorem dX8_worst_1 : decode cX8_worst 1 = .ok (.i2l, 1) := by decide +kernel
theorem dX8_worst_2 : decode cX8_worst 2 = .ok (.lconst 1, 1) := by decide +kernel
theorem dX8_worst_3 : decode cX8_worst 3 = .ok (.ldc2_w 183, 3) := by decide +kernel
theorem dX8_worst_6 : decode cX8_worst 6 = .ok (.invokestatic 73, 3) := by decide +kernel
theorem dX8_worst_9 : decode cX8_worst 9 = .ok (.ifCond .ne 6, 3) := by decide +kernel
theorem dX8_worst_12 : decode cX8_worst 12 = .ok (.bipush (-3), 2) := by decide +kernel
theorem dX8_worst_14 : decode cX8_worst 14 = .ok (.ireturn, 1) := by decide +kernel
theorem dX8_worst_15 : decode cX8_worst 15 = .ok (.iconst 0, 1) := by decide +kernel
theorem dX8_worst_16 : decode cX8_worst 16 = .ok (.istore_n 2, 1) := by decide +kernel
theorem dX8_worst_17 : decode cX8_worst 17 = .ok (.iconst 1, 1) := by decide +kernel
theorem dX8_worst_18 : decode cX8_worst 18 = .ok (.istore_n 3, 1) := by decide +kernel
theorem dX8_worst_19 : decode cX8_worst 19 = .ok (.iload_n 3, 1) := by decide +kernel
theorem dX8_worst_20 : decode cX8_worst 20 = .ok (.aload_n 0, 1) := by decide +kernel
theorem dX8_worst_21 : decode cX8_worst 21 = .ok (.getfield 23, 3) := by decide +kernel
theorem dX8_worst_24 : decode cX8_worst 24 = .ok (.if_icmp .ge 30, 3) := by decide +kernel
theorem dX8_worst_27 : decode cX8_worst 27 = .ok (.aload_n 0, 1) := by decide +kernel
theorem dX8_worst_28 : decode cX8_worst 28 = .ok (.iload_n 3, 1) := by decide +kernel
theorem dX8_worst_29 : decode cX8_worst 29 = .ok (.iload_n 1, 1) := by decide +kernel
theorem dX8_worst_30 : decode cX8_worst 30 = .ok (.invokevirtual 219, 3) := by decide +kernel
theorem dX8_worst_33 : decode cX8_worst 33 = .ok (.aload_n 0, 1) := by decide +kernel
theorem dX8_worst_34 : decode cX8_worst 34 = .ok (.iload_n 2, 1) := by decide +kernel
theorem dX8_worst_35 : decode cX8_worst 35 = .ok (.iload_n 1, 1) := by decide +kernel
theorem dX8_worst_36 : decode cX8_worst 36 = .ok (.invokevirtual 219, 3) := by decide +kernel
theorem dX8_worst_39 : decode cX8_worst 39 = .ok (.if_icmp .le 7, 3) := by decide +kernel
theorem dX8_worst_42 : decode cX8_worst 42 = .ok (.iload_n 3, 1) := by decide +kernel
theorem dX8_worst_43 : decode cX8_worst 43 = .ok (.goto 4, 3) := by decide +kernel
theorem dX8_worst_46 : decode cX8_worst 46 = .ok (.iload_n 2, 1) := by decide +kernel
theorem dX8_worst_47 : decode cX8_worst 47 = .ok (.istore_n 2, 1) := by decide +kernel
theorem dX8_worst_48 : decode cX8_worst 48 = .ok (.iinc 3 1, 3) := by decide +kernel
theorem dX8_worst_51 : decode cX8_worst 51 = .ok (.goto (-32), 3) := by decide +kernel
theorem dX8_worst_54 : decode cX8_worst 54 = .ok (.iload_n 2, 1) := by decide +kernel
theorem dX8_worst_55 : decode cX8_worst 55 = .ok (.ireturn, 1) := by decide +kernel
theorem dX8_seen_0 : decode cX8_seen 0 = .ok (.aload_n 0, 1) := by decide +kernel
theorem dX8_seen_1 : decode cX8_seen 1 = .ok (.iload_n 1, 1) := by decide +kernel
theorem dX8_seen_2 : decode cX8_seen 2 = .ok (.invokevirtual 160, 3) := by decide +kernel
theorem dX8_seen_5 : decode cX8_seen 5 = .ok (.ifCond .eq 11, 3) := by decide +kernel
theorem dX8_seen_8 : decode cX8_seen 8 = .ok (.aload_n 0, 1) := by decide +kernel
theorem dX8_seen_9 : decode cX8_seen 9 = .ok (.iload_n 2, 1) := by decide +kernel
theorem dX8_seen_10 : decode cX8_seen 10 = .ok (.invokevirtual 151, 3) := by decide +kernel
theorem dX8_seen_13 : decode cX8_seen 13 = .ok (.ifCond .ne 6, 3) := by decide +kernel
theorem dX8_seen_16 : decode cX8_seen 16 = .ok (.bipush (-2), 2) := by decide +kernel
theorem dX8_seen_18 : decode cX8_seen 18 = .ok (.ireturn, 1) := by decide +kernel
theorem dX8_seen_19 : decode cX8_seen 19 = .ok (.iload_n 3, 1) := by decide +kernel
theorem dX8_seen_20 : decode cX8_seen 20 = .ok (.i2l, 1) := by decide +kernel
theorem dX8_seen_21 : decode cX8_seen 21 = .ok (.lconst 0, 1) := by decide +kernel
theorem dX8_seen_22 : decode cX8_seen 22 = .ok (.ldc2_w 183, 3) := by decide +kernel
theorem dX8_seen_25 : decode cX8_seen 25 = .ok (.invokestatic 73, 3) := by decide +kernel
theorem dX8_seen_28 : decode cX8_seen 28 = .ok (.ifCond .ne 6, 3) := by decide +kernel
theorem dX8_seen_31 : decode cX8_seen 31 = .ok (.bipush (-3), 2) := by decide +kernel
theorem dX8_seen_33 : decode cX8_seen 33 = .ok (.ireturn, 1) := by decide +kernel
theorem dX8_seen_34 : decode cX8_seen 34 = .ok (.aload_n 0, 1) := by decide +kernel
theorem dX8_seen_35 : decode cX8_seen 35 = .ok (.getfield 148, 3) := by decide +kernel
theorem dX8_seen_38 : decode cX8_seen 38 = .ok (.bipush 6, 2) := by decide +kernel
theorem dX8_seen_40 : decode cX8_seen 40 = .ok (.if_icmp .ne 6, 3) := by decide +kernel
theorem dX8_seen_43 : decode cX8_seen 43 = .ok (.bipush (-5), 2) := by decide +kernel
theorem dX8_seen_45 : decode cX8_seen 45 = .ok (.ireturn, 1) := by decide +kernel
theorem dX8_seen_46 : decode cX8_seen 46 = .ok (.aload_n 0, 1) := by decide +kernel
theorem dX8_seen_47 : decode cX8_seen 47 = .ok (.getfield 48, 3) := by decide +kernel
theorem dX8_seen_50 : decode cX8_seen 50 = .ok (.iconst 3, 1) := by decide +kernel
theorem dX8_seen_51 : decode cX8_seen 51 = .ok (.aload_n 0, 1) := by decide +kernel
theorem dX8_seen_52 : decode cX8_seen 52 = .ok (.getfield 148, 3) := by decide +kernel
theorem dX8_seen_55 : decode cX8_seen 55 = .ok (.imul, 1) := by decide +kernel
theorem dX8_seen_56 : decode cX8_seen 56 = .ok (.iload_n 1, 1) := by decide +kernel
theorem dX8_seen_57 : decode cX8_seen 57 = .ok (.iastore, 1) := by decide +kernel
theorem dX8_seen_58 : decode cX8_seen 58 = .ok (.aload_n 0, 1) := by decide +kernel
theorem dX8_seen_59 : decode cX8_seen 59 = .ok (.getfield 48, 3) := by decide +kernel
theorem dX8_seen_62 : decode cX8_seen 62 = .ok (.iconst 3, 1) := by decide +kernel
theorem dX8_seen_63 : decode cX8_seen 63 = .ok (.aload_n 0, 1) := by decide +kernel
theorem dX8_seen_64 : decode cX8_seen 64 = .ok (.getfield 148, 3) := by decide +kernel
theorem dX8_seen_67 : decode cX8_seen 67 = .ok (.imul, 1) := by decide +kernel
theorem dX8_seen_68 : decode cX8_seen 68 = .ok (.iconst 1, 1) := by decide +kernel
theorem dX8_seen_69 : decode cX8_seen 69 = .ok (.iadd, 1) := by decide +kernel
theorem dX8_seen_70 : decode cX8_seen 70 = .ok (.iload_n 2, 1) := by decide +kernel
theorem dX8_seen_71 : decode cX8_seen 71 = .ok (.iastore, 1) := by decide +kernel
theorem dX8_seen_72 : decode cX8_seen 72 = .ok (.aload_n 0, 1) := by decide +kernel
theorem dX8_seen_73 : decode cX8_seen 73 = .ok (.getfield 48, 3) := by decide +kernel
theorem dX8_seen_76 : decode cX8_seen 76 = .ok (.iconst 3, 1) := by decide +kernel
theorem dX8_seen_77 : decode cX8_seen 77 = .ok (.aload_n 0, 1) := by decide +kernel
theorem dX8_seen_78 : decode cX8_seen 78 = .ok (.getfield 148, 3) := by decide +kernel
theorem dX8_seen_81 : decode cX8_seen 81 = .ok (.imul, 1) := by decide +kernel
theorem dX8_seen_82 : decode cX8_seen 82 = .ok (.iconst 2, 1) := by decide +kernel
theorem dX8_seen_83 : decode cX8_seen 83 = .ok (.iadd, 1) := by decide +kernel
theorem dX8_seen_84 : decode cX8_seen 84 = .ok (.iload_n 3, 1) := by decide +kernel
theorem dX8_seen_85 : decode cX8_seen 85 = .ok (.iastore, 1) := by decide +kernel
theorem dX8_seen_86 : decode cX8_seen 86 = .ok (.aload_n 0, 1) := by decide +kernel
theorem dX8_seen_87 : decode cX8_seen 87 = .ok (.dup, 1) := by decide +kernel
theorem dX8_seen_88 : decode cX8_seen 88 = .ok (.getfield 148, 3) := by decide +kernel
theorem dX8_seen_91 : decode cX8_seen 91 = .ok (.iconst 1, 1) := by decide +kernel
theorem dX8_seen_92 : decode cX8_seen 92 = .ok (.iadd, 1) := by decide +kernel
theorem dX8_seen_93 : decode cX8_seen 93 = .ok (.putfield 148, 3) := by decide +kernel
theorem dX8_seen_96 : decode cX8_seen 96 = .ok (.aload_n 0, 1) := by decide +kernel
theorem dX8_seen_97 : decode cX8_seen 97 = .ok (.getfield 148, 3) := by decide +kernel
theorem dX8_seen_100 : decode cX8_seen 100 = .ok (.ireturn, 1) := by decide +kernel
theorem dX8_forget_0 : decode cX8_forget 0 = .ok (.aload_n 0, 1) := by decide +kernel
theorem dX8_forget_1 : decode cX8_forget 1 = .ok (.getfield 148, 3) := by decide +kernel
theorem dX8_forget_4 : decode cX8_forget 4 = .ok (.istore_n 1, 1) := by decide +kernel
theorem dX8_forget_5 : decode cX8_forget 5 = .ok (.aload_n 0, 1) := by decide +kernel
theorem dX8_forget_6 : decode cX8_forget 6 = .ok (.iconst 0, 1) := by decide +kernel
theorem dX8_forget_7 : decode cX8_forget 7 = .ok (.putfield 148, 3) := by decide +kernel
theorem dX8_forget_10 : decode cX8_forget 10 = .ok (.iload_n 1, 1) := by decide +kernel
theorem dX8_forget_11 : decode cX8_forget 11 = .ok (.ireturn, 1) := by decide +kernel
theorem dX8_isSoBy_0 : decode cX8_isSoBy 0 = .ok (.bipush 117, 2) := by decide +kernel
theorem dX8_isSoBy_2 : decode cX8_isSoBy 2 = .ok (.istore_n 3, 1) := by decide +kernel
theorem dX8_isSoBy_3 : decode cX8_isSoBy 3 = .ok (.iconst 1, 1) := by decide +kernel
theorem dX8_isSoBy_4 : decode cX8_isSoBy 4 = .ok (.istore 4, 2) := by decide +kernel
theorem dX8_isSoBy_6 : decode cX8_isSoBy 6 = .ok (.aload_n 0, 1) := by decide +kernel
theorem dX8_isSoBy_7 : decode cX8_isSoBy 7 = .ok (.iconst 4, 1) := by decide +kernel
theorem dX8_isSoBy_8 : decode cX8_isSoBy 8 = .ok (.iconst 3, 1) := by decide +kernel
theorem dX8_isSoBy_9 : decode cX8_isSoBy 9 = .ok (.invokevirtual 67, 3) := by decide +kernel
theorem dX8_isSoBy_12 : decode cX8_isSoBy 12 = .ok (.aload_n 0, 1) := by decide +kernel
theorem dX8_isSoBy_13 : decode cX8_isSoBy 13 = .ok (.getfield 7, 3) := by decide +kernel
theorem dX8_isSoBy_16 : decode cX8_isSoBy 16 = .ok (.iload_n 3, 1) := by decide +kernel
theorem dX8_isSoBy_17 : decode cX8_isSoBy 17 = .ok (.bipush 21, 2) := by decide +kernel
theorem dX8_isSoBy_19 : decode cX8_isSoBy 19 = .ok (.iadd, 1) := by decide +kernel
theorem dX8_isSoBy_20 : decode cX8_isSoBy 20 = .ok (.iload_n 1, 1) := by decide +kernel
theorem dX8_isSoBy_21 : decode cX8_isSoBy 21 = .ok (.iadd, 1) := by decide +kernel
theorem dX8_isSoBy_22 : decode cX8_isSoBy 22 = .ok (.iload_n 2, 1) := by decide +kernel
theorem dX8_isSoBy_23 : decode cX8_isSoBy 23 = .ok (.iastore, 1) := by decide +kernel
theorem dX8_isSoBy_24 : decode cX8_isSoBy 24 = .ok (.iconst 0, 1) := by decide +kernel
theorem dX8_isSoBy_25 : decode cX8_isSoBy 25 = .ok (.istore 5, 2) := by decide +kernel
theorem dX8_isSoBy_27 : decode cX8_isSoBy 27 = .ok (.iload 5, 2) := by decide +kernel
theorem dX8_isSoBy_29 : decode cX8_isSoBy 29 = .ok (.bipush 100, 2) := by decide +kernel
theorem dX8_isSoBy_31 : decode cX8_isSoBy 31 = .ok (.if_icmp .ge 103, 3) := by decide +kernel
theorem dX8_isSoBy_34 : decode cX8_isSoBy 34 = .ok (.iload 4, 2) := by decide +kernel
theorem dX8_isSoBy_36 : decode cX8_isSoBy 36 = .ok (.ifCond .eq 98, 3) := by decide +kernel
theorem dX8_isSoBy_39 : decode cX8_isSoBy 39 = .ok (.iconst 0, 1) := by decide +kernel
theorem dX8_isSoBy_40 : decode cX8_isSoBy 40 = .ok (.istore 6, 2) := by decide +kernel
theorem dX8_isSoBy_42 : decode cX8_isSoBy 42 = .ok (.iload 6, 2) := by decide +kernel
theorem dX8_isSoBy_44 : decode cX8_isSoBy 44 = .ok (.aload_n 0, 1) := by decide +kernel
theorem dX8_isSoBy_45 : decode cX8_isSoBy 45 = .ok (.getfield 148, 3) := by decide +kernel
theorem dX8_isSoBy_48 : decode cX8_isSoBy 48 = .ok (.if_icmp .ge 75, 3) := by decide +kernel
theorem dX8_isSoBy_51 : decode cX8_isSoBy 51 = .ok (.iload 4, 2) := by decide +kernel
theorem dX8_isSoBy_53 : decode cX8_isSoBy 53 = .ok (.ifCond .eq 61, 3) := by decide +kernel
theorem dX8_isSoBy_56 : decode cX8_isSoBy 56 = .ok (.aload_n 0, 1) := by decide +kernel
theorem dX8_isSoBy_57 : decode cX8_isSoBy 57 = .ok (.getfield 48, 3) := by decide +kernel
theorem dX8_isSoBy_60 : decode cX8_isSoBy 60 = .ok (.iconst 3, 1) := by decide +kernel
theorem dX8_isSoBy_61 : decode cX8_isSoBy 61 = .ok (.iload 6, 2) := by decide +kernel
theorem dX8_isSoBy_63 : decode cX8_isSoBy 63 = .ok (.imul, 1) := by decide +kernel
theorem dX8_isSoBy_64 : decode cX8_isSoBy 64 = .ok (.iaload, 1) := by decide +kernel
theorem dX8_isSoBy_65 : decode cX8_isSoBy 65 = .ok (.iload_n 1, 1) := by decide +kernel
theorem dX8_isSoBy_66 : decode cX8_isSoBy 66 = .ok (.if_icmp .ne 44, 3) := by decide +kernel
theorem dX8_isSoBy_69 : decode cX8_isSoBy 69 = .ok (.aload_n 0, 1) := by decide +kernel
theorem dX8_isSoBy_70 : decode cX8_isSoBy 70 = .ok (.getfield 48, 3) := by decide +kernel
theorem dX8_isSoBy_73 : decode cX8_isSoBy 73 = .ok (.iconst 3, 1) := by decide +kernel
theorem dX8_isSoBy_74 : decode cX8_isSoBy 74 = .ok (.iload 6, 2) := by decide +kernel
theorem dX8_isSoBy_76 : decode cX8_isSoBy 76 = .ok (.imul, 1) := by decide +kernel
theorem dX8_isSoBy_77 : decode cX8_isSoBy 77 = .ok (.iconst 2, 1) := by decide +kernel
theorem dX8_isSoBy_78 : decode cX8_isSoBy 78 = .ok (.iadd, 1) := by decide +kernel
theorem dX8_isSoBy_79 : decode cX8_isSoBy 79 = .ok (.iaload, 1) := by decide +kernel
theorem dX8_isSoBy_80 : decode cX8_isSoBy 80 = .ok (.iload 5, 2) := by decide +kernel
theorem dX8_isSoBy_82 : decode cX8_isSoBy 82 = .ok (.if_icmp .ne 28, 3) := by decide +kernel
theorem dX8_isSoBy_85 : decode cX8_isSoBy 85 = .ok (.aload_n 0, 1) := by decide +kernel
theorem dX8_isSoBy_86 : decode cX8_isSoBy 86 = .ok (.getfield 7, 3) := by decide +kernel
theorem dX8_isSoBy_89 : decode cX8_isSoBy 89 = .ok (.iload_n 3, 1) := by decide +kernel
theorem dX8_isSoBy_90 : decode cX8_isSoBy 90 = .ok (.bipush 15, 2) := by decide +kernel
theorem dX8_isSoBy_92 : decode cX8_isSoBy 92 = .ok (.iadd, 1) := by decide +kernel
theorem dX8_isSoBy_93 : decode cX8_isSoBy 93 = .ok (.iload_n 1, 1) := by decide +kernel
theorem dX8_isSoBy_94 : decode cX8_isSoBy 94 = .ok (.iadd, 1) := by decide +kernel
theorem dX8_isSoBy_95 : decode cX8_isSoBy 95 = .ok (.iaload, 1) := by decide +kernel
theorem dX8_isSoBy_96 : decode cX8_isSoBy 96 = .ok (.aload_n 0, 1) := by decide +kernel
theorem dX8_isSoBy_97 : decode cX8_isSoBy 97 = .ok (.getfield 48, 3) := by decide +kernel
theorem dX8_isSoBy_100 : decode cX8_isSoBy 100 = .ok (.iconst 3, 1) := by decide +kernel
theorem dX8_isSoBy_101 : decode cX8_isSoBy 101 = .ok (.iload 6, 2) := by decide +kernel
theorem dX8_isSoBy_103 : decode cX8_isSoBy 103 = .ok (.imul, 1) := by decide +kernel
theorem dX8_isSoBy_104 : decode cX8_isSoBy 104 = .ok (.iconst 1, 1) := by decide +kernel
theorem dX8_isSoBy_105 : decode cX8_isSoBy 105 = .ok (.iadd, 1) := by decide +kernel
theorem dX8_isSoBy_106 : decode cX8_isSoBy 106 = .ok (.iaload, 1) := by decide +kernel
theorem dX8_isSoBy_107 : decode cX8_isSoBy 107 = .ok (.if_icmp .ne 7, 3) := by decide +kernel
theorem dX8_isSoBy_110 : decode cX8_isSoBy 110 = .ok (.iconst 1, 1) := by decide +kernel
theorem dX8_isSoBy_111 : decode cX8_isSoBy 111 = .ok (.goto 4, 3) := by decide +kernel
theorem dX8_isSoBy_114 : decode cX8_isSoBy 114 = .ok (.iconst 0, 1) := by decide +kernel
theorem dX8_isSoBy_115 : decode cX8_isSoBy 115 = .ok (.istore 4, 2) := by decide +kernel
theorem dX8_isSoBy_117 : decode cX8_isSoBy 117 = .ok (.iinc 6 1, 3) := by decide +kernel
theorem dX8_isSoBy_120 : decode cX8_isSoBy 120 = .ok (.goto (-78), 3) := by decide +kernel
theorem dX8_isSoBy_123 : decode cX8_isSoBy 123 = .ok (.aload_n 0, 1) := by decide +kernel
theorem dX8_isSoBy_124 : decode cX8_isSoBy 124 = .ok (.iload_n 3, 1) := by decide +kernel
theorem dX8_isSoBy_125 : decode cX8_isSoBy 125 = .ok (.invokevirtual 185, 3) := by decide +kernel
theorem dX8_isSoBy_128 : decode cX8_isSoBy 128 = .ok (.iinc 5 1, 3) := by decide +kernel
theorem dX8_isSoBy_131 : decode cX8_isSoBy 131 = .ok (.goto (-104), 3) := by decide +kernel
theorem dX8_isSoBy_134 : decode cX8_isSoBy 134 = .ok (.iload 4, 2) := by decide +kernel
theorem dX8_isSoBy_136 : decode cX8_isSoBy 136 = .ok (.ireturn, 1) := by decide +kernel
theorem dX8_stamps_0 : decode cX8_stamps 0 = .ok (.aload_n 0, 1) := by decide +kernel
theorem dX8_stamps_1 : decode cX8_stamps 1 = .ok (.iload_n 1, 1) := by decide +kernel
theorem dX8_stamps_2 : decode cX8_stamps 2 = .ok (.invokevirtual 160, 3) := by decide +kernel
theorem dX8_stamps_5 : decode cX8_stamps 5 = .ok (.ifCond .ne 6, 3) := by decide +kernel
theorem dX8_stamps_8 : decode cX8_stamps 8 = .ok (.bipush (-2), 2) := by decide +kernel
theorem dX8_stamps_10 : decode cX8_stamps 10 = .ok (.ireturn, 1) := by decide +kernel
theorem dX8_stamps_11 : decode cX8_stamps 11 = .ok (.iconst 0, 1) := by decide +kernel
theorem dX8_stamps_12 : decode cX8_stamps 12 = .ok (.istore_n 2, 1) := by decide +kernel
theorem dX8_stamps_13 : decode cX8_stamps 13 = .ok (.iconst 0, 1) := by decide +kernel
theorem dX8_stamps_14 : decode cX8_stamps 14 = .ok (.istore_n 3, 1) := by decide +kernel
theorem dX8_stamps_15 : decode cX8_stamps 15 = .ok (.iload_n 3, 1) := by decide +kernel
theorem dX8_stamps_16 : decode cX8_stamps 16 = .ok (.bipush 10, 2) := by decide +kernel
theorem dX8_stamps_18 : decode cX8_stamps 18 = .ok (.if_icmp .ge 28, 3) := by decide +kernel
theorem dX8_stamps_21 : decode cX8_stamps 21 = .ok (.iload_n 2, 1) := by decide +kernel
theorem dX8_stamps_22 : decode cX8_stamps 22 = .ok (.aload_n 0, 1) := by decide +kernel
theorem dX8_stamps_23 : decode cX8_stamps 23 = .ok (.iload_n 1, 1) := by decide +kernel
theorem dX8_stamps_24 : decode cX8_stamps 24 = .ok (.iload_n 3, 1) := by decide +kernel
theorem dX8_stamps_25 : decode cX8_stamps 25 = .ok (.invokevirtual 222, 3) := by decide +kernel
theorem dX8_stamps_28 : decode cX8_stamps 28 = .ok (.ifCond .eq 9, 3) := by decide +kernel
theorem dX8_stamps_31 : decode cX8_stamps 31 = .ok (.iconst 1, 1) := by decide +kernel
theorem dX8_stamps_32 : decode cX8_stamps 32 = .ok (.iload_n 3, 1) := by decide +kernel
theorem dX8_stamps_33 : decode cX8_stamps 33 = .ok (.ishl, 1) := by decide +kernel
theorem dX8_stamps_34 : decode cX8_stamps 34 = .ok (.goto 4, 3) := by decide +kernel
theorem dX8_stamps_37 : decode cX8_stamps 37 = .ok (.iconst 0, 1) := by decide +kernel
theorem dX8_stamps_38 : decode cX8_stamps 38 = .ok (.ior, 1) := by decide +kernel
theorem dX8_stamps_39 : decode cX8_stamps 39 = .ok (.istore_n 2, 1) := by decide +kernel
theorem dX8_stamps_40 : decode cX8_stamps 40 = .ok (.iinc 3 1, 3) := by decide +kernel
theorem dX8_stamps_43 : decode cX8_stamps 43 = .ok (.goto (-28), 3) := by decide +kernel
theorem dX8_stamps_46 : decode cX8_stamps 46 = .ok (.iload_n 2, 1) := by decide +kernel
theorem dX8_stamps_47 : decode cX8_stamps 47 = .ok (.ireturn, 1) := by decide +kernel
theorem dX8_crumbs_0 : decode cX8_crumbs 0 = .ok (.aload_n 0, 1) := by decide +kernel
theorem dX8_crumbs_1 : decode cX8_crumbs 1 = .ok (.iload_n 1, 1) := by decide +kernel
theorem dX8_crumbs_2 : decode cX8_crumbs 2 = .ok (.invokevirtual 151, 3) := by decide +kernel
theorem dX8_crumbs_5 : decode cX8_crumbs 5 = .ok (.ifCond .ne 6, 3) := by decide +kernel
theorem dX8_crumbs_8 : decode cX8_crumbs 8 = .ok (.bipush (-2), 2) := by decide +kernel
theorem dX8_crumbs_10 : decode cX8_crumbs 10 = .ok (.ireturn, 1) := by decide +kernel
theorem dX8_crumbs_11 : decode cX8_crumbs 11 = .ok (.iload_n 2, 1) := by decide +kernel
theorem dX8_crumbs_12 : decode cX8_crumbs 12 = .ok (.i2l, 1) := by decide +kernel
theorem dX8_crumbs_13 : decode cX8_crumbs 13 = .ok (.lconst 0, 1) := by decide +kernel
theorem dX8_crumbs_14 : decode cX8_crumbs 14 = .ok (.ldc2_w 183, 3) := by decide +kernel
theorem dX8_crumbs_17 : decode cX8_crumbs 17 = .ok (.invokestatic 73, 3) := by decide +kernel
theorem dX8_crumbs_20 : decode cX8_crumbs 20 = .ok (.ifCond .ne 6, 3) := by decide +kernel
theorem dX8_crumbs_23 : decode cX8_crumbs 23 = .ok (.bipush (-3), 2) := by decide +kernel
theorem dX8_crumbs_25 : decode cX8_crumbs 25 = .ok (.ireturn, 1) := by decide +kernel
theorem dX8_crumbs_26 : decode cX8_crumbs 26 = .ok (.aload_n 0, 1) := by decide +kernel
theorem dX8_crumbs_27 : decode cX8_crumbs 27 = .ok (.getfield 51, 3) := by decide +kernel
theorem dX8_crumbs_30 : decode cX8_crumbs 30 = .ok (.iload_n 1, 1) := by decide +kernel
theorem dX8_crumbs_31 : decode cX8_crumbs 31 = .ok (.iaload, 1) := by decide +kernel
theorem dX8_crumbs_32 : decode cX8_crumbs 32 = .ok (.istore_n 3, 1) := by decide +kernel
theorem dX8_crumbs_33 : decode cX8_crumbs 33 = .ok (.aload_n 0, 1) := by decide +kernel
theorem dX8_crumbs_34 : decode cX8_crumbs 34 = .ok (.getfield 51, 3) := by decide +kernel
theorem dX8_crumbs_37 : decode cX8_crumbs 37 = .ok (.iload_n 1, 1) := by decide +kernel
theorem dX8_crumbs_38 : decode cX8_crumbs 38 = .ok (.iload_n 2, 1) := by decide +kernel
theorem dX8_crumbs_39 : decode cX8_crumbs 39 = .ok (.iastore, 1) := by decide +kernel
theorem dX8_crumbs_40 : decode cX8_crumbs 40 = .ok (.iload_n 3, 1) := by decide +kernel
theorem dX8_crumbs_41 : decode cX8_crumbs 41 = .ok (.ireturn, 1) := by decide +kernel
theorem dX8_odds_0 : decode cX8_odds 0 = .ok (.aload_n 0, 1) := by decide +kernel
theorem dX8_odds_1 : decode cX8_odds 1 = .ok (.iload_n 1, 1) := by decide +kernel
theorem dX8_odds_2 : decode cX8_odds 2 = .ok (.invokevirtual 151, 3) := by decide +kernel
theorem dX8_odds_5 : decode cX8_odds 5 = .ok (.ifCond .ne 6, 3) := by decide +kernel
theorem dX8_odds_8 : decode cX8_odds 8 = .ok (.bipush (-2), 2) := by decide +kernel
theorem dX8_odds_10 : decode cX8_odds 10 = .ok (.ireturn, 1) := by decide +kernel
theorem dX8_odds_11 : decode cX8_odds 11 = .ok (.iload_n 2, 1) := by decide +kernel
theorem dX8_odds_12 : decode cX8_odds 12 = .ok (.i2l, 1) := by decide +kernel
theorem dX8_odds_13 : decode cX8_odds 13 = .ok (.lconst 0, 1) := by decide +kernel
theorem dX8_odds_14 : decode cX8_odds 14 = .ok (.lconst 1, 1) := by decide +kernel
theorem dX8_odds_15 : decode cX8_odds 15 = .ok (.invokestatic 73, 3) := by decide +kernel
theorem dX8_odds_18 : decode cX8_odds 18 = .ok (.ifCond .ne 6, 3) := by decide +kernel
theorem dX8_odds_21 : decode cX8_odds 21 = .ok (.bipush (-3), 2) := by decide +kernel
theorem dX8_odds_23 : decode cX8_odds 23 = .ok (.ireturn, 1) := by decide +kernel
theorem dX8_odds_24 : decode cX8_odds 24 = .ok (.iconst 0, 1) := by decide +kernel
theorem dX8_odds_25 : decode cX8_odds 25 = .ok (.istore_n 3, 1) := by decide +kernel
theorem dX8_odds_26 : decode cX8_odds 26 = .ok (.iconst 0, 1) := by decide +kernel
theorem dX8_odds_27 : decode cX8_odds 27 = .ok (.istore 4, 2) := by decide +kernel
theorem dX8_odds_29 : decode cX8_odds 29 = .ok (.iload 4, 2) := by decide +kernel
theorem dX8_odds_31 : decode cX8_odds 31 = .ok (.aload_n 0, 1) := by decide +kernel
theorem dX8_odds_32 : decode cX8_odds 32 = .ok (.getfield 23, 3) := by decide +kernel
theorem dX8_odds_35 : decode cX8_odds 35 = .ok (.if_icmp .ge 19, 3) := by decide +kernel
theorem dX8_odds_38 : decode cX8_odds 38 = .ok (.iload_n 3, 1) := by decide +kernel
theorem dX8_odds_39 : decode cX8_odds 39 = .ok (.aload_n 0, 1) := by decide +kernel
theorem dX8_odds_40 : decode cX8_odds 40 = .ok (.getfield 51, 3) := by decide +kernel
theorem dX8_odds_43 : decode cX8_odds 43 = .ok (.iload 4, 2) := by decide +kernel
theorem dX8_odds_45 : decode cX8_odds 45 = .ok (.iaload, 1) := by decide +kernel
theorem dX8_odds_46 : decode cX8_odds 46 = .ok (.iadd, 1) := by decide +kernel
theorem dX8_odds_47 : decode cX8_odds 47 = .ok (.istore_n 3, 1) := by decide +kernel
theorem dX8_odds_48 : decode cX8_odds 48 = .ok (.iinc 4 1, 3) := by decide +kernel
theorem dX8_odds_51 : decode cX8_odds 51 = .ok (.goto (-22), 3) := by decide +kernel
theorem dX8_odds_54 : decode cX8_odds 54 = .ok (.iload_n 3, 1) := by decide +kernel
theorem dX8_odds_55 : decode cX8_odds 55 = .ok (.ifCond .ne 6, 3) := by decide +kernel
theorem dX8_odds_58 : decode cX8_odds 58 = .ok (.bipush (-4), 2) := by decide +kernel
theorem dX8_odds_60 : decode cX8_odds 60 = .ok (.ireturn, 1) := by decide +kernel
theorem dX8_odds_61 : decode cX8_odds 61 = .ok (.aload_n 0, 1) := by decide +kernel
theorem dX8_odds_62 : decode cX8_odds 62 = .ok (.getfield 51, 3) := by decide +kernel
theorem dX8_odds_65 : decode cX8_odds 65 = .ok (.iload_n 1, 1) := by decide +kernel
theorem dX8_odds_66 : decode cX8_odds 66 = .ok (.iaload, 1) := by decide +kernel
theorem dX8_odds_67 : decode cX8_odds 67 = .ok (.istore 4, 2) := by decide +kernel
theorem dX8_odds_69 : decode cX8_odds 69 = .ok (.iload_n 3, 1) := by decide +kernel
theorem dX8_odds_70 : decode cX8_odds 70 = .ok (.istore 5, 2) := by decide +kernel
theorem dX8_odds_72 : decode cX8_odds 72 = .ok (.iload 5, 2) := by decide +kernel
theorem dX8_odds_74 : decode cX8_odds 74 = .ok (.ifCond .eq 21, 3) := by decide +kernel
theorem dX8_odds_77 : decode cX8_odds 77 = .ok (.iload 4, 2) := by decide +kernel
theorem dX8_odds_79 : decode cX8_odds 79 = .ok (.iload 5, 2) := by decide +kernel
theorem dX8_odds_81 : decode cX8_odds 81 = .ok (.irem, 1) := by decide +kernel
theorem dX8_odds_82 : decode cX8_odds 82 = .ok (.istore 6, 2) := by decide +kernel
theorem dX8_odds_84 : decode cX8_odds 84 = .ok (.iload 5, 2) := by decide +kernel
theorem dX8_odds_86 : decode cX8_odds 86 = .ok (.istore 4, 2) := by decide +kernel
theorem dX8_odds_88 : decode cX8_odds 88 = .ok (.iload 6, 2) := by decide +kernel
theorem dX8_odds_90 : decode cX8_odds 90 = .ok (.istore 5, 2) := by decide +kernel
theorem dX8_odds_92 : decode cX8_odds 92 = .ok (.goto (-20), 3) := by decide +kernel
theorem dX8_odds_95 : decode cX8_odds 95 = .ok (.iload_n 2, 1) := by decide +kernel
theorem dX8_odds_96 : decode cX8_odds 96 = .ok (.ifCond .ne 15, 3) := by decide +kernel
theorem dX8_odds_99 : decode cX8_odds 99 = .ok (.aload_n 0, 1) := by decide +kernel
theorem dX8_odds_100 : decode cX8_odds 100 = .ok (.getfield 51, 3) := by decide +kernel
theorem dX8_odds_103 : decode cX8_odds 103 = .ok (.iload_n 1, 1) := by decide +kernel
theorem dX8_odds_104 : decode cX8_odds 104 = .ok (.iaload, 1) := by decide +kernel
theorem dX8_odds_105 : decode cX8_odds 105 = .ok (.iload 4, 2) := by decide +kernel
theorem dX8_odds_107 : decode cX8_odds 107 = .ok (.idiv, 1) := by decide +kernel
theorem dX8_odds_108 : decode cX8_odds 108 = .ok (.goto 7, 3) := by decide +kernel
theorem dX8_odds_111 : decode cX8_odds 111 = .ok (.iload_n 3, 1) := by decide +kernel
theorem dX8_odds_112 : decode cX8_odds 112 = .ok (.iload 4, 2) := by decide +kernel
theorem dX8_odds_114 : decode cX8_odds 114 = .ok (.idiv, 1) := by decide +kernel
theorem dX8_odds_115 : decode cX8_odds 115 = .ok (.ireturn, 1) := by decide +kernel
theorem dX8_count_0 : decode cX8_count 0 = .ok (.iload_n 1, 1) := by decide +kernel
theorem dX8_count_1 : decode cX8_count 1 = .ok (.tableswitch 112 0 9 #[55, 60, 65, 70, 75, 82, 89, 96, 102, 107], 55) := by decide +kernel
theorem dX8_count_56 : decode cX8_count 56 = .ok (.aload_n 0, 1) := by decide +kernel
theorem dX8_count_57 : decode cX8_count 57 = .ok (.getfield 23, 3) := by decide +kernel
theorem dX8_count_60 : decode cX8_count 60 = .ok (.ireturn, 1) := by decide +kernel
theorem dX8_count_61 : decode cX8_count 61 = .ok (.aload_n 0, 1) := by decide +kernel
theorem dX8_count_62 : decode cX8_count 62 = .ok (.getfield 61, 3) := by decide +kernel
theorem dX8_count_65 : decode cX8_count 65 = .ok (.ireturn, 1) := by decide +kernel
theorem dX8_count_66 : decode cX8_count 66 = .ok (.aload_n 0, 1) := by decide +kernel
theorem dX8_count_67 : decode cX8_count 67 = .ok (.getfield 64, 3) := by decide +kernel
theorem dX8_count_70 : decode cX8_count 70 = .ok (.ireturn, 1) := by decide +kernel
theorem dX8_count_71 : decode cX8_count 71 = .ok (.aload_n 0, 1) := by decide +kernel
theorem dX8_count_72 : decode cX8_count 72 = .ok (.getfield 39, 3) := by decide +kernel
theorem dX8_count_75 : decode cX8_count 75 = .ok (.ireturn, 1) := by decide +kernel
theorem dX8_count_76 : decode cX8_count 76 = .ok (.aload_n 0, 1) := by decide +kernel
theorem dX8_count_77 : decode cX8_count 77 = .ok (.getfield 7, 3) := by decide +kernel
theorem dX8_count_80 : decode cX8_count 80 = .ok (.iconst 1, 1) := by decide +kernel
theorem dX8_count_81 : decode cX8_count 81 = .ok (.iaload, 1) := by decide +kernel
theorem dX8_count_82 : decode cX8_count 82 = .ok (.ireturn, 1) := by decide +kernel
theorem dX8_count_83 : decode cX8_count 83 = .ok (.aload_n 0, 1) := by decide +kernel
theorem dX8_count_84 : decode cX8_count 84 = .ok (.getfield 7, 3) := by decide +kernel
theorem dX8_count_87 : decode cX8_count 87 = .ok (.iconst 0, 1) := by decide +kernel
theorem dX8_count_88 : decode cX8_count 88 = .ok (.iaload, 1) := by decide +kernel
theorem dX8_count_89 : decode cX8_count 89 = .ok (.ireturn, 1) := by decide +kernel
theorem dX8_count_90 : decode cX8_count 90 = .ok (.aload_n 0, 1) := by decide +kernel
theorem dX8_count_91 : decode cX8_count 91 = .ok (.getfield 7, 3) := by decide +kernel
theorem dX8_count_94 : decode cX8_count 94 = .ok (.iconst 2, 1) := by decide +kernel
theorem dX8_count_95 : decode cX8_count 95 = .ok (.iaload, 1) := by decide +kernel
theorem dX8_count_96 : decode cX8_count 96 = .ok (.ireturn, 1) := by decide +kernel
theorem dX8_count_97 : decode cX8_count 97 = .ok (.aload_n 0, 1) := by decide +kernel
theorem dX8_count_98 : decode cX8_count 98 = .ok (.iconst 0, 1) := by decide +kernel
theorem dX8_count_99 : decode cX8_count 99 = .ok (.invokevirtual 207, 3) := by decide +kernel
theorem dX8_count_102 : decode cX8_count 102 = .ok (.ireturn, 1) := by decide +kernel
theorem dX8_count_103 : decode cX8_count 103 = .ok (.aload_n 0, 1) := by decide +kernel
theorem dX8_count_104 : decode cX8_count 104 = .ok (.getfield 148, 3) := by decide +kernel
theorem dX8_count_107 : decode cX8_count 107 = .ok (.ireturn, 1) := by decide +kernel
theorem dX8_count_108 : decode cX8_count 108 = .ok (.aload_n 0, 1) := by decide +kernel
theorem dX8_count_109 : decode cX8_count 109 = .ok (.getfield 77, 3) := by decide +kernel
theorem dX8_count_112 : decode cX8_count 112 = .ok (.ireturn, 1) := by decide +kernel
theorem dX8_count_113 : decode cX8_count 113 = .ok (.bipush (-3), 2) := by decide +kernel
theorem dX8_count_115 : decode cX8_count 115 = .ok (.ireturn, 1) := by decide +kernel
end
section
/-! the words, the classes, the methods: what the facts of the tables are said in -/
abbrev vwCl : List vw_C := [(RX0, TX0, 11), (RX1, TX1, 1), (RX2, TX2, 7), (RX3, TX3, 6), (RX4, TX4, 4), (RX5, TX5, 2), (RX6, TX6, 12), (RX7, TX7, 9), (RX8, TX8, 25)]
/-! the words: all of the tables that a call may carry on -/
def TB : List Cond := lw_tbl.filter goodWord
theorem tb_t {w : Cond} (i : Nat) (h : tables_1[i]? = some w) (hg : goodWord w = true) : w ∈ TB := List.mem_filter.mpr ⟨List.mem_append_right _ (List.mem_of_getElem? h), hg⟩
theorem tb_p {w : Cond} (i : Nat) (h : (k2_sels lw_privs)[i]? = some w) (hg : goodWord w = true) : w ∈ TB := List.mem_filter.mpr ⟨List.mem_append_left _ (List.mem_of_getElem? h), hg⟩
theorem tb_good : GoodIn TB TB := fun w h => ⟨h, good_of_word (List.mem_filter.mp h).2⟩
/-- a method: its name, its code, its locals, what it answers -/
abbrev MI : Type := MethodName × ByteArray × Nat × Option FieldType
def wsM (mi : MI) : List Cond := .code mi.1 mi.2.1 mi.2.2.1 mi.2.2.2 :: TB
theorem wsM_good {mi : MI} {y : MethodName} {b : ByteArray} {n : Nat} {r : Option FieldType} (h : Cond.code y b n r ∈ TB) : GoodIn TB (wsM (y, b, n, r)) := by
  intro w hw
  rcases List.mem_cons.mp hw with rfl | hw
  · exact tb_good _ h
  · exact tb_good _ hw
/-- a class as the tables have it -/
def CLS (ci : Nat) (C : String) (T : u_T) (N : Nat) : Prop := vwCl[ci]? = some (C, T, N) ∧ (∀ w ∈ u_ws C T N, w ∈ TB) ∧ (∃ ty0 : Nat → FieldType, ∀ k, k < N → parseFieldDescriptor (T k).2.2.1 = some (ty0 k)) ∧ ∀ a, a < N → ∀ b, b < N → a ≠ b → (T a).2.1 ≠ (T b).2.1
/-- a field by its entry -/
def FL (own : String) (idx ci k : Nat) : Prop := ∃ (C : String) (T : u_T) (N : Nat), CLS ci C T N ∧ k < N ∧ (T k).1 = C ∧ Cond.fieldLink own idx C (T k).2.1 (T k).2.2.1 ∈ TB
/-- a number's field that may be written -/
def FI (ci k : Nat) : Prop := ∃ (C : String) (T : u_T) (N : Nat), vwCl[ci]? = some (C, T, N) ∧ (T k).2.2.2 = false ∧ parseFieldDescriptor (T k).2.2.1 = some .int
def MOK (mi : MI) (n : Nat) : Prop := Cond.code mi.1 mi.2.1 mi.2.2.1 mi.2.2.2 ∈ TB ∧ Cond.initialized mi.1.cls ∈ TB ∧ (mi.1.cls ≠ "java/lang/invoke/MethodHandle" ∧ mi.1.cls ≠ "java/lang/invoke/VarHandle" ∧ (parseMethodDescriptor mi.1.desc).map (fun d => d.parameters.length) = some n) ∧ mi.2.2.1 ≤ 20
def MV (mi : MI) : Prop := Cond.instanceMethod mi.1 ∈ TB ∧ Cond.selects mi.1.cls mi.1 mi.1 ∈ TB
end
section
/-! facts of the tables -/
theorem la0_0 : u_lay RX0 TX0 0 ∈ TB := tb_t 187 (by decide +kernel) (by decide +kernel)
theorem la0_1 : u_lay RX0 TX0 1 ∈ TB := tb_t 189 (by decide +kernel) (by decide +kernel)
theorem la0_2 : u_lay RX0 TX0 2 ∈ TB := tb_t 191 (by decide +kernel) (by decide +kernel)
theorem la0_3 : u_lay RX0 TX0 3 ∈ TB := tb_t 193 (by decide +kernel) (by decide +kernel)
theorem la0_4 : u_lay RX0 TX0 4 ∈ TB := tb_t 195 (by decide +kernel) (by decide +kernel)
theorem la0_5 : u_lay RX0 TX0 5 ∈ TB := tb_t 197 (by decide +kernel) (by decide +kernel)
theorem la0_6 : u_lay RX0 TX0 6 ∈ TB := tb_t 199 (by decide +kernel) (by decide +kernel)
theorem la0_7 : u_lay RX0 TX0 7 ∈ TB := tb_t 201 (by decide +kernel) (by decide +kernel)
theorem la0_8 : u_lay RX0 TX0 8 ∈ TB := tb_t 203 (by decide +kernel) (by decide +kernel)
theorem la0_9 : u_lay RX0 TX0 9 ∈ TB := tb_t 205 (by decide +kernel) (by decide +kernel)
theorem la0_10 : u_lay RX0 TX0 10 ∈ TB := tb_t 207 (by decide +kernel) (by decide +kernel)
theorem cls0 : CLS 0 RX0 TX0 11 := ⟨rfl, fun w hw => by
  obtain ⟨k, hk, rfl⟩ := List.mem_map.mp hw
  have hk := List.mem_range.mp hk
  match k, hk with
  | 0, _ => exact la0_0
  | 1, _ => exact la0_1
  | 2, _ => exact la0_2
  | 3, _ => exact la0_3
  | 4, _ => exact la0_4
  | 5, _ => exact la0_5
  | 6, _ => exact la0_6
  | 7, _ => exact la0_7
  | 8, _ => exact la0_8
  | 9, _ => exact la0_9
  | 10, _ => exact la0_10
  | k + 11, hk => omega, ⟨tyX0, tyX0_ok⟩, nmX0⟩
theorem fi0_0 : FI 0 0 := ⟨RX0, TX0, 11, rfl, rfl, by decide +kernel⟩
theorem fi0_1 : FI 0 1 := ⟨RX0, TX0, 11, rfl, rfl, by decide +kernel⟩
theorem fi0_2 : FI 0 2 := ⟨RX0, TX0, 11, rfl, rfl, by decide +kernel⟩
theorem fi0_3 : FI 0 3 := ⟨RX0, TX0, 11, rfl, rfl, by decide +kernel⟩
theorem la1_0 : u_lay RX1 TX1 0 ∈ TB := tb_t 280 (by decide +kernel) (by decide +kernel)
theorem cls1 : CLS 1 RX1 TX1 1 := ⟨rfl, fun w hw => by
  obtain ⟨k, hk, rfl⟩ := List.mem_map.mp hw
  have hk := List.mem_range.mp hk
  match k, hk with
  | 0, _ => exact la1_0
  | k + 1, hk => omega, ⟨tyX1, tyX1_ok⟩, nmX1⟩
theorem la2_0 : u_lay RX2 TX2 0 ∈ TB := tb_t 236 (by decide +kernel) (by decide +kernel)
theorem la2_1 : u_lay RX2 TX2 1 ∈ TB := tb_t 238 (by decide +kernel) (by decide +kernel)
theorem la2_2 : u_lay RX2 TX2 2 ∈ TB := tb_t 240 (by decide +kernel) (by decide +kernel)
theorem la2_3 : u_lay RX2 TX2 3 ∈ TB := tb_t 242 (by decide +kernel) (by decide +kernel)
theorem la2_4 : u_lay RX2 TX2 4 ∈ TB := tb_t 244 (by decide +kernel) (by decide +kernel)
theorem la2_5 : u_lay RX2 TX2 5 ∈ TB := tb_t 246 (by decide +kernel) (by decide +kernel)
theorem la2_6 : u_lay RX2 TX2 6 ∈ TB := tb_t 248 (by decide +kernel) (by decide +kernel)
theorem cls2 : CLS 2 RX2 TX2 7 := ⟨rfl, fun w hw => by
  obtain ⟨k, hk, rfl⟩ := List.mem_map.mp hw
  have hk := List.mem_range.mp hk
  match k, hk with
  | 0, _ => exact la2_0
  | 1, _ => exact la2_1
  | 2, _ => exact la2_2
  | 3, _ => exact la2_3
  | 4, _ => exact la2_4
  | 5, _ => exact la2_5
  | 6, _ => exact la2_6
  | k + 7, hk => omega, ⟨tyX2, tyX2_ok⟩, nmX2⟩
theorem la3_0 : u_lay RX3 TX3 0 ∈ TB := tb_t 139 (by decide +kernel) (by decide +kernel)
theorem la3_1 : u_lay RX3 TX3 1 ∈ TB := tb_t 141 (by decide +kernel) (by decide +kernel)
theorem la3_2 : u_lay RX3 TX3 2 ∈ TB := tb_t 143 (by decide +kernel) (by decide +kernel)
theorem la3_3 : u_lay RX3 TX3 3 ∈ TB := tb_t 145 (by decide +kernel) (by decide +kernel)
theorem la3_4 : u_lay RX3 TX3 4 ∈ TB := tb_t 147 (by decide +kernel) (by decide +kernel)
theorem la3_5 : u_lay RX3 TX3 5 ∈ TB := tb_t 149 (by decide +kernel) (by decide +kernel)
theorem cls3 : CLS 3 RX3 TX3 6 := ⟨rfl, fun w hw => by
  obtain ⟨k, hk, rfl⟩ := List.mem_map.mp hw
  have hk := List.mem_range.mp hk
  match k, hk with
  | 0, _ => exact la3_0
  | 1, _ => exact la3_1
  | 2, _ => exact la3_2
  | 3, _ => exact la3_3
  | 4, _ => exact la3_4
  | 5, _ => exact la3_5
  | k + 6, hk => omega, ⟨tyX3, tyX3_ok⟩, nmX3⟩
theorem fi3_2 : FI 3 2 := ⟨RX3, TX3, 6, rfl, rfl, by decide +kernel⟩
theorem fi3_3 : FI 3 3 := ⟨RX3, TX3, 6, rfl, rfl, by decide +kernel⟩
theorem fi3_4 : FI 3 4 := ⟨RX3, TX3, 6, rfl, rfl, by decide +kernel⟩
theorem fi3_5 : FI 3 5 := ⟨RX3, TX3, 6, rfl, rfl, by decide +kernel⟩
theorem la4_0 : u_lay RX4 TX4 0 ∈ TB := tb_t 263 (by decide +kernel) (by decide +kernel)
theorem la4_1 : u_lay RX4 TX4 1 ∈ TB := tb_t 265 (by decide +kernel) (by decide +kernel)
theorem la4_2 : u_lay RX4 TX4 2 ∈ TB := tb_t 267 (by decide +kernel) (by decide +kernel)
theorem la4_3 : u_lay RX4 TX4 3 ∈ TB := tb_t 269 (by decide +kernel) (by decide +kernel)
theorem cls4 : CLS 4 RX4 TX4 4 := ⟨rfl, fun w hw => by
  obtain ⟨k, hk, rfl⟩ := List.mem_map.mp hw
  have hk := List.mem_range.mp hk
  match k, hk with
  | 0, _ => exact la4_0
  | 1, _ => exact la4_1
  | 2, _ => exact la4_2
  | 3, _ => exact la4_3
  | k + 4, hk => omega, ⟨tyX4, tyX4_ok⟩, nmX4⟩
theorem fi4_0 : FI 4 0 := ⟨RX4, TX4, 4, rfl, rfl, by decide +kernel⟩
theorem la5_0 : u_lay RX5 TX5 0 ∈ TB := tb_t 36 (by decide +kernel) (by decide +kernel)
theorem la5_1 : u_lay RX5 TX5 1 ∈ TB := tb_t 38 (by decide +kernel) (by decide +kernel)
theorem cls5 : CLS 5 RX5 TX5 2 := ⟨rfl, fun w hw => by
  obtain ⟨k, hk, rfl⟩ := List.mem_map.mp hw
  have hk := List.mem_range.mp hk
  match k, hk with
  | 0, _ => exact la5_0
  | 1, _ => exact la5_1
  | k + 2, hk => omega, ⟨tyX5, tyX5_ok⟩, nmX5⟩
theorem fi5_1 : FI 5 1 := ⟨RX5, TX5, 2, rfl, rfl, by decide +kernel⟩
theorem la6_0 : u_lay RX6 TX6 0 ∈ TB := tb_t 97 (by decide +kernel) (by decide +kernel)
theorem la6_1 : u_lay RX6 TX6 1 ∈ TB := tb_t 99 (by decide +kernel) (by decide +kernel)
theorem la6_2 : u_lay RX6 TX6 2 ∈ TB := tb_t 101 (by decide +kernel) (by decide +kernel)
theorem la6_3 : u_lay RX6 TX6 3 ∈ TB := tb_t 103 (by decide +kernel) (by decide +kernel)
theorem la6_4 : u_lay RX6 TX6 4 ∈ TB := tb_t 105 (by decide +kernel) (by decide +kernel)
theorem la6_5 : u_lay RX6 TX6 5 ∈ TB := tb_t 107 (by decide +kernel) (by decide +kernel)
theorem la6_6 : u_lay RX6 TX6 6 ∈ TB := tb_t 109 (by decide +kernel) (by decide +kernel)
theorem la6_7 : u_lay RX6 TX6 7 ∈ TB := tb_t 111 (by decide +kernel) (by decide +kernel)
theorem la6_8 : u_lay RX6 TX6 8 ∈ TB := tb_t 113 (by decide +kernel) (by decide +kernel)
theorem la6_9 : u_lay RX6 TX6 9 ∈ TB := tb_t 115 (by decide +kernel) (by decide +kernel)
theorem la6_10 : u_lay RX6 TX6 10 ∈ TB := tb_t 117 (by decide +kernel) (by decide +kernel)
theorem la6_11 : u_lay RX6 TX6 11 ∈ TB := tb_t 119 (by decide +kernel) (by decide +kernel)
theorem cls6 : CLS 6 RX6 TX6 12 := ⟨rfl, fun w hw => by
  obtain ⟨k, hk, rfl⟩ := List.mem_map.mp hw
  have hk := List.mem_range.mp hk
  match k, hk with
  | 0, _ => exact la6_0
  | 1, _ => exact la6_1
  | 2, _ => exact la6_2
  | 3, _ => exact la6_3
  | 4, _ => exact la6_4
  | 5, _ => exact la6_5
  | 6, _ => exact la6_6
  | 7, _ => exact la6_7
  | 8, _ => exact la6_8
  | 9, _ => exact la6_9
  | 10, _ => exact la6_10
  | 11, _ => exact la6_11
  | k + 12, hk => omega, ⟨tyX6, tyX6_ok⟩, nmX6⟩
theorem fi6_0 : FI 6 0 := ⟨RX6, TX6, 12, rfl, rfl, by decide +kernel⟩
theorem fi6_1 : FI 6 1 := ⟨RX6, TX6, 12, rfl, rfl, by decide +kernel⟩
theorem fi6_2 : FI 6 2 := ⟨RX6, TX6, 12, rfl, rfl, by decide +kernel⟩
theorem fi6_3 : FI 6 3 := ⟨RX6, TX6, 12, rfl, rfl, by decide +kernel⟩
theorem fi6_4 : FI 6 4 := ⟨RX6, TX6, 12, rfl, rfl, by decide +kernel⟩
theorem la7_0 : u_lay RX7 TX7 0 ∈ TB := tb_t 292 (by decide +kernel) (by decide +kernel)
theorem la7_1 : u_lay RX7 TX7 1 ∈ TB := tb_t 294 (by decide +kernel) (by decide +kernel)
theorem la7_2 : u_lay RX7 TX7 2 ∈ TB := tb_t 296 (by decide +kernel) (by decide +kernel)
theorem la7_3 : u_lay RX7 TX7 3 ∈ TB := tb_t 298 (by decide +kernel) (by decide +kernel)
theorem la7_4 : u_lay RX7 TX7 4 ∈ TB := tb_t 300 (by decide +kernel) (by decide +kernel)
theorem la7_5 : u_lay RX7 TX7 5 ∈ TB := tb_t 302 (by decide +kernel) (by decide +kernel)
theorem la7_6 : u_lay RX7 TX7 6 ∈ TB := tb_t 304 (by decide +kernel) (by decide +kernel)
theorem la7_7 : u_lay RX7 TX7 7 ∈ TB := tb_t 306 (by decide +kernel) (by decide +kernel)
theorem la7_8 : u_lay RX7 TX7 8 ∈ TB := tb_t 308 (by decide +kernel) (by decide +kernel)
theorem cls7 : CLS 7 RX7 TX7 9 := ⟨rfl, fun w hw => by
  obtain ⟨k, hk, rfl⟩ := List.mem_map.mp hw
  have hk := List.mem_range.mp hk
  match k, hk with
  | 0, _ => exact la7_0
  | 1, _ => exact la7_1
  | 2, _ => exact la7_2
  | 3, _ => exact la7_3
  | 4, _ => exact la7_4
  | 5, _ => exact la7_5
  | 6, _ => exact la7_6
  | 7, _ => exact la7_7
  | 8, _ => exact la7_8
  | k + 9, hk => omega, ⟨tyX7, tyX7_ok⟩, nmX7⟩
theorem la8_0 : u_lay RX8 TX8 0 ∈ TB := tb_t 816 (by decide +kernel) (by decide +kernel)
theorem la8_1 : u_lay RX8 TX8 1 ∈ TB := tb_t 818 (by decide +kernel) (by decide +kernel)
theorem la8_2 : u_lay RX8 TX8 2 ∈ TB := tb_t 820 (by decide +kernel) (by decide +kernel)
theorem la8_3 : u_lay RX8 TX8 3 ∈ TB := tb_t 822 (by decide +kernel) (by decide +kernel)
theorem la8_4 : u_lay RX8 TX8 4 ∈ TB := tb_t 824 (by decide +kernel) (by decide +kernel)
theorem la8_5 : u_lay RX8 TX8 5 ∈ TB := tb_t 826 (by decide +kernel) (by decide +kernel)
theorem la8_6 : u_lay RX8 TX8 6 ∈ TB := tb_t 828 (by decide +kernel) (by decide +kernel)
theorem la8_7 : u_lay RX8 TX8 7 ∈ TB := tb_t 830 (by decide +kernel) (by decide +kernel)
theorem la8_8 : u_lay RX8 TX8 8 ∈ TB := tb_t 832 (by decide +kernel) (by decide +kernel)
theorem la8_9 : u_lay RX8 TX8 9 ∈ TB := tb_t 834 (by decide +kernel) (by decide +kernel)
theorem la8_10 : u_lay RX8 TX8 10 ∈ TB := tb_t 836 (by decide +kernel) (by decide +kernel)
theorem la8_11 : u_lay RX8 TX8 11 ∈ TB := tb_t 838 (by decide +kernel) (by decide +kernel)
theorem la8_12 : u_lay RX8 TX8 12 ∈ TB := tb_t 840 (by decide +kernel) (by decide +kernel)
theorem la8_13 : u_lay RX8 TX8 13 ∈ TB := tb_t 842 (by decide +kernel) (by decide +kernel)
theorem la8_14 : u_lay RX8 TX8 14 ∈ TB := tb_t 844 (by decide +kernel) (by decide +kernel)
theorem la8_15 : u_lay RX8 TX8 15 ∈ TB := tb_t 846 (by decide +kernel) (by decide +kernel)
theorem la8_16 : u_lay RX8 TX8 16 ∈ TB := tb_t 848 (by decide +kernel) (by decide +kernel)
theorem la8_17 : u_lay RX8 TX8 17 ∈ TB := tb_t 850 (by decide +kernel) (by decide +kernel)
theorem la8_18 : u_lay RX8 TX8 18 ∈ TB := tb_t 852 (by decide +kernel) (by decide +kernel)
theorem la8_19 : u_lay RX8 TX8 19 ∈ TB := tb_t 854 (by decide +kernel) (by decide +kernel)
theorem la8_20 : u_lay RX8 TX8 20 ∈ TB := tb_t 856 (by decide +kernel) (by decide +kernel)
theorem la8_21 : u_lay RX8 TX8 21 ∈ TB := tb_t 858 (by decide +kernel) (by decide +kernel)
theorem la8_22 : u_lay RX8 TX8 22 ∈ TB := tb_t 860 (by decide +kernel) (by decide +kernel)
theorem la8_23 : u_lay RX8 TX8 23 ∈ TB := tb_t 862 (by decide +kernel) (by decide +kernel)
theorem la8_24 : u_lay RX8 TX8 24 ∈ TB := tb_t 864 (by decide +kernel) (by decide +kernel)
theorem cls8 : CLS 8 RX8 TX8 25 := ⟨rfl, fun w hw => by
  obtain ⟨k, hk, rfl⟩ := List.mem_map.mp hw
  have hk := List.mem_range.mp hk
  match k, hk with
  | 0, _ => exact la8_0
  | 1, _ => exact la8_1
  | 2, _ => exact la8_2
  | 3, _ => exact la8_3
  | 4, _ => exact la8_4
  | 5, _ => exact la8_5
  | 6, _ => exact la8_6
  | 7, _ => exact la8_7
  | 8, _ => exact la8_8
  | 9, _ => exact la8_9
  | 10, _ => exact la8_10
  | 11, _ => exact la8_11
  | 12, _ => exact la8_12
  | 13, _ => exact la8_13
  | 14, _ => exact la8_14
  | 15, _ => exact la8_15
  | 16, _ => exact la8_16
  | 17, _ => exact la8_17
  | 18, _ => exact la8_18
  | 19, _ => exact la8_19
  | 20, _ => exact la8_20
  | 21, _ => exact la8_21
  | 22, _ => exact la8_22
  | 23, _ => exact la8_23
  | 24, _ => exact la8_24
  | k + 25, hk => omega, ⟨tyX8, tyX8_ok⟩, nmX8⟩
theorem fi8_3 : FI 8 3 := ⟨RX8, TX8, 25, rfl, rfl, by decide +kernel⟩
theorem fi8_5 : FI 8 5 := ⟨RX8, TX8, 25, rfl, rfl, by decide +kernel⟩
theorem fi8_6 : FI 8 6 := ⟨RX8, TX8, 25, rfl, rfl, by decide +kernel⟩
theorem fi8_10 : FI 8 10 := ⟨RX8, TX8, 25, rfl, rfl, by decide +kernel⟩
theorem fi8_12 : FI 8 12 := ⟨RX8, TX8, 25, rfl, rfl, by decide +kernel⟩
theorem fi8_13 : FI 8 13 := ⟨RX8, TX8, 25, rfl, rfl, by decide +kernel⟩
theorem fi8_14 : FI 8 14 := ⟨RX8, TX8, 25, rfl, rfl, by decide +kernel⟩
theorem fi8_15 : FI 8 15 := ⟨RX8, TX8, 25, rfl, rfl, by decide +kernel⟩
theorem fi8_16 : FI 8 16 := ⟨RX8, TX8, 25, rfl, rfl, by decide +kernel⟩
theorem fi8_17 : FI 8 17 := ⟨RX8, TX8, 25, rfl, rfl, by decide +kernel⟩
theorem fi8_18 : FI 8 18 := ⟨RX8, TX8, 25, rfl, rfl, by decide +kernel⟩
theorem fi8_19 : FI 8 19 := ⟨RX8, TX8, 25, rfl, rfl, by decide +kernel⟩
theorem fi8_23 : FI 8 23 := ⟨RX8, TX8, 25, rfl, rfl, by decide +kernel⟩
theorem fl_RX7_10 : FL RX7 10 7 0 := ⟨RX7, TX7, 9, cls7, by decide, rfl, tb_t 283 (by decide +kernel) (by decide +kernel)⟩
theorem fl_RX7_19 : FL RX7 19 7 1 := ⟨RX7, TX7, 9, cls7, by decide, rfl, tb_t 284 (by decide +kernel) (by decide +kernel)⟩
theorem fl_RX7_28 : FL RX7 28 7 2 := ⟨RX7, TX7, 9, cls7, by decide, rfl, tb_t 285 (by decide +kernel) (by decide +kernel)⟩
theorem fl_RX7_35 : FL RX7 35 7 3 := ⟨RX7, TX7, 9, cls7, by decide, rfl, tb_t 286 (by decide +kernel) (by decide +kernel)⟩
theorem fl_RX7_43 : FL RX7 43 7 4 := ⟨RX7, TX7, 9, cls7, by decide, rfl, tb_t 287 (by decide +kernel) (by decide +kernel)⟩
theorem fl_RX7_47 : FL RX7 47 7 5 := ⟨RX7, TX7, 9, cls7, by decide, rfl, tb_t 288 (by decide +kernel) (by decide +kernel)⟩
theorem fl_RX7_56 : FL RX7 56 7 6 := ⟨RX7, TX7, 9, cls7, by decide, rfl, tb_t 289 (by decide +kernel) (by decide +kernel)⟩
theorem fl_RX7_63 : FL RX7 63 7 7 := ⟨RX7, TX7, 9, cls7, by decide, rfl, tb_t 290 (by decide +kernel) (by decide +kernel)⟩
theorem fl_RX7_70 : FL RX7 70 7 8 := ⟨RX7, TX7, 9, cls7, by decide, rfl, tb_t 291 (by decide +kernel) (by decide +kernel)⟩
theorem fl_RX7_74 : FL RX7 74 5 1 := ⟨RX5, TX5, 2, cls5, by decide, rfl, tb_t 34 (by decide +kernel) (by decide +kernel)⟩
theorem fl_RX7_91 : FL RX7 91 3 2 := ⟨RX3, TX3, 6, cls3, by decide, rfl, tb_t 134 (by decide +kernel) (by decide +kernel)⟩
theorem fl_RX7_94 : FL RX7 94 3 1 := ⟨RX3, TX3, 6, cls3, by decide, rfl, tb_t 132 (by decide +kernel) (by decide +kernel)⟩
theorem fl_RX7_103 : FL RX7 103 3 3 := ⟨RX3, TX3, 6, cls3, by decide, rfl, tb_t 136 (by decide +kernel) (by decide +kernel)⟩
theorem fl_RX7_110 : FL RX7 110 6 5 := ⟨RX6, TX6, 12, cls6, by decide, rfl, tb_t 79 (by decide +kernel) (by decide +kernel)⟩
theorem fl_RX7_114 : FL RX7 114 6 2 := ⟨RX6, TX6, 12, cls6, by decide, rfl, tb_t 68 (by decide +kernel) (by decide +kernel)⟩
theorem fl_RX7_128 : FL RX7 128 6 6 := ⟨RX6, TX6, 12, cls6, by decide, rfl, tb_t 82 (by decide +kernel) (by decide +kernel)⟩
theorem fl_RX7_131 : FL RX7 131 6 7 := ⟨RX6, TX6, 12, cls6, by decide, rfl, tb_t 85 (by decide +kernel) (by decide +kernel)⟩
theorem fl_RX7_134 : FL RX7 134 0 4 := ⟨RX0, TX0, 11, cls0, by decide, rfl, tb_t 171 (by decide +kernel) (by decide +kernel)⟩
theorem fl_RX7_140 : FL RX7 140 0 5 := ⟨RX0, TX0, 11, cls0, by decide, rfl, tb_t 175 (by decide +kernel) (by decide +kernel)⟩
theorem fl_RX7_143 : FL RX7 143 6 10 := ⟨RX6, TX6, 12, cls6, by decide, rfl, tb_t 93 (by decide +kernel) (by decide +kernel)⟩
theorem fl_RX7_146 : FL RX7 146 0 6 := ⟨RX0, TX0, 11, cls0, by decide, rfl, tb_t 178 (by decide +kernel) (by decide +kernel)⟩
theorem fl_RX7_149 : FL RX7 149 0 7 := ⟨RX0, TX0, 11, cls0, by decide, rfl, tb_t 180 (by decide +kernel) (by decide +kernel)⟩
theorem fl_RX7_152 : FL RX7 152 0 8 := ⟨RX0, TX0, 11, cls0, by decide, rfl, tb_t 183 (by decide +kernel) (by decide +kernel)⟩
theorem fl_RX7_162 : FL RX7 162 0 1 := ⟨RX0, TX0, 11, cls0, by decide, rfl, tb_t 163 (by decide +kernel) (by decide +kernel)⟩
theorem fl_RX7_173 : FL RX7 173 0 9 := ⟨RX0, TX0, 11, cls0, by decide, rfl, tb_t 185 (by decide +kernel) (by decide +kernel)⟩
theorem fl_RX7_179 : FL RX7 179 6 1 := ⟨RX6, TX6, 12, cls6, by decide, rfl, tb_t 64 (by decide +kernel) (by decide +kernel)⟩
theorem fl_RX7_185 : FL RX7 185 0 2 := ⟨RX0, TX0, 11, cls0, by decide, rfl, tb_t 166 (by decide +kernel) (by decide +kernel)⟩
theorem fl_RX7_198 : FL RX7 198 0 3 := ⟨RX0, TX0, 11, cls0, by decide, rfl, tb_t 169 (by decide +kernel) (by decide +kernel)⟩
theorem fl_RX7_209 : FL RX7 209 2 4 := ⟨RX2, TX2, 7, cls2, by decide, rfl, tb_t 232 (by decide +kernel) (by decide +kernel)⟩
theorem fl_RX7_216 : FL RX7 216 2 5 := ⟨RX2, TX2, 7, cls2, by decide, rfl, tb_t 234 (by decide +kernel) (by decide +kernel)⟩
theorem fl_RX7_229 : FL RX7 229 4 0 := ⟨RX4, TX4, 4, cls4, by decide, rfl, tb_t 259 (by decide +kernel) (by decide +kernel)⟩
theorem fl_RX7_240 : FL RX7 240 1 0 := ⟨RX1, TX1, 1, cls1, by decide, rfl, tb_t 279 (by decide +kernel) (by decide +kernel)⟩
theorem fl_RX7_247 : FL RX7 247 6 0 := ⟨RX6, TX6, 12, cls6, by decide, rfl, tb_t 59 (by decide +kernel) (by decide +kernel)⟩
theorem fl_RX7_250 : FL RX7 250 6 3 := ⟨RX6, TX6, 12, cls6, by decide, rfl, tb_t 73 (by decide +kernel) (by decide +kernel)⟩
theorem fl_RX7_253 : FL RX7 253 0 0 := ⟨RX0, TX0, 11, cls0, by decide, rfl, tb_t 160 (by decide +kernel) (by decide +kernel)⟩
theorem fl_RX0_9 : FL RX0 9 0 4 := ⟨RX0, TX0, 11, cls0, by decide, rfl, tb_t 170 (by decide +kernel) (by decide +kernel)⟩
theorem fl_RX0_15 : FL RX0 15 0 5 := ⟨RX0, TX0, 11, cls0, by decide, rfl, tb_t 173 (by decide +kernel) (by decide +kernel)⟩
theorem fl_RX0_18 : FL RX0 18 0 6 := ⟨RX0, TX0, 11, cls0, by decide, rfl, tb_t 176 (by decide +kernel) (by decide +kernel)⟩
theorem fl_RX0_21 : FL RX0 21 0 7 := ⟨RX0, TX0, 11, cls0, by decide, rfl, tb_t 179 (by decide +kernel) (by decide +kernel)⟩
theorem fl_RX0_24 : FL RX0 24 0 8 := ⟨RX0, TX0, 11, cls0, by decide, rfl, tb_t 181 (by decide +kernel) (by decide +kernel)⟩
theorem fl_RX0_27 : FL RX0 27 0 9 := ⟨RX0, TX0, 11, cls0, by decide, rfl, tb_t 184 (by decide +kernel) (by decide +kernel)⟩
theorem fl_RX0_30 : FL RX0 30 0 10 := ⟨RX0, TX0, 11, cls0, by decide, rfl, tb_t 186 (by decide +kernel) (by decide +kernel)⟩
theorem fl_RX0_33 : FL RX0 33 6 4 := ⟨RX6, TX6, 12, cls6, by decide, rfl, tb_t 74 (by decide +kernel) (by decide +kernel)⟩
theorem fl_RX0_39 : FL RX0 39 0 0 := ⟨RX0, TX0, 11, cls0, by decide, rfl, tb_t 158 (by decide +kernel) (by decide +kernel)⟩
theorem fl_RX0_40 : FL RX0 40 0 1 := ⟨RX0, TX0, 11, cls0, by decide, rfl, tb_t 161 (by decide +kernel) (by decide +kernel)⟩
theorem fl_RX0_43 : FL RX0 43 0 2 := ⟨RX0, TX0, 11, cls0, by decide, rfl, tb_t 164 (by decide +kernel) (by decide +kernel)⟩
theorem fl_RX0_46 : FL RX0 46 0 3 := ⟨RX0, TX0, 11, cls0, by decide, rfl, tb_t 167 (by decide +kernel) (by decide +kernel)⟩
theorem fl_RX0_49 : FL RX0 49 6 8 := ⟨RX6, TX6, 12, cls6, by decide, rfl, tb_t 88 (by decide +kernel) (by decide +kernel)⟩
theorem fl_RX0_56 : FL RX0 56 6 9 := ⟨RX6, TX6, 12, cls6, by decide, rfl, tb_t 90 (by decide +kernel) (by decide +kernel)⟩
theorem fl_RX0_59 : FL RX0 59 6 11 := ⟨RX6, TX6, 12, cls6, by decide, rfl, tb_t 96 (by decide +kernel) (by decide +kernel)⟩
theorem fl_RX0_86 : FL RX0 86 6 0 := ⟨RX6, TX6, 12, cls6, by decide, rfl, tb_t 57 (by decide +kernel) (by decide +kernel)⟩
theorem fl_RX0_97 : FL RX0 97 6 5 := ⟨RX6, TX6, 12, cls6, by decide, rfl, tb_t 80 (by decide +kernel) (by decide +kernel)⟩
theorem fl_RX0_100 : FL RX0 100 6 2 := ⟨RX6, TX6, 12, cls6, by decide, rfl, tb_t 69 (by decide +kernel) (by decide +kernel)⟩
theorem fl_RX0_107 : FL RX0 107 6 1 := ⟨RX6, TX6, 12, cls6, by decide, rfl, tb_t 63 (by decide +kernel) (by decide +kernel)⟩
theorem fl_RX0_120 : FL RX0 120 6 3 := ⟨RX6, TX6, 12, cls6, by decide, rfl, tb_t 72 (by decide +kernel) (by decide +kernel)⟩
theorem fl_RX0_132 : FL RX0 132 6 10 := ⟨RX6, TX6, 12, cls6, by decide, rfl, tb_t 94 (by decide +kernel) (by decide +kernel)⟩
theorem fl_RX1_9 : FL RX1 9 1 0 := ⟨RX1, TX1, 1, cls1, by decide, rfl, tb_t 278 (by decide +kernel) (by decide +kernel)⟩
theorem fl_RX2_12 : FL RX2 12 2 2 := ⟨RX2, TX2, 7, cls2, by decide, rfl, tb_t 229 (by decide +kernel) (by decide +kernel)⟩
theorem fl_RX2_18 : FL RX2 18 2 3 := ⟨RX2, TX2, 7, cls2, by decide, rfl, tb_t 230 (by decide +kernel) (by decide +kernel)⟩
theorem fl_RX2_22 : FL RX2 22 2 4 := ⟨RX2, TX2, 7, cls2, by decide, rfl, tb_t 231 (by decide +kernel) (by decide +kernel)⟩
theorem fl_RX2_25 : FL RX2 25 2 5 := ⟨RX2, TX2, 7, cls2, by decide, rfl, tb_t 233 (by decide +kernel) (by decide +kernel)⟩
theorem fl_RX2_28 : FL RX2 28 2 6 := ⟨RX2, TX2, 7, cls2, by decide, rfl, tb_t 235 (by decide +kernel) (by decide +kernel)⟩
theorem fl_RX2_31 : FL RX2 31 2 0 := ⟨RX2, TX2, 7, cls2, by decide, rfl, tb_t 227 (by decide +kernel) (by decide +kernel)⟩
theorem fl_RX2_35 : FL RX2 35 2 1 := ⟨RX2, TX2, 7, cls2, by decide, rfl, tb_t 228 (by decide +kernel) (by decide +kernel)⟩
theorem fl_RX2_50 : FL RX2 50 0 8 := ⟨RX0, TX0, 11, cls0, by decide, rfl, tb_t 182 (by decide +kernel) (by decide +kernel)⟩
theorem fl_RX2_53 : FL RX2 53 6 2 := ⟨RX6, TX6, 12, cls6, by decide, rfl, tb_t 67 (by decide +kernel) (by decide +kernel)⟩
theorem fl_RX2_67 : FL RX2 67 0 5 := ⟨RX0, TX0, 11, cls0, by decide, rfl, tb_t 174 (by decide +kernel) (by decide +kernel)⟩
theorem fl_RX2_70 : FL RX2 70 6 10 := ⟨RX6, TX6, 12, cls6, by decide, rfl, tb_t 92 (by decide +kernel) (by decide +kernel)⟩
theorem fl_RX2_77 : FL RX2 77 0 0 := ⟨RX0, TX0, 11, cls0, by decide, rfl, tb_t 159 (by decide +kernel) (by decide +kernel)⟩
theorem fl_RX2_84 : FL RX2 84 0 6 := ⟨RX0, TX0, 11, cls0, by decide, rfl, tb_t 177 (by decide +kernel) (by decide +kernel)⟩
theorem fl_RX2_102 : FL RX2 102 6 1 := ⟨RX6, TX6, 12, cls6, by decide, rfl, tb_t 62 (by decide +kernel) (by decide +kernel)⟩
theorem fl_RX2_105 : FL RX2 105 0 4 := ⟨RX0, TX0, 11, cls0, by decide, rfl, tb_t 172 (by decide +kernel) (by decide +kernel)⟩
theorem fl_RX2_108 : FL RX2 108 0 1 := ⟨RX0, TX0, 11, cls0, by decide, rfl, tb_t 162 (by decide +kernel) (by decide +kernel)⟩
theorem fl_RX2_111 : FL RX2 111 6 0 := ⟨RX6, TX6, 12, cls6, by decide, rfl, tb_t 58 (by decide +kernel) (by decide +kernel)⟩
theorem fl_RX2_114 : FL RX2 114 6 6 := ⟨RX6, TX6, 12, cls6, by decide, rfl, tb_t 83 (by decide +kernel) (by decide +kernel)⟩
theorem fl_RX2_117 : FL RX2 117 6 7 := ⟨RX6, TX6, 12, cls6, by decide, rfl, tb_t 86 (by decide +kernel) (by decide +kernel)⟩
theorem fl_RX2_128 : FL RX2 128 0 2 := ⟨RX0, TX0, 11, cls0, by decide, rfl, tb_t 165 (by decide +kernel) (by decide +kernel)⟩
theorem fl_RX2_131 : FL RX2 131 0 3 := ⟨RX0, TX0, 11, cls0, by decide, rfl, tb_t 168 (by decide +kernel) (by decide +kernel)⟩
theorem fl_RX3_12 : FL RX3 12 3 1 := ⟨RX3, TX3, 6, cls3, by decide, rfl, tb_t 131 (by decide +kernel) (by decide +kernel)⟩
theorem fl_RX3_18 : FL RX3 18 3 0 := ⟨RX3, TX3, 6, cls3, by decide, rfl, tb_t 130 (by decide +kernel) (by decide +kernel)⟩
theorem fl_RX3_26 : FL RX3 26 3 2 := ⟨RX3, TX3, 6, cls3, by decide, rfl, tb_t 133 (by decide +kernel) (by decide +kernel)⟩
theorem fl_RX3_30 : FL RX3 30 3 5 := ⟨RX3, TX3, 6, cls3, by decide, rfl, tb_t 138 (by decide +kernel) (by decide +kernel)⟩
theorem fl_RX3_37 : FL RX3 37 3 3 := ⟨RX3, TX3, 6, cls3, by decide, rfl, tb_t 135 (by decide +kernel) (by decide +kernel)⟩
theorem fl_RX3_43 : FL RX3 43 3 4 := ⟨RX3, TX3, 6, cls3, by decide, rfl, tb_t 137 (by decide +kernel) (by decide +kernel)⟩
theorem fl_RX3_46 : FL RX3 46 5 1 := ⟨RX5, TX5, 2, cls5, by decide, rfl, tb_t 35 (by decide +kernel) (by decide +kernel)⟩
theorem fl_RX3_81 : FL RX3 81 6 1 := ⟨RX6, TX6, 12, cls6, by decide, rfl, tb_t 61 (by decide +kernel) (by decide +kernel)⟩
theorem fl_RX3_89 : FL RX3 89 6 2 := ⟨RX6, TX6, 12, cls6, by decide, rfl, tb_t 66 (by decide +kernel) (by decide +kernel)⟩
theorem fl_RX3_113 : FL RX3 113 6 0 := ⟨RX6, TX6, 12, cls6, by decide, rfl, tb_t 56 (by decide +kernel) (by decide +kernel)⟩
theorem fl_RX3_116 : FL RX3 116 6 5 := ⟨RX6, TX6, 12, cls6, by decide, rfl, tb_t 78 (by decide +kernel) (by decide +kernel)⟩
theorem fl_RX3_130 : FL RX3 130 6 3 := ⟨RX6, TX6, 12, cls6, by decide, rfl, tb_t 71 (by decide +kernel) (by decide +kernel)⟩
theorem fl_RX3_132 : FL RX3 132 6 4 := ⟨RX6, TX6, 12, cls6, by decide, rfl, tb_t 76 (by decide +kernel) (by decide +kernel)⟩
theorem fl_RX4_9 : FL RX4 9 4 0 := ⟨RX4, TX4, 4, cls4, by decide, rfl, tb_t 258 (by decide +kernel) (by decide +kernel)⟩
theorem fl_RX4_15 : FL RX4 15 4 1 := ⟨RX4, TX4, 4, cls4, by decide, rfl, tb_t 260 (by decide +kernel) (by decide +kernel)⟩
theorem fl_RX4_19 : FL RX4 19 4 2 := ⟨RX4, TX4, 4, cls4, by decide, rfl, tb_t 261 (by decide +kernel) (by decide +kernel)⟩
theorem fl_RX4_22 : FL RX4 22 4 3 := ⟨RX4, TX4, 4, cls4, by decide, rfl, tb_t 262 (by decide +kernel) (by decide +kernel)⟩
theorem fl_RX5_9 : FL RX5 9 5 0 := ⟨RX5, TX5, 2, cls5, by decide, rfl, tb_t 32 (by decide +kernel) (by decide +kernel)⟩
theorem fl_RX5_15 : FL RX5 15 5 1 := ⟨RX5, TX5, 2, cls5, by decide, rfl, tb_t 33 (by decide +kernel) (by decide +kernel)⟩
theorem fl_RX6_9 : FL RX6 9 6 5 := ⟨RX6, TX6, 12, cls6, by decide, rfl, tb_t 77 (by decide +kernel) (by decide +kernel)⟩
theorem fl_RX6_15 : FL RX6 15 6 6 := ⟨RX6, TX6, 12, cls6, by decide, rfl, tb_t 81 (by decide +kernel) (by decide +kernel)⟩
theorem fl_RX6_18 : FL RX6 18 6 7 := ⟨RX6, TX6, 12, cls6, by decide, rfl, tb_t 84 (by decide +kernel) (by decide +kernel)⟩
theorem fl_RX6_21 : FL RX6 21 6 8 := ⟨RX6, TX6, 12, cls6, by decide, rfl, tb_t 87 (by decide +kernel) (by decide +kernel)⟩
theorem fl_RX6_24 : FL RX6 24 6 9 := ⟨RX6, TX6, 12, cls6, by decide, rfl, tb_t 89 (by decide +kernel) (by decide +kernel)⟩
theorem fl_RX6_27 : FL RX6 27 6 10 := ⟨RX6, TX6, 12, cls6, by decide, rfl, tb_t 91 (by decide +kernel) (by decide +kernel)⟩
theorem fl_RX6_30 : FL RX6 30 6 11 := ⟨RX6, TX6, 12, cls6, by decide, rfl, tb_t 95 (by decide +kernel) (by decide +kernel)⟩
theorem fl_RX6_37 : FL RX6 37 6 0 := ⟨RX6, TX6, 12, cls6, by decide, rfl, tb_t 55 (by decide +kernel) (by decide +kernel)⟩
theorem fl_RX6_41 : FL RX6 41 6 1 := ⟨RX6, TX6, 12, cls6, by decide, rfl, tb_t 60 (by decide +kernel) (by decide +kernel)⟩
theorem fl_RX6_44 : FL RX6 44 6 2 := ⟨RX6, TX6, 12, cls6, by decide, rfl, tb_t 65 (by decide +kernel) (by decide +kernel)⟩
theorem fl_RX6_47 : FL RX6 47 6 3 := ⟨RX6, TX6, 12, cls6, by decide, rfl, tb_t 70 (by decide +kernel) (by decide +kernel)⟩
theorem fl_RX6_50 : FL RX6 50 6 4 := ⟨RX6, TX6, 12, cls6, by decide, rfl, tb_t 75 (by decide +kernel) (by decide +kernel)⟩
theorem fl_RX8_7 : FL RX8 7 8 0 := ⟨RX8, TX8, 25, cls8, by decide, rfl, tb_t 791 (by decide +kernel) (by decide +kernel)⟩
theorem fl_RX8_13 : FL RX8 13 8 1 := ⟨RX8, TX8, 25, cls8, by decide, rfl, tb_t 792 (by decide +kernel) (by decide +kernel)⟩
theorem fl_RX8_17 : FL RX8 17 8 2 := ⟨RX8, TX8, 25, cls8, by decide, rfl, tb_t 793 (by decide +kernel) (by decide +kernel)⟩
theorem fl_RX8_20 : FL RX8 20 8 4 := ⟨RX8, TX8, 25, cls8, by decide, rfl, tb_t 795 (by decide +kernel) (by decide +kernel)⟩
theorem fl_RX8_23 : FL RX8 23 8 6 := ⟨RX8, TX8, 25, cls8, by decide, rfl, tb_t 797 (by decide +kernel) (by decide +kernel)⟩
theorem fl_RX8_27 : FL RX8 27 8 7 := ⟨RX8, TX8, 25, cls8, by decide, rfl, tb_t 798 (by decide +kernel) (by decide +kernel)⟩
theorem fl_RX8_30 : FL RX8 30 8 8 := ⟨RX8, TX8, 25, cls8, by decide, rfl, tb_t 799 (by decide +kernel) (by decide +kernel)⟩
theorem fl_RX8_33 : FL RX8 33 8 9 := ⟨RX8, TX8, 25, cls8, by decide, rfl, tb_t 800 (by decide +kernel) (by decide +kernel)⟩
theorem fl_RX8_36 : FL RX8 36 8 11 := ⟨RX8, TX8, 25, cls8, by decide, rfl, tb_t 802 (by decide +kernel) (by decide +kernel)⟩
theorem fl_RX8_39 : FL RX8 39 8 13 := ⟨RX8, TX8, 25, cls8, by decide, rfl, tb_t 804 (by decide +kernel) (by decide +kernel)⟩
theorem fl_RX8_42 : FL RX8 42 8 20 := ⟨RX8, TX8, 25, cls8, by decide, rfl, tb_t 811 (by decide +kernel) (by decide +kernel)⟩
theorem fl_RX8_45 : FL RX8 45 8 21 := ⟨RX8, TX8, 25, cls8, by decide, rfl, tb_t 812 (by decide +kernel) (by decide +kernel)⟩
theorem fl_RX8_48 : FL RX8 48 8 22 := ⟨RX8, TX8, 25, cls8, by decide, rfl, tb_t 813 (by decide +kernel) (by decide +kernel)⟩
theorem fl_RX8_51 : FL RX8 51 8 24 := ⟨RX8, TX8, 25, cls8, by decide, rfl, tb_t 815 (by decide +kernel) (by decide +kernel)⟩
theorem fl_RX8_61 : FL RX8 61 8 10 := ⟨RX8, TX8, 25, cls8, by decide, rfl, tb_t 801 (by decide +kernel) (by decide +kernel)⟩
theorem fl_RX8_64 : FL RX8 64 8 12 := ⟨RX8, TX8, 25, cls8, by decide, rfl, tb_t 803 (by decide +kernel) (by decide +kernel)⟩
theorem fl_RX8_77 : FL RX8 77 8 3 := ⟨RX8, TX8, 25, cls8, by decide, rfl, tb_t 794 (by decide +kernel) (by decide +kernel)⟩
theorem fl_RX8_82 : FL RX8 82 8 14 := ⟨RX8, TX8, 25, cls8, by decide, rfl, tb_t 805 (by decide +kernel) (by decide +kernel)⟩
theorem fl_RX8_85 : FL RX8 85 8 15 := ⟨RX8, TX8, 25, cls8, by decide, rfl, tb_t 806 (by decide +kernel) (by decide +kernel)⟩
theorem fl_RX8_92 : FL RX8 92 8 16 := ⟨RX8, TX8, 25, cls8, by decide, rfl, tb_t 807 (by decide +kernel) (by decide +kernel)⟩
theorem fl_RX8_112 : FL RX8 112 8 5 := ⟨RX8, TX8, 25, cls8, by decide, rfl, tb_t 796 (by decide +kernel) (by decide +kernel)⟩
theorem fl_RX8_118 : FL RX8 118 8 17 := ⟨RX8, TX8, 25, cls8, by decide, rfl, tb_t 808 (by decide +kernel) (by decide +kernel)⟩
theorem fl_RX8_128 : FL RX8 128 8 18 := ⟨RX8, TX8, 25, cls8, by decide, rfl, tb_t 809 (by decide +kernel) (by decide +kernel)⟩
theorem fl_RX8_131 : FL RX8 131 8 19 := ⟨RX8, TX8, 25, cls8, by decide, rfl, tb_t 810 (by decide +kernel) (by decide +kernel)⟩
theorem fl_RX8_148 : FL RX8 148 8 23 := ⟨RX8, TX8, 25, cls8, by decide, rfl, tb_t 814 (by decide +kernel) (by decide +kernel)⟩
abbrev mX7_init : MI := (yX7_init, cX7_init, 2, none)
theorem ok_X7_init : MOK mX7_init 0 := ⟨tb_t 22 (by decide +kernel) (by decide +kernel), tb_t 1 (by decide +kernel) (by decide +kernel), ⟨by decide +kernel, by decide +kernel, by decide +kernel⟩, by decide⟩
theorem in_X7_init : Cond.instanceMethod yX7_init ∈ TB := tb_t 21 (by decide +kernel) (by decide +kernel)
abbrev mX5_init : MI := (yX5_init, cX5_init, 1, none)
theorem ok_X5_init : MOK mX5_init 0 := ⟨tb_t 30 (by decide +kernel) (by decide +kernel), tb_t 2 (by decide +kernel) (by decide +kernel), ⟨by decide +kernel, by decide +kernel, by decide +kernel⟩, by decide⟩
theorem in_X5_init : Cond.instanceMethod yX5_init ∈ TB := tb_t 29 (by decide +kernel) (by decide +kernel)
abbrev mX6_init : MI := (yX6_init, cX6_init, 1, none)
theorem ok_X6_init : MOK mX6_init 0 := ⟨tb_t 46 (by decide +kernel) (by decide +kernel), tb_t 3 (by decide +kernel) (by decide +kernel), ⟨by decide +kernel, by decide +kernel, by decide +kernel⟩, by decide⟩
theorem in_X6_init : Cond.instanceMethod yX6_init ∈ TB := tb_t 45 (by decide +kernel) (by decide +kernel)
abbrev mX6_becomeNew : MI := (yX6_becomeNew, cX6_becomeNew, 2, none)
theorem ok_X6_becomeNew : MOK mX6_becomeNew 1 := ⟨tb_t 51 (by decide +kernel) (by decide +kernel), tb_t 3 (by decide +kernel) (by decide +kernel), ⟨by decide +kernel, by decide +kernel, by decide +kernel⟩, by decide⟩
theorem mv_X6_becomeNew : MV mX6_becomeNew := ⟨tb_t 49 (by decide +kernel) (by decide +kernel), tb_t 50 (by decide +kernel) (by decide +kernel)⟩
abbrev mJ7_fill_53178 : MI := (yJ7_fill_53178, cJ7_fill_53178, 4, none)
theorem ok_J7_fill_53178 : MOK mJ7_fill_53178 2 := ⟨tb_t 54 (by decide +kernel) (by decide +kernel), tb_t 4 (by decide +kernel) (by decide +kernel), ⟨by decide +kernel, by decide +kernel, by decide +kernel⟩, by decide⟩
theorem st_J7_fill_53178 : Cond.static yJ7_fill_53178 ∈ TB := tb_t 53 (by decide +kernel) (by decide +kernel)
abbrev mX3_init : MI := (yX3_init, cX3_init, 2, none)
theorem ok_X3_init : MOK mX3_init 1 := ⟨tb_t 126 (by decide +kernel) (by decide +kernel), tb_t 5 (by decide +kernel) (by decide +kernel), ⟨by decide +kernel, by decide +kernel, by decide +kernel⟩, by decide⟩
theorem in_X3_init : Cond.instanceMethod yX3_init ∈ TB := tb_t 125 (by decide +kernel) (by decide +kernel)
abbrev mX0_init : MI := (yX0_init, cX0_init, 1, none)
theorem ok_X0_init : MOK mX0_init 0 := ⟨tb_t 156 (by decide +kernel) (by decide +kernel), tb_t 6 (by decide +kernel) (by decide +kernel), ⟨by decide +kernel, by decide +kernel, by decide +kernel⟩, by decide⟩
theorem in_X0_init : Cond.instanceMethod yX0_init ∈ TB := tb_t 155 (by decide +kernel) (by decide +kernel)
abbrev mX0_begin : MI := (yX0_begin, cX0_begin, 2, none)
theorem ok_X0_begin : MOK mX0_begin 1 := ⟨tb_t 213 (by decide +kernel) (by decide +kernel), tb_t 6 (by decide +kernel) (by decide +kernel), ⟨by decide +kernel, by decide +kernel, by decide +kernel⟩, by decide⟩
theorem mv_X0_begin : MV mX0_begin := ⟨tb_t 211 (by decide +kernel) (by decide +kernel), tb_t 212 (by decide +kernel) (by decide +kernel)⟩
abbrev mX2_init : MI := (yX2_init, cX2_init, 3, none)
theorem ok_X2_init : MOK mX2_init 2 := ⟨tb_t 223 (by decide +kernel) (by decide +kernel), tb_t 8 (by decide +kernel) (by decide +kernel), ⟨by decide +kernel, by decide +kernel, by decide +kernel⟩, by decide⟩
theorem in_X2_init : Cond.instanceMethod yX2_init ∈ TB := tb_t 222 (by decide +kernel) (by decide +kernel)
abbrev mX4_init : MI := (yX4_init, cX4_init, 1, none)
theorem ok_X4_init : MOK mX4_init 0 := ⟨tb_t 256 (by decide +kernel) (by decide +kernel), tb_t 9 (by decide +kernel) (by decide +kernel), ⟨by decide +kernel, by decide +kernel, by decide +kernel⟩, by decide⟩
theorem in_X4_init : Cond.instanceMethod yX4_init ∈ TB := tb_t 255 (by decide +kernel) (by decide +kernel)
abbrev mX1_init : MI := (yX1_init, cX1_init, 1, none)
theorem ok_X1_init : MOK mX1_init 0 := ⟨tb_t 276 (by decide +kernel) (by decide +kernel), tb_t 10 (by decide +kernel) (by decide +kernel), ⟨by decide +kernel, by decide +kernel, by decide +kernel⟩, by decide⟩
theorem in_X1_init : Cond.instanceMethod yX1_init ∈ TB := tb_t 275 (by decide +kernel) (by decide +kernel)
abbrev mX7_write : MI := (yX7_write, cX7_write, 5, some .int)
theorem ok_X7_write : MOK mX7_write 2 := ⟨tb_t 314 (by decide +kernel) (by decide +kernel), tb_t 1 (by decide +kernel) (by decide +kernel), ⟨by decide +kernel, by decide +kernel, by decide +kernel⟩, by decide⟩
theorem mv_X7_write : MV mX7_write := ⟨tb_t 312 (by decide +kernel) (by decide +kernel), tb_t 313 (by decide +kernel) (by decide +kernel)⟩
abbrev mX5_append : MI := (yX5_append, cX5_append, 2, none)
theorem ok_X5_append : MOK mX5_append 1 := ⟨tb_t 319 (by decide +kernel) (by decide +kernel), tb_t 2 (by decide +kernel) (by decide +kernel), ⟨by decide +kernel, by decide +kernel, by decide +kernel⟩, by decide⟩
theorem mv_X5_append : MV mX5_append := ⟨tb_t 317 (by decide +kernel) (by decide +kernel), tb_t 318 (by decide +kernel) (by decide +kernel)⟩
abbrev mX7_erase : MI := (yX7_erase, cX7_erase, 1, some .int)
theorem ok_X7_erase : MOK mX7_erase 0 := ⟨tb_t 323 (by decide +kernel) (by decide +kernel), tb_t 1 (by decide +kernel) (by decide +kernel), ⟨by decide +kernel, by decide +kernel, by decide +kernel⟩, by decide⟩
theorem mv_X7_erase : MV mX7_erase := ⟨tb_t 321 (by decide +kernel) (by decide +kernel), tb_t 322 (by decide +kernel) (by decide +kernel)⟩
abbrev mX5_clear : MI := (yX5_clear, cX5_clear, 2, some .int)
theorem ok_X5_clear : MOK mX5_clear 0 := ⟨tb_t 327 (by decide +kernel) (by decide +kernel), tb_t 2 (by decide +kernel) (by decide +kernel), ⟨by decide +kernel, by decide +kernel, by decide +kernel⟩, by decide⟩
theorem mv_X5_clear : MV mX5_clear := ⟨tb_t 325 (by decide +kernel) (by decide +kernel), tb_t 326 (by decide +kernel) (by decide +kernel)⟩
abbrev mX7_fault : MI := (yX7_fault, cX7_fault, 1, some .int)
theorem ok_X7_fault : MOK mX7_fault 0 := ⟨tb_t 331 (by decide +kernel) (by decide +kernel), tb_t 1 (by decide +kernel) (by decide +kernel), ⟨by decide +kernel, by decide +kernel, by decide +kernel⟩, by decide⟩
theorem mv_X7_fault : MV mX7_fault := ⟨tb_t 329 (by decide +kernel) (by decide +kernel), tb_t 330 (by decide +kernel) (by decide +kernel)⟩
abbrev mX3_readOn : MI := (yX3_readOn, cX3_readOn, 3, none)
theorem ok_X3_readOn : MOK mX3_readOn 1 := ⟨tb_t 335 (by decide +kernel) (by decide +kernel), tb_t 5 (by decide +kernel) (by decide +kernel), ⟨by decide +kernel, by decide +kernel, by decide +kernel⟩, by decide⟩
theorem mv_X3_readOn : MV mX3_readOn := ⟨tb_t 333 (by decide +kernel) (by decide +kernel), tb_t 334 (by decide +kernel) (by decide +kernel)⟩
abbrev mX6_takeFrom : MI := (yX6_takeFrom, cX6_takeFrom, 2, none)
theorem ok_X6_takeFrom : MOK mX6_takeFrom 1 := ⟨tb_t 339 (by decide +kernel) (by decide +kernel), tb_t 3 (by decide +kernel) (by decide +kernel), ⟨by decide +kernel, by decide +kernel, by decide +kernel⟩, by decide⟩
theorem mv_X6_takeFrom : MV mX6_takeFrom := ⟨tb_t 337 (by decide +kernel) (by decide +kernel), tb_t 338 (by decide +kernel) (by decide +kernel)⟩
abbrev mX3_readLine : MI := (yX3_readLine, cX3_readLine, 1, some .boolean)
theorem ok_X3_readLine : MOK mX3_readLine 0 := ⟨tb_t 344 (by decide +kernel) (by decide +kernel), tb_t 5 (by decide +kernel) (by decide +kernel), ⟨by decide +kernel, by decide +kernel, by decide +kernel⟩, by decide⟩
theorem mv_X3_readLine : MV mX3_readLine := ⟨tb_t 343 (by decide +kernel) (by decide +kernel), tb_p 0 (by decide +kernel) (by decide +kernel)⟩
abbrev mX3_takeToken : MI := (yX3_takeToken, cX3_takeToken, 2, none)
theorem ok_X3_takeToken : MOK mX3_takeToken 0 := ⟨tb_t 348 (by decide +kernel) (by decide +kernel), tb_t 5 (by decide +kernel) (by decide +kernel), ⟨by decide +kernel, by decide +kernel, by decide +kernel⟩, by decide⟩
theorem mv_X3_takeToken : MV mX3_takeToken := ⟨tb_t 347 (by decide +kernel) (by decide +kernel), tb_p 1 (by decide +kernel) (by decide +kernel)⟩
abbrev mX5_at : MI := (yX5_at, cX5_at, 2, some .int)
theorem ok_X5_at : MOK mX5_at 1 := ⟨tb_t 352 (by decide +kernel) (by decide +kernel), tb_t 2 (by decide +kernel) (by decide +kernel), ⟨by decide +kernel, by decide +kernel, by decide +kernel⟩, by decide⟩
theorem mv_X5_at : MV mX5_at := ⟨tb_t 350 (by decide +kernel) (by decide +kernel), tb_t 351 (by decide +kernel) (by decide +kernel)⟩
abbrev mX3_isLetter : MI := (yX3_isLetter, cX3_isLetter, 1, some .boolean)
theorem ok_X3_isLetter : MOK mX3_isLetter 1 := ⟨tb_t 355 (by decide +kernel) (by decide +kernel), tb_t 5 (by decide +kernel) (by decide +kernel), ⟨by decide +kernel, by decide +kernel, by decide +kernel⟩, by decide⟩
theorem st_X3_isLetter : Cond.static yX3_isLetter ∈ TB := tb_t 354 (by decide +kernel) (by decide +kernel)
abbrev mX3_isDigit : MI := (yX3_isDigit, cX3_isDigit, 1, some .boolean)
theorem ok_X3_isDigit : MOK mX3_isDigit 1 := ⟨tb_t 358 (by decide +kernel) (by decide +kernel), tb_t 5 (by decide +kernel) (by decide +kernel), ⟨by decide +kernel, by decide +kernel, by decide +kernel⟩, by decide⟩
theorem st_X3_isDigit : Cond.static yX3_isDigit ∈ TB := tb_t 357 (by decide +kernel) (by decide +kernel)
abbrev mX3_tokenIs : MI := (yX3_tokenIs, cX3_tokenIs, 3, some .boolean)
theorem ok_X3_tokenIs : MOK mX3_tokenIs 1 := ⟨tb_t 363 (by decide +kernel) (by decide +kernel), tb_t 5 (by decide +kernel) (by decide +kernel), ⟨by decide +kernel, by decide +kernel, by decide +kernel⟩, by decide⟩
theorem mv_X3_tokenIs : MV mX3_tokenIs := ⟨tb_t 362 (by decide +kernel) (by decide +kernel), tb_p 2 (by decide +kernel) (by decide +kernel)⟩
abbrev mJ0_length_8abf5 : MI := (yJ0_length_8abf5, cJ0_length_8abf5, 1, some .int)
theorem ok_J0_length_8abf5 : MOK mJ0_length_8abf5 0 := ⟨tb_t 367 (by decide +kernel) (by decide +kernel), tb_t 12 (by decide +kernel) (by decide +kernel), ⟨by decide +kernel, by decide +kernel, by decide +kernel⟩, by decide⟩
theorem mv_J0_length_8abf5 : MV mJ0_length_8abf5 := ⟨tb_t 365 (by decide +kernel) (by decide +kernel), tb_t 366 (by decide +kernel) (by decide +kernel)⟩
abbrev mJ0_coder_7d493 : MI := (yJ0_coder_7d493, cJ0_coder_7d493, 1, some .byte)
theorem ok_J0_coder_7d493 : MOK mJ0_coder_7d493 0 := ⟨tb_t 371 (by decide +kernel) (by decide +kernel), tb_t 12 (by decide +kernel) (by decide +kernel), ⟨by decide +kernel, by decide +kernel, by decide +kernel⟩, by decide⟩
theorem mv_J0_coder_7d493 : MV mJ0_coder_7d493 := ⟨tb_t 369 (by decide +kernel) (by decide +kernel), tb_t 370 (by decide +kernel) (by decide +kernel)⟩
abbrev mJ0_charAt_5068e : MI := (yJ0_charAt_5068e, cJ0_charAt_5068e, 2, some .char)
theorem ok_J0_charAt_5068e : MOK mJ0_charAt_5068e 1 := ⟨tb_t 377 (by decide +kernel) (by decide +kernel), tb_t 12 (by decide +kernel) (by decide +kernel), ⟨by decide +kernel, by decide +kernel, by decide +kernel⟩, by decide⟩
theorem mv_J0_charAt_5068e : MV mJ0_charAt_5068e := ⟨tb_t 375 (by decide +kernel) (by decide +kernel), tb_t 376 (by decide +kernel) (by decide +kernel)⟩
abbrev mJ0_isLatin1_aae02 : MI := (yJ0_isLatin1_aae02, cJ0_isLatin1_aae02, 1, some .boolean)
theorem ok_J0_isLatin1_aae02 : MOK mJ0_isLatin1_aae02 0 := ⟨tb_t 381 (by decide +kernel) (by decide +kernel), tb_t 12 (by decide +kernel) (by decide +kernel), ⟨by decide +kernel, by decide +kernel, by decide +kernel⟩, by decide⟩
theorem mv_J0_isLatin1_aae02 : MV mJ0_isLatin1_aae02 := ⟨tb_t 379 (by decide +kernel) (by decide +kernel), tb_t 380 (by decide +kernel) (by decide +kernel)⟩
abbrev mJ1_charAt_3b067 : MI := (yJ1_charAt_3b067, cJ1_charAt_3b067, 2, some .char)
theorem ok_J1_charAt_3b067 : MOK mJ1_charAt_3b067 2 := ⟨tb_t 384 (by decide +kernel) (by decide +kernel), tb_t 13 (by decide +kernel) (by decide +kernel), ⟨by decide +kernel, by decide +kernel, by decide +kernel⟩, by decide⟩
theorem st_J1_charAt_3b067 : Cond.static yJ1_charAt_3b067 ∈ TB := tb_t 383 (by decide +kernel) (by decide +kernel)
abbrev mJ0_checkIndex_df160 : MI := (yJ0_checkIndex_df160, cJ0_checkIndex_df160, 2, none)
theorem ok_J0_checkIndex_df160 : MOK mJ0_checkIndex_df160 2 := ⟨tb_t 387 (by decide +kernel) (by decide +kernel), tb_t 12 (by decide +kernel) (by decide +kernel), ⟨by decide +kernel, by decide +kernel, by decide +kernel⟩, by decide⟩
theorem st_J0_checkIndex_df160 : Cond.static yJ0_checkIndex_df160 ∈ TB := tb_t 386 (by decide +kernel) (by decide +kernel)
abbrev mJ3_checkIndex_8e157 : MI := (yJ3_checkIndex_8e157, cJ3_checkIndex_8e157, 3, some .int)
theorem ok_J3_checkIndex_8e157 : MOK mJ3_checkIndex_8e157 3 := ⟨tb_t 392 (by decide +kernel) (by decide +kernel), tb_t 14 (by decide +kernel) (by decide +kernel), ⟨by decide +kernel, by decide +kernel, by decide +kernel⟩, by decide⟩
theorem st_J3_checkIndex_8e157 : Cond.static yJ3_checkIndex_8e157 ∈ TB := tb_t 391 (by decide +kernel) (by decide +kernel)
abbrev mJ2_charAt_3b067 : MI := (yJ2_charAt_3b067, cJ2_charAt_3b067, 2, some .char)
theorem ok_J2_charAt_3b067 : MOK mJ2_charAt_3b067 2 := ⟨tb_t 395 (by decide +kernel) (by decide +kernel), tb_t 15 (by decide +kernel) (by decide +kernel), ⟨by decide +kernel, by decide +kernel, by decide +kernel⟩, by decide⟩
theorem st_J2_charAt_3b067 : Cond.static yJ2_charAt_3b067 ∈ TB := tb_t 394 (by decide +kernel) (by decide +kernel)
abbrev mJ2_checkIndex_2214a : MI := (yJ2_checkIndex_2214a, cJ2_checkIndex_2214a, 2, none)
theorem ok_J2_checkIndex_2214a : MOK mJ2_checkIndex_2214a 2 := ⟨tb_t 398 (by decide +kernel) (by decide +kernel), tb_t 15 (by decide +kernel) (by decide +kernel), ⟨by decide +kernel, by decide +kernel, by decide +kernel⟩, by decide⟩
theorem st_J2_checkIndex_2214a : Cond.static yJ2_checkIndex_2214a ∈ TB := tb_t 397 (by decide +kernel) (by decide +kernel)
abbrev mJ2_length_9d52b : MI := (yJ2_length_9d52b, cJ2_length_9d52b, 1, some .int)
theorem ok_J2_length_9d52b : MOK mJ2_length_9d52b 1 := ⟨tb_t 401 (by decide +kernel) (by decide +kernel), tb_t 15 (by decide +kernel) (by decide +kernel), ⟨by decide +kernel, by decide +kernel, by decide +kernel⟩, by decide⟩
theorem st_J2_length_9d52b : Cond.static yJ2_length_9d52b ∈ TB := tb_t 400 (by decide +kernel) (by decide +kernel)
abbrev mJ2_getChar_3b067 : MI := (yJ2_getChar_3b067, cJ2_getChar_3b067, 2, some .char)
theorem ok_J2_getChar_3b067 : MOK mJ2_getChar_3b067 2 := ⟨tb_t 405 (by decide +kernel) (by decide +kernel), tb_t 15 (by decide +kernel) (by decide +kernel), ⟨by decide +kernel, by decide +kernel, by decide +kernel⟩, by decide⟩
theorem st_J2_getChar_3b067 : Cond.static yJ2_getChar_3b067 ∈ TB := tb_t 404 (by decide +kernel) (by decide +kernel)
abbrev mX3_readOffice : MI := (yX3_readOffice, cX3_readOffice, 2, some .boolean)
theorem ok_X3_readOffice : MOK mX3_readOffice 0 := ⟨tb_t 415 (by decide +kernel) (by decide +kernel), tb_t 5 (by decide +kernel) (by decide +kernel), ⟨by decide +kernel, by decide +kernel, by decide +kernel⟩, by decide⟩
theorem mv_X3_readOffice : MV mX3_readOffice := ⟨tb_t 414 (by decide +kernel) (by decide +kernel), tb_p 3 (by decide +kernel) (by decide +kernel)⟩
abbrev mX3_readNumber : MI := (yX3_readNumber, cX3_readNumber, 5, some .int)
theorem ok_X3_readNumber : MOK mX3_readNumber 2 := ⟨tb_t 419 (by decide +kernel) (by decide +kernel), tb_t 5 (by decide +kernel) (by decide +kernel), ⟨by decide +kernel, by decide +kernel, by decide +kernel⟩, by decide⟩
theorem mv_X3_readNumber : MV mX3_readNumber := ⟨tb_t 418 (by decide +kernel) (by decide +kernel), tb_p 4 (by decide +kernel) (by decide +kernel)⟩
abbrev mX3_refuseToken : MI := (yX3_refuseToken, cX3_refuseToken, 1, some .boolean)
theorem ok_X3_refuseToken : MOK mX3_refuseToken 0 := ⟨tb_t 423 (by decide +kernel) (by decide +kernel), tb_t 5 (by decide +kernel) (by decide +kernel), ⟨by decide +kernel, by decide +kernel, by decide +kernel⟩, by decide⟩
theorem mv_X3_refuseToken : MV mX3_refuseToken := ⟨tb_t 422 (by decide +kernel) (by decide +kernel), tb_p 5 (by decide +kernel) (by decide +kernel)⟩
abbrev mX3_readKind : MI := (yX3_readKind, cX3_readKind, 3, some .boolean)
theorem ok_X3_readKind : MOK mX3_readKind 1 := ⟨tb_t 429 (by decide +kernel) (by decide +kernel), tb_t 5 (by decide +kernel) (by decide +kernel), ⟨by decide +kernel, by decide +kernel, by decide +kernel⟩, by decide⟩
theorem mv_X3_readKind : MV mX3_readKind := ⟨tb_t 428 (by decide +kernel) (by decide +kernel), tb_p 6 (by decide +kernel) (by decide +kernel)⟩
abbrev mX3_readTrail : MI := (yX3_readTrail, cX3_readTrail, 4, some .boolean)
theorem ok_X3_readTrail : MOK mX3_readTrail 0 := ⟨tb_t 437 (by decide +kernel) (by decide +kernel), tb_t 5 (by decide +kernel) (by decide +kernel), ⟨by decide +kernel, by decide +kernel, by decide +kernel⟩, by decide⟩
theorem mv_X3_readTrail : MV mX3_readTrail := ⟨tb_t 436 (by decide +kernel) (by decide +kernel), tb_p 7 (by decide +kernel) (by decide +kernel)⟩
abbrev mX3_readDeskUnlike : MI := (yX3_readDeskUnlike, cX3_readDeskUnlike, 3, some .int)
theorem ok_X3_readDeskUnlike : MOK mX3_readDeskUnlike 1 := ⟨tb_t 441 (by decide +kernel) (by decide +kernel), tb_t 5 (by decide +kernel) (by decide +kernel), ⟨by decide +kernel, by decide +kernel, by decide +kernel⟩, by decide⟩
theorem mv_X3_readDeskUnlike : MV mX3_readDeskUnlike := ⟨tb_t 440 (by decide +kernel) (by decide +kernel), tb_p 8 (by decide +kernel) (by decide +kernel)⟩
abbrev mX6_addTrail : MI := (yX6_addTrail, cX6_addTrail, 4, none)
theorem ok_X6_addTrail : MOK mX6_addTrail 3 := ⟨tb_t 445 (by decide +kernel) (by decide +kernel), tb_t 3 (by decide +kernel) (by decide +kernel), ⟨by decide +kernel, by decide +kernel, by decide +kernel⟩, by decide⟩
theorem mv_X6_addTrail : MV mX6_addTrail := ⟨tb_t 443 (by decide +kernel) (by decide +kernel), tb_t 444 (by decide +kernel) (by decide +kernel)⟩
abbrev mX3_readFile : MI := (yX3_readFile, cX3_readFile, 4, some .boolean)
theorem ok_X3_readFile : MOK mX3_readFile 0 := ⟨tb_t 450 (by decide +kernel) (by decide +kernel), tb_t 5 (by decide +kernel) (by decide +kernel), ⟨by decide +kernel, by decide +kernel, by decide +kernel⟩, by decide⟩
theorem mv_X3_readFile : MV mX3_readFile := ⟨tb_t 449 (by decide +kernel) (by decide +kernel), tb_p 9 (by decide +kernel) (by decide +kernel)⟩
abbrev mX6_addFile : MI := (yX6_addFile, cX6_addFile, 4, none)
theorem ok_X6_addFile : MOK mX6_addFile 3 := ⟨tb_t 454 (by decide +kernel) (by decide +kernel), tb_t 3 (by decide +kernel) (by decide +kernel), ⟨by decide +kernel, by decide +kernel, by decide +kernel⟩, by decide⟩
theorem mv_X6_addFile : MV mX6_addFile := ⟨tb_t 452 (by decide +kernel) (by decide +kernel), tb_t 453 (by decide +kernel) (by decide +kernel)⟩
abbrev mX3_readFade : MI := (yX3_readFade, cX3_readFade, 2, some .boolean)
theorem ok_X3_readFade : MOK mX3_readFade 0 := ⟨tb_t 459 (by decide +kernel) (by decide +kernel), tb_t 5 (by decide +kernel) (by decide +kernel), ⟨by decide +kernel, by decide +kernel, by decide +kernel⟩, by decide⟩
theorem mv_X3_readFade : MV mX3_readFade := ⟨tb_t 458 (by decide +kernel) (by decide +kernel), tb_p 10 (by decide +kernel) (by decide +kernel)⟩
abbrev mX3_readWinter : MI := (yX3_readWinter, cX3_readWinter, 2, some .boolean)
theorem ok_X3_readWinter : MOK mX3_readWinter 0 := ⟨tb_t 464 (by decide +kernel) (by decide +kernel), tb_t 5 (by decide +kernel) (by decide +kernel), ⟨by decide +kernel, by decide +kernel, by decide +kernel⟩, by decide⟩
theorem mv_X3_readWinter : MV mX3_readWinter := ⟨tb_t 463 (by decide +kernel) (by decide +kernel), tb_p 11 (by decide +kernel) (by decide +kernel)⟩
abbrev mX7_office : MI := (yX7_office, cX7_office, 2, some .int)
theorem ok_X7_office : MOK mX7_office 0 := ⟨tb_t 469 (by decide +kernel) (by decide +kernel), tb_t 1 (by decide +kernel) (by decide +kernel), ⟨by decide +kernel, by decide +kernel, by decide +kernel⟩, by decide⟩
theorem mv_X7_office : MV mX7_office := ⟨tb_t 467 (by decide +kernel) (by decide +kernel), tb_t 468 (by decide +kernel) (by decide +kernel)⟩
abbrev mX4_clear : MI := (yX4_clear, cX4_clear, 2, some .int)
theorem ok_X4_clear : MOK mX4_clear 0 := ⟨tb_t 474 (by decide +kernel) (by decide +kernel), tb_t 9 (by decide +kernel) (by decide +kernel), ⟨by decide +kernel, by decide +kernel, by decide +kernel⟩, by decide⟩
theorem mv_X4_clear : MV mX4_clear := ⟨tb_t 472 (by decide +kernel) (by decide +kernel), tb_t 473 (by decide +kernel) (by decide +kernel)⟩
abbrev mX1_clear : MI := (yX1_clear, cX1_clear, 1, none)
theorem ok_X1_clear : MOK mX1_clear 0 := ⟨tb_t 478 (by decide +kernel) (by decide +kernel), tb_t 10 (by decide +kernel) (by decide +kernel), ⟨by decide +kernel, by decide +kernel, by decide +kernel⟩, by decide⟩
theorem mv_X1_clear : MV mX1_clear := ⟨tb_t 476 (by decide +kernel) (by decide +kernel), tb_t 477 (by decide +kernel) (by decide +kernel)⟩
abbrev mX7_desk : MI := (yX7_desk, cX7_desk, 3, some .int)
theorem ok_X7_desk : MOK mX7_desk 2 := ⟨tb_t 483 (by decide +kernel) (by decide +kernel), tb_t 1 (by decide +kernel) (by decide +kernel), ⟨by decide +kernel, by decide +kernel, by decide +kernel⟩, by decide⟩
theorem mv_X7_desk : MV mX7_desk := ⟨tb_t 481 (by decide +kernel) (by decide +kernel), tb_t 482 (by decide +kernel) (by decide +kernel)⟩
abbrev mX7_isDesk : MI := (yX7_isDesk, cX7_isDesk, 2, some .boolean)
theorem ok_X7_isDesk : MOK mX7_isDesk 1 := ⟨tb_t 487 (by decide +kernel) (by decide +kernel), tb_t 1 (by decide +kernel) (by decide +kernel), ⟨by decide +kernel, by decide +kernel, by decide +kernel⟩, by decide⟩
theorem mv_X7_isDesk : MV mX7_isDesk := ⟨tb_t 486 (by decide +kernel) (by decide +kernel), tb_p 12 (by decide +kernel) (by decide +kernel)⟩
abbrev mX0_filesAt : MI := (yX0_filesAt, cX0_filesAt, 5, some .int)
theorem ok_X0_filesAt : MOK mX0_filesAt 2 := ⟨tb_t 491 (by decide +kernel) (by decide +kernel), tb_t 6 (by decide +kernel) (by decide +kernel), ⟨by decide +kernel, by decide +kernel, by decide +kernel⟩, by decide⟩
theorem mv_X0_filesAt : MV mX0_filesAt := ⟨tb_t 489 (by decide +kernel) (by decide +kernel), tb_t 490 (by decide +kernel) (by decide +kernel)⟩
abbrev mX6_trailsOf : MI := (yX6_trailsOf, cX6_trailsOf, 4, some .int)
theorem ok_X6_trailsOf : MOK mX6_trailsOf 1 := ⟨tb_t 495 (by decide +kernel) (by decide +kernel), tb_t 3 (by decide +kernel) (by decide +kernel), ⟨by decide +kernel, by decide +kernel, by decide +kernel⟩, by decide⟩
theorem mv_X6_trailsOf : MV mX6_trailsOf := ⟨tb_t 493 (by decide +kernel) (by decide +kernel), tb_t 494 (by decide +kernel) (by decide +kernel)⟩
abbrev mX6_isOf : MI := (yX6_isOf, cX6_isOf, 3, some .boolean)
theorem ok_X6_isOf : MOK mX6_isOf 2 := ⟨tb_t 499 (by decide +kernel) (by decide +kernel), tb_t 3 (by decide +kernel) (by decide +kernel), ⟨by decide +kernel, by decide +kernel, by decide +kernel⟩, by decide⟩
theorem mv_X6_isOf : MV mX6_isOf := ⟨tb_t 497 (by decide +kernel) (by decide +kernel), tb_t 498 (by decide +kernel) (by decide +kernel)⟩
abbrev mX7_trail : MI := (yX7_trail, cX7_trail, 3, some .int)
theorem ok_X7_trail : MOK mX7_trail 2 := ⟨tb_t 503 (by decide +kernel) (by decide +kernel), tb_t 1 (by decide +kernel) (by decide +kernel), ⟨by decide +kernel, by decide +kernel, by decide +kernel⟩, by decide⟩
theorem mv_X7_trail : MV mX7_trail := ⟨tb_t 501 (by decide +kernel) (by decide +kernel), tb_t 502 (by decide +kernel) (by decide +kernel)⟩
abbrev mX7_isTrail : MI := (yX7_isTrail, cX7_isTrail, 2, some .boolean)
theorem ok_X7_isTrail : MOK mX7_isTrail 1 := ⟨tb_t 507 (by decide +kernel) (by decide +kernel), tb_t 1 (by decide +kernel) (by decide +kernel), ⟨by decide +kernel, by decide +kernel, by decide +kernel⟩, by decide⟩
theorem mv_X7_isTrail : MV mX7_isTrail := ⟨tb_t 506 (by decide +kernel) (by decide +kernel), tb_p 13 (by decide +kernel) (by decide +kernel)⟩
abbrev mX7_file : MI := (yX7_file, cX7_file, 3, some .int)
theorem ok_X7_file : MOK mX7_file 2 := ⟨tb_t 511 (by decide +kernel) (by decide +kernel), tb_t 1 (by decide +kernel) (by decide +kernel), ⟨by decide +kernel, by decide +kernel, by decide +kernel⟩, by decide⟩
theorem mv_X7_file : MV mX7_file := ⟨tb_t 509 (by decide +kernel) (by decide +kernel), tb_t 510 (by decide +kernel) (by decide +kernel)⟩
abbrev mX7_isFile : MI := (yX7_isFile, cX7_isFile, 2, some .boolean)
theorem ok_X7_isFile : MOK mX7_isFile 1 := ⟨tb_t 515 (by decide +kernel) (by decide +kernel), tb_t 1 (by decide +kernel) (by decide +kernel), ⟨by decide +kernel, by decide +kernel, by decide +kernel⟩, by decide⟩
theorem mv_X7_isFile : MV mX7_isFile := ⟨tb_t 514 (by decide +kernel) (by decide +kernel), tb_p 14 (by decide +kernel) (by decide +kernel)⟩
abbrev mX7_as : MI := (yX7_as, cX7_as, 3, some .int)
theorem ok_X7_as : MOK mX7_as 2 := ⟨tb_t 519 (by decide +kernel) (by decide +kernel), tb_t 1 (by decide +kernel) (by decide +kernel), ⟨by decide +kernel, by decide +kernel, by decide +kernel⟩, by decide⟩
theorem mv_X7_as : MV mX7_as := ⟨tb_t 517 (by decide +kernel) (by decide +kernel), tb_t 518 (by decide +kernel) (by decide +kernel)⟩
abbrev mX6_isA : MI := (yX6_isA, cX6_isA, 3, some .boolean)
theorem ok_X6_isA : MOK mX6_isA 2 := ⟨tb_t 523 (by decide +kernel) (by decide +kernel), tb_t 3 (by decide +kernel) (by decide +kernel), ⟨by decide +kernel, by decide +kernel, by decide +kernel⟩, by decide⟩
theorem mv_X6_isA : MV mX6_isA := ⟨tb_t 521 (by decide +kernel) (by decide +kernel), tb_t 522 (by decide +kernel) (by decide +kernel)⟩
abbrev mX6_sweetnessBehind : MI := (yX6_sweetnessBehind, cX6_sweetnessBehind, 3, some .int)
theorem ok_X6_sweetnessBehind : MOK mX6_sweetnessBehind 2 := ⟨tb_t 527 (by decide +kernel) (by decide +kernel), tb_t 3 (by decide +kernel) (by decide +kernel), ⟨by decide +kernel, by decide +kernel, by decide +kernel⟩, by decide⟩
theorem mv_X6_sweetnessBehind : MV mX6_sweetnessBehind := ⟨tb_t 525 (by decide +kernel) (by decide +kernel), tb_t 526 (by decide +kernel) (by decide +kernel)⟩
abbrev mJ9_max_7cf53 : MI := (yJ9_max_7cf53, cJ9_max_7cf53, 2, some .int)
theorem ok_J9_max_7cf53 : MOK mJ9_max_7cf53 2 := ⟨tb_t 530 (by decide +kernel) (by decide +kernel), tb_t 16 (by decide +kernel) (by decide +kernel), ⟨by decide +kernel, by decide +kernel, by decide +kernel⟩, by decide⟩
theorem st_J9_max_7cf53 : Cond.static yJ9_max_7cf53 ∈ TB := tb_t 529 (by decide +kernel) (by decide +kernel)
abbrev mJ9_min_7cf53 : MI := (yJ9_min_7cf53, cJ9_min_7cf53, 2, some .int)
theorem ok_J9_min_7cf53 : MOK mJ9_min_7cf53 2 := ⟨tb_t 533 (by decide +kernel) (by decide +kernel), tb_t 16 (by decide +kernel) (by decide +kernel), ⟨by decide +kernel, by decide +kernel, by decide +kernel⟩, by decide⟩
theorem st_J9_min_7cf53 : Cond.static yJ9_min_7cf53 ∈ TB := tb_t 532 (by decide +kernel) (by decide +kernel)
abbrev mX7_go : MI := (yX7_go, cX7_go, 2, some .int)
theorem ok_X7_go : MOK mX7_go 1 := ⟨tb_t 537 (by decide +kernel) (by decide +kernel), tb_t 1 (by decide +kernel) (by decide +kernel), ⟨by decide +kernel, by decide +kernel, by decide +kernel⟩, by decide⟩
theorem mv_X7_go : MV mX7_go := ⟨tb_t 535 (by decide +kernel) (by decide +kernel), tb_t 536 (by decide +kernel) (by decide +kernel)⟩
abbrev mX0_run : MI := (yX0_run, cX0_run, 4, none)
theorem ok_X0_run : MOK mX0_run 2 := ⟨tb_t 541 (by decide +kernel) (by decide +kernel), tb_t 6 (by decide +kernel) (by decide +kernel), ⟨by decide +kernel, by decide +kernel, by decide +kernel⟩, by decide⟩
theorem mv_X0_run : MV mX0_run := ⟨tb_t 539 (by decide +kernel) (by decide +kernel), tb_t 540 (by decide +kernel) (by decide +kernel)⟩
abbrev mX0_passMinute : MI := (yX0_passMinute, cX0_passMinute, 3, some .boolean)
theorem ok_X0_passMinute : MOK mX0_passMinute 1 := ⟨tb_t 545 (by decide +kernel) (by decide +kernel), tb_t 6 (by decide +kernel) (by decide +kernel), ⟨by decide +kernel, by decide +kernel, by decide +kernel⟩, by decide⟩
theorem mv_X0_passMinute : MV mX0_passMinute := ⟨tb_t 543 (by decide +kernel) (by decide +kernel), tb_t 544 (by decide +kernel) (by decide +kernel)⟩
abbrev mX0_choose : MI := (yX0_choose, cX0_choose, 5, some .boolean)
theorem ok_X0_choose : MOK mX0_choose 1 := ⟨tb_t 549 (by decide +kernel) (by decide +kernel), tb_t 6 (by decide +kernel) (by decide +kernel), ⟨by decide +kernel, by decide +kernel, by decide +kernel⟩, by decide⟩
theorem mv_X0_choose : MV mX0_choose := ⟨tb_t 547 (by decide +kernel) (by decide +kernel), tb_t 548 (by decide +kernel) (by decide +kernel)⟩
abbrev mX0_findSweetest : MI := (yX0_findSweetest, cX0_findSweetest, 4, none)
theorem ok_X0_findSweetest : MOK mX0_findSweetest 1 := ⟨tb_t 553 (by decide +kernel) (by decide +kernel), tb_t 6 (by decide +kernel) (by decide +kernel), ⟨by decide +kernel, by decide +kernel, by decide +kernel⟩, by decide⟩
theorem mv_X0_findSweetest : MV mX0_findSweetest := ⟨tb_t 552 (by decide +kernel) (by decide +kernel), tb_p 15 (by decide +kernel) (by decide +kernel)⟩
abbrev mX0_isFiled : MI := (yX0_isFiled, cX0_isFiled, 2, some .boolean)
theorem ok_X0_isFiled : MOK mX0_isFiled 1 := ⟨tb_t 557 (by decide +kernel) (by decide +kernel), tb_t 6 (by decide +kernel) (by decide +kernel), ⟨by decide +kernel, by decide +kernel, by decide +kernel⟩, by decide⟩
theorem mv_X0_isFiled : MV mX0_isFiled := ⟨tb_t 555 (by decide +kernel) (by decide +kernel), tb_t 556 (by decide +kernel) (by decide +kernel)⟩
abbrev mX0_letsGo : MI := (yX0_letsGo, cX0_letsGo, 3, some .boolean)
theorem ok_X0_letsGo : MOK mX0_letsGo 2 := ⟨tb_t 561 (by decide +kernel) (by decide +kernel), tb_t 6 (by decide +kernel) (by decide +kernel), ⟨by decide +kernel, by decide +kernel, by decide +kernel⟩, by decide⟩
theorem mv_X0_letsGo : MV mX0_letsGo := ⟨tb_t 559 (by decide +kernel) (by decide +kernel), tb_t 560 (by decide +kernel) (by decide +kernel)⟩
abbrev mX0_wayFrom : MI := (yX0_wayFrom, cX0_wayFrom, 6, some .int)
theorem ok_X0_wayFrom : MOK mX0_wayFrom 3 := ⟨tb_t 565 (by decide +kernel) (by decide +kernel), tb_t 6 (by decide +kernel) (by decide +kernel), ⟨by decide +kernel, by decide +kernel, by decide +kernel⟩, by decide⟩
theorem mv_X0_wayFrom : MV mX0_wayFrom := ⟨tb_t 564 (by decide +kernel) (by decide +kernel), tb_p 16 (by decide +kernel) (by decide +kernel)⟩
abbrev mX0_leaveScent : MI := (yX0_leaveScent, cX0_leaveScent, 4, none)
theorem ok_X0_leaveScent : MOK mX0_leaveScent 1 := ⟨tb_t 570 (by decide +kernel) (by decide +kernel), tb_t 6 (by decide +kernel) (by decide +kernel), ⟨by decide +kernel, by decide +kernel, by decide +kernel⟩, by decide⟩
theorem mv_X0_leaveScent : MV mX0_leaveScent := ⟨tb_t 569 (by decide +kernel) (by decide +kernel), tb_p 17 (by decide +kernel) (by decide +kernel)⟩
abbrev mX0_fadeScents : MI := (yX0_fadeScents, cX0_fadeScents, 3, none)
theorem ok_X0_fadeScents : MOK mX0_fadeScents 1 := ⟨tb_t 575 (by decide +kernel) (by decide +kernel), tb_t 6 (by decide +kernel) (by decide +kernel), ⟨by decide +kernel, by decide +kernel, by decide +kernel⟩, by decide⟩
theorem mv_X0_fadeScents : MV mX0_fadeScents := ⟨tb_t 574 (by decide +kernel) (by decide +kernel), tb_p 18 (by decide +kernel) (by decide +kernel)⟩
abbrev mX0_arrive : MI := (yX0_arrive, cX0_arrive, 4, none)
theorem ok_X0_arrive : MOK mX0_arrive 1 := ⟨tb_t 580 (by decide +kernel) (by decide +kernel), tb_t 6 (by decide +kernel) (by decide +kernel), ⟨by decide +kernel, by decide +kernel, by decide +kernel⟩, by decide⟩
theorem mv_X0_arrive : MV mX0_arrive := ⟨tb_t 579 (by decide +kernel) (by decide +kernel), tb_p 19 (by decide +kernel) (by decide +kernel)⟩
abbrev mX6_across : MI := (yX6_across, cX6_across, 3, some .int)
theorem ok_X6_across : MOK mX6_across 2 := ⟨tb_t 584 (by decide +kernel) (by decide +kernel), tb_t 3 (by decide +kernel) (by decide +kernel), ⟨by decide +kernel, by decide +kernel, by decide +kernel⟩, by decide⟩
theorem mv_X6_across : MV mX6_across := ⟨tb_t 582 (by decide +kernel) (by decide +kernel), tb_t 583 (by decide +kernel) (by decide +kernel)⟩
abbrev mX7_next : MI := (yX7_next, cX7_next, 2, some .int)
theorem ok_X7_next : MOK mX7_next 1 := ⟨tb_t 589 (by decide +kernel) (by decide +kernel), tb_t 1 (by decide +kernel) (by decide +kernel), ⟨by decide +kernel, by decide +kernel, by decide +kernel⟩, by decide⟩
theorem mv_X7_next : MV mX7_next := ⟨tb_t 587 (by decide +kernel) (by decide +kernel), tb_t 588 (by decide +kernel) (by decide +kernel)⟩
abbrev mX7_spill : MI := (yX7_spill, cX7_spill, 4, some .int)
theorem ok_X7_spill : MOK mX7_spill 2 := ⟨tb_t 594 (by decide +kernel) (by decide +kernel), tb_t 1 (by decide +kernel) (by decide +kernel), ⟨by decide +kernel, by decide +kernel, by decide +kernel⟩, by decide⟩
theorem mv_X7_spill : MV mX7_spill := ⟨tb_t 592 (by decide +kernel) (by decide +kernel), tb_t 593 (by decide +kernel) (by decide +kernel)⟩
abbrev mX7_stamp : MI := (yX7_stamp, cX7_stamp, 4, some .int)
theorem ok_X7_stamp : MOK mX7_stamp 2 := ⟨tb_t 598 (by decide +kernel) (by decide +kernel), tb_t 1 (by decide +kernel) (by decide +kernel), ⟨by decide +kernel, by decide +kernel, by decide +kernel⟩, by decide⟩
theorem mv_X7_stamp : MV mX7_stamp := ⟨tb_t 596 (by decide +kernel) (by decide +kernel), tb_t 597 (by decide +kernel) (by decide +kernel)⟩
abbrev mX7_rain : MI := (yX7_rain, cX7_rain, 1, some .int)
theorem ok_X7_rain : MOK mX7_rain 0 := ⟨tb_t 603 (by decide +kernel) (by decide +kernel), tb_t 1 (by decide +kernel) (by decide +kernel), ⟨by decide +kernel, by decide +kernel, by decide +kernel⟩, by decide⟩
theorem mv_X7_rain : MV mX7_rain := ⟨tb_t 601 (by decide +kernel) (by decide +kernel), tb_t 602 (by decide +kernel) (by decide +kernel)⟩
abbrev mX0_halveScents : MI := (yX0_halveScents, cX0_halveScents, 4, some .int)
theorem ok_X0_halveScents : MOK mX0_halveScents 1 := ⟨tb_t 607 (by decide +kernel) (by decide +kernel), tb_t 6 (by decide +kernel) (by decide +kernel), ⟨by decide +kernel, by decide +kernel, by decide +kernel⟩, by decide⟩
theorem mv_X0_halveScents : MV mX0_halveScents := ⟨tb_t 605 (by decide +kernel) (by decide +kernel), tb_t 606 (by decide +kernel) (by decide +kernel)⟩
abbrev mX7_sit : MI := (yX7_sit, cX7_sit, 3, some .int)
theorem ok_X7_sit : MOK mX7_sit 1 := ⟨tb_t 611 (by decide +kernel) (by decide +kernel), tb_t 1 (by decide +kernel) (by decide +kernel), ⟨by decide +kernel, by decide +kernel, by decide +kernel⟩, by decide⟩
theorem mv_X7_sit : MV mX7_sit := ⟨tb_t 609 (by decide +kernel) (by decide +kernel), tb_t 610 (by decide +kernel) (by decide +kernel)⟩
abbrev mX7_keep : MI := (yX7_keep, cX7_keep, 2, some .int)
theorem ok_X7_keep : MOK mX7_keep 1 := ⟨tb_t 615 (by decide +kernel) (by decide +kernel), tb_t 1 (by decide +kernel) (by decide +kernel), ⟨by decide +kernel, by decide +kernel, by decide +kernel⟩, by decide⟩
theorem mv_X7_keep : MV mX7_keep := ⟨tb_t 613 (by decide +kernel) (by decide +kernel), tb_t 614 (by decide +kernel) (by decide +kernel)⟩
abbrev mX0_takeFrom : MI := (yX0_takeFrom, cX0_takeFrom, 2, none)
theorem ok_X0_takeFrom : MOK mX0_takeFrom 1 := ⟨tb_t 619 (by decide +kernel) (by decide +kernel), tb_t 6 (by decide +kernel) (by decide +kernel), ⟨by decide +kernel, by decide +kernel, by decide +kernel⟩, by decide⟩
theorem mv_X0_takeFrom : MV mX0_takeFrom := ⟨tb_t 617 (by decide +kernel) (by decide +kernel), tb_t 618 (by decide +kernel) (by decide +kernel)⟩
abbrev mX7_back : MI := (yX7_back, cX7_back, 2, some .int)
theorem ok_X7_back : MOK mX7_back 1 := ⟨tb_t 623 (by decide +kernel) (by decide +kernel), tb_t 1 (by decide +kernel) (by decide +kernel), ⟨by decide +kernel, by decide +kernel, by decide +kernel⟩, by decide⟩
theorem mv_X7_back : MV mX7_back := ⟨tb_t 621 (by decide +kernel) (by decide +kernel), tb_t 622 (by decide +kernel) (by decide +kernel)⟩
abbrev mX7_later : MI := (yX7_later, cX7_later, 5, some .int)
theorem ok_X7_later : MOK mX7_later 3 := ⟨tb_t 627 (by decide +kernel) (by decide +kernel), tb_t 1 (by decide +kernel) (by decide +kernel), ⟨by decide +kernel, by decide +kernel, by decide +kernel⟩, by decide⟩
theorem mv_X7_later : MV mX7_later := ⟨tb_t 625 (by decide +kernel) (by decide +kernel), tb_t 626 (by decide +kernel) (by decide +kernel)⟩
abbrev mX2_inMinutes : MI := (yX2_inMinutes, cX2_inMinutes, 2, some (.object "SugarStamps$Course"))
theorem ok_X2_inMinutes : MOK mX2_inMinutes 1 := ⟨tb_t 631 (by decide +kernel) (by decide +kernel), tb_t 8 (by decide +kernel) (by decide +kernel), ⟨by decide +kernel, by decide +kernel, by decide +kernel⟩, by decide⟩
theorem mv_X2_inMinutes : MV mX2_inMinutes := ⟨tb_t 629 (by decide +kernel) (by decide +kernel), tb_t 630 (by decide +kernel) (by decide +kernel)⟩
abbrev mX7_filed : MI := (yX7_filed, cX7_filed, 2, some .int)
theorem ok_X7_filed : MOK mX7_filed 1 := ⟨tb_t 637 (by decide +kernel) (by decide +kernel), tb_t 1 (by decide +kernel) (by decide +kernel), ⟨by decide +kernel, by decide +kernel, by decide +kernel⟩, by decide⟩
theorem mv_X7_filed : MV mX7_filed := ⟨tb_t 635 (by decide +kernel) (by decide +kernel), tb_t 636 (by decide +kernel) (by decide +kernel)⟩
abbrev mX2_minuteOfFiling : MI := (yX2_minuteOfFiling, cX2_minuteOfFiling, 2, some .int)
theorem ok_X2_minuteOfFiling : MOK mX2_minuteOfFiling 1 := ⟨tb_t 641 (by decide +kernel) (by decide +kernel), tb_t 8 (by decide +kernel) (by decide +kernel), ⟨by decide +kernel, by decide +kernel, by decide +kernel⟩, by decide⟩
theorem mv_X2_minuteOfFiling : MV mX2_minuteOfFiling := ⟨tb_t 639 (by decide +kernel) (by decide +kernel), tb_t 640 (by decide +kernel) (by decide +kernel)⟩
abbrev mX0_runUntilFiled : MI := (yX0_runUntilFiled, cX0_runUntilFiled, 6, some .boolean)
theorem ok_X0_runUntilFiled : MOK mX0_runUntilFiled 3 := ⟨tb_t 645 (by decide +kernel) (by decide +kernel), tb_t 6 (by decide +kernel) (by decide +kernel), ⟨by decide +kernel, by decide +kernel, by decide +kernel⟩, by decide⟩
theorem mv_X0_runUntilFiled : MV mX0_runUntilFiled := ⟨tb_t 643 (by decide +kernel) (by decide +kernel), tb_t 644 (by decide +kernel) (by decide +kernel)⟩
abbrev mX7_queue : MI := (yX7_queue, cX7_queue, 4, some .int)
theorem ok_X7_queue : MOK mX7_queue 2 := ⟨tb_t 649 (by decide +kernel) (by decide +kernel), tb_t 1 (by decide +kernel) (by decide +kernel), ⟨by decide +kernel, by decide +kernel, by decide +kernel⟩, by decide⟩
theorem mv_X7_queue : MV mX7_queue := ⟨tb_t 647 (by decide +kernel) (by decide +kernel), tb_t 648 (by decide +kernel) (by decide +kernel)⟩
abbrev mJ6_bitCount_0f7a4 : MI := (yJ6_bitCount_0f7a4, cJ6_bitCount_0f7a4, 1, some .int)
theorem ok_J6_bitCount_0f7a4 : MOK mJ6_bitCount_0f7a4 1 := ⟨tb_t 652 (by decide +kernel) (by decide +kernel), tb_t 17 (by decide +kernel) (by decide +kernel), ⟨by decide +kernel, by decide +kernel, by decide +kernel⟩, by decide⟩
theorem st_J6_bitCount_0f7a4 : Cond.static yJ6_bitCount_0f7a4 ∈ TB := tb_t 651 (by decide +kernel) (by decide +kernel)
abbrev mX7_honey : MI := (yX7_honey, cX7_honey, 6, some .int)
theorem ok_X7_honey : MOK mX7_honey 3 := ⟨tb_t 659 (by decide +kernel) (by decide +kernel), tb_t 1 (by decide +kernel) (by decide +kernel), ⟨by decide +kernel, by decide +kernel, by decide +kernel⟩, by decide⟩
theorem mv_X7_honey : MV mX7_honey := ⟨tb_t 657 (by decide +kernel) (by decide +kernel), tb_t 658 (by decide +kernel) (by decide +kernel)⟩
abbrev mX2_leastHoney : MI := (yX2_leastHoney, cX2_leastHoney, 5, some .int)
theorem ok_X2_leastHoney : MOK mX2_leastHoney 2 := ⟨tb_t 663 (by decide +kernel) (by decide +kernel), tb_t 8 (by decide +kernel) (by decide +kernel), ⟨by decide +kernel, by decide +kernel, by decide +kernel⟩, by decide⟩
theorem mv_X2_leastHoney : MV mX2_leastHoney := ⟨tb_t 661 (by decide +kernel) (by decide +kernel), tb_t 662 (by decide +kernel) (by decide +kernel)⟩
abbrev mX2_mayBeInTime : MI := (yX2_mayBeInTime, cX2_mayBeInTime, 4, some .boolean)
theorem ok_X2_mayBeInTime : MOK mX2_mayBeInTime 2 := ⟨tb_t 667 (by decide +kernel) (by decide +kernel), tb_t 8 (by decide +kernel) (by decide +kernel), ⟨by decide +kernel, by decide +kernel, by decide +kernel⟩, by decide⟩
theorem mv_X2_mayBeInTime : MV mX2_mayBeInTime := ⟨tb_t 666 (by decide +kernel) (by decide +kernel), tb_p 20 (by decide +kernel) (by decide +kernel)⟩
abbrev mX2_fewestTrails : MI := (yX2_fewestTrails, cX2_fewestTrails, 6, some .int)
theorem ok_X2_fewestTrails : MOK mX2_fewestTrails 3 := ⟨tb_t 671 (by decide +kernel) (by decide +kernel), tb_t 8 (by decide +kernel) (by decide +kernel), ⟨by decide +kernel, by decide +kernel, by decide +kernel⟩, by decide⟩
theorem mv_X2_fewestTrails : MV mX2_fewestTrails := ⟨tb_t 669 (by decide +kernel) (by decide +kernel), tb_t 670 (by decide +kernel) (by decide +kernel)⟩
abbrev mX2_stepOver : MI := (yX2_stepOver, cX2_stepOver, 5, none)
theorem ok_X2_stepOver : MOK mX2_stepOver 4 := ⟨tb_t 676 (by decide +kernel) (by decide +kernel), tb_t 8 (by decide +kernel) (by decide +kernel), ⟨by decide +kernel, by decide +kernel, by decide +kernel⟩, by decide⟩
theorem mv_X2_stepOver : MV mX2_stepOver := ⟨tb_t 675 (by decide +kernel) (by decide +kernel), tb_p 21 (by decide +kernel) (by decide +kernel)⟩
abbrev mX2_spreads : MI := (yX2_spreads, cX2_spreads, 10, some .boolean)
theorem ok_X2_spreads : MOK mX2_spreads 5 := ⟨tb_t 681 (by decide +kernel) (by decide +kernel), tb_t 8 (by decide +kernel) (by decide +kernel), ⟨by decide +kernel, by decide +kernel, by decide +kernel⟩, by decide⟩
theorem mv_X2_spreads : MV mX2_spreads := ⟨tb_t 680 (by decide +kernel) (by decide +kernel), tb_p 22 (by decide +kernel) (by decide +kernel)⟩
abbrev mX2_giveShares : MI := (yX2_giveShares, cX2_giveShares, 3, none)
theorem ok_X2_giveShares : MOK mX2_giveShares 1 := ⟨tb_t 685 (by decide +kernel) (by decide +kernel), tb_t 8 (by decide +kernel) (by decide +kernel), ⟨by decide +kernel, by decide +kernel, by decide +kernel⟩, by decide⟩
theorem mv_X2_giveShares : MV mX2_giveShares := ⟨tb_t 684 (by decide +kernel) (by decide +kernel), tb_p 23 (by decide +kernel) (by decide +kernel)⟩
abbrev mX7_smear : MI := (yX7_smear, cX7_smear, 4, some .int)
theorem ok_X7_smear : MOK mX7_smear 3 := ⟨tb_t 691 (by decide +kernel) (by decide +kernel), tb_t 1 (by decide +kernel) (by decide +kernel), ⟨by decide +kernel, by decide +kernel, by decide +kernel⟩, by decide⟩
theorem mv_X7_smear : MV mX7_smear := ⟨tb_t 689 (by decide +kernel) (by decide +kernel), tb_t 690 (by decide +kernel) (by decide +kernel)⟩
abbrev mX2_findSmear : MI := (yX2_findSmear, cX2_findSmear, 6, none)
theorem ok_X2_findSmear : MOK mX2_findSmear 2 := ⟨tb_t 695 (by decide +kernel) (by decide +kernel), tb_t 8 (by decide +kernel) (by decide +kernel), ⟨by decide +kernel, by decide +kernel, by decide +kernel⟩, by decide⟩
theorem mv_X2_findSmear : MV mX2_findSmear := ⟨tb_t 693 (by decide +kernel) (by decide +kernel), tb_t 694 (by decide +kernel) (by decide +kernel)⟩
abbrev mX7_quiet : MI := (yX7_quiet, cX7_quiet, 3, some .int)
theorem ok_X7_quiet : MOK mX7_quiet 2 := ⟨tb_t 699 (by decide +kernel) (by decide +kernel), tb_t 1 (by decide +kernel) (by decide +kernel), ⟨by decide +kernel, by decide +kernel, by decide +kernel⟩, by decide⟩
theorem mv_X7_quiet : MV mX7_quiet := ⟨tb_t 697 (by decide +kernel) (by decide +kernel), tb_t 698 (by decide +kernel) (by decide +kernel)⟩
abbrev mX7_harm : MI := (yX7_harm, cX7_harm, 3, some .int)
theorem ok_X7_harm : MOK mX7_harm 2 := ⟨tb_t 704 (by decide +kernel) (by decide +kernel), tb_t 1 (by decide +kernel) (by decide +kernel), ⟨by decide +kernel, by decide +kernel, by decide +kernel⟩, by decide⟩
theorem mv_X7_harm : MV mX7_harm := ⟨tb_t 702 (by decide +kernel) (by decide +kernel), tb_t 703 (by decide +kernel) (by decide +kernel)⟩
abbrev mX2_filesFiled : MI := (yX2_filesFiled, cX2_filesFiled, 3, some .int)
theorem ok_X2_filesFiled : MOK mX2_filesFiled 2 := ⟨tb_t 708 (by decide +kernel) (by decide +kernel), tb_t 8 (by decide +kernel) (by decide +kernel), ⟨by decide +kernel, by decide +kernel, by decide +kernel⟩, by decide⟩
theorem mv_X2_filesFiled : MV mX2_filesFiled := ⟨tb_t 706 (by decide +kernel) (by decide +kernel), tb_t 707 (by decide +kernel) (by decide +kernel)⟩
abbrev mX7_worst : MI := (yX7_worst, cX7_worst, 2, some .int)
theorem ok_X7_worst : MOK mX7_worst 1 := ⟨tb_t 713 (by decide +kernel) (by decide +kernel), tb_t 1 (by decide +kernel) (by decide +kernel), ⟨by decide +kernel, by decide +kernel, by decide +kernel⟩, by decide⟩
theorem mv_X7_worst : MV mX7_worst := ⟨tb_t 711 (by decide +kernel) (by decide +kernel), tb_t 712 (by decide +kernel) (by decide +kernel)⟩
abbrev mX2_worstDesk : MI := (yX2_worstDesk, cX2_worstDesk, 6, some .int)
theorem ok_X2_worstDesk : MOK mX2_worstDesk 1 := ⟨tb_t 717 (by decide +kernel) (by decide +kernel), tb_t 8 (by decide +kernel) (by decide +kernel), ⟨by decide +kernel, by decide +kernel, by decide +kernel⟩, by decide⟩
theorem mv_X2_worstDesk : MV mX2_worstDesk := ⟨tb_t 715 (by decide +kernel) (by decide +kernel), tb_t 716 (by decide +kernel) (by decide +kernel)⟩
abbrev mX7_seen : MI := (yX7_seen, cX7_seen, 4, some .int)
theorem ok_X7_seen : MOK mX7_seen 3 := ⟨tb_t 722 (by decide +kernel) (by decide +kernel), tb_t 1 (by decide +kernel) (by decide +kernel), ⟨by decide +kernel, by decide +kernel, by decide +kernel⟩, by decide⟩
theorem mv_X7_seen : MV mX7_seen := ⟨tb_t 720 (by decide +kernel) (by decide +kernel), tb_t 721 (by decide +kernel) (by decide +kernel)⟩
abbrev mX4_add : MI := (yX4_add, cX4_add, 4, some .int)
theorem ok_X4_add : MOK mX4_add 3 := ⟨tb_t 726 (by decide +kernel) (by decide +kernel), tb_t 9 (by decide +kernel) (by decide +kernel), ⟨by decide +kernel, by decide +kernel, by decide +kernel⟩, by decide⟩
theorem mv_X4_add : MV mX4_add := ⟨tb_t 724 (by decide +kernel) (by decide +kernel), tb_t 725 (by decide +kernel) (by decide +kernel)⟩
abbrev mX7_forget : MI := (yX7_forget, cX7_forget, 1, some .int)
theorem ok_X7_forget : MOK mX7_forget 0 := ⟨tb_t 730 (by decide +kernel) (by decide +kernel), tb_t 1 (by decide +kernel) (by decide +kernel), ⟨by decide +kernel, by decide +kernel, by decide +kernel⟩, by decide⟩
theorem mv_X7_forget : MV mX7_forget := ⟨tb_t 728 (by decide +kernel) (by decide +kernel), tb_t 729 (by decide +kernel) (by decide +kernel)⟩
abbrev mX7_stamps : MI := (yX7_stamps, cX7_stamps, 2, some .int)
theorem ok_X7_stamps : MOK mX7_stamps 1 := ⟨tb_t 734 (by decide +kernel) (by decide +kernel), tb_t 1 (by decide +kernel) (by decide +kernel), ⟨by decide +kernel, by decide +kernel, by decide +kernel⟩, by decide⟩
theorem mv_X7_stamps : MV mX7_stamps := ⟨tb_t 732 (by decide +kernel) (by decide +kernel), tb_t 733 (by decide +kernel) (by decide +kernel)⟩
abbrev mX2_stampsBy : MI := (yX2_stampsBy, cX2_stampsBy, 5, some .int)
theorem ok_X2_stampsBy : MOK mX2_stampsBy 2 := ⟨tb_t 738 (by decide +kernel) (by decide +kernel), tb_t 8 (by decide +kernel) (by decide +kernel), ⟨by decide +kernel, by decide +kernel, by decide +kernel⟩, by decide⟩
theorem mv_X2_stampsBy : MV mX2_stampsBy := ⟨tb_t 736 (by decide +kernel) (by decide +kernel), tb_t 737 (by decide +kernel) (by decide +kernel)⟩
abbrev mX2_agreesWith : MI := (yX2_agreesWith, cX2_agreesWith, 5, some .boolean)
theorem ok_X2_agreesWith : MOK mX2_agreesWith 2 := ⟨tb_t 743 (by decide +kernel) (by decide +kernel), tb_t 8 (by decide +kernel) (by decide +kernel), ⟨by decide +kernel, by decide +kernel, by decide +kernel⟩, by decide⟩
theorem mv_X2_agreesWith : MV mX2_agreesWith := ⟨tb_t 742 (by decide +kernel) (by decide +kernel), tb_p 24 (by decide +kernel) (by decide +kernel)⟩
abbrev mX4_lastOf : MI := (yX4_lastOf, cX4_lastOf, 4, some .int)
theorem ok_X4_lastOf : MOK mX4_lastOf 1 := ⟨tb_t 747 (by decide +kernel) (by decide +kernel), tb_t 9 (by decide +kernel) (by decide +kernel), ⟨by decide +kernel, by decide +kernel, by decide +kernel⟩, by decide⟩
theorem mv_X4_lastOf : MV mX4_lastOf := ⟨tb_t 745 (by decide +kernel) (by decide +kernel), tb_t 746 (by decide +kernel) (by decide +kernel)⟩
abbrev mX4_allow : MI := (yX4_allow, cX4_allow, 5, some .boolean)
theorem ok_X4_allow : MOK mX4_allow 3 := ⟨tb_t 752 (by decide +kernel) (by decide +kernel), tb_t 9 (by decide +kernel) (by decide +kernel), ⟨by decide +kernel, by decide +kernel, by decide +kernel⟩, by decide⟩
theorem mv_X4_allow : MV mX4_allow := ⟨tb_t 750 (by decide +kernel) (by decide +kernel), tb_t 751 (by decide +kernel) (by decide +kernel)⟩
abbrev mX7_crumbs : MI := (yX7_crumbs, cX7_crumbs, 4, some .int)
theorem ok_X7_crumbs : MOK mX7_crumbs 2 := ⟨tb_t 757 (by decide +kernel) (by decide +kernel), tb_t 1 (by decide +kernel) (by decide +kernel), ⟨by decide +kernel, by decide +kernel, by decide +kernel⟩, by decide⟩
theorem mv_X7_crumbs : MV mX7_crumbs := ⟨tb_t 755 (by decide +kernel) (by decide +kernel), tb_t 756 (by decide +kernel) (by decide +kernel)⟩
abbrev mX7_odds : MI := (yX7_odds, cX7_odds, 6, some .int)
theorem ok_X7_odds : MOK mX7_odds 2 := ⟨tb_t 761 (by decide +kernel) (by decide +kernel), tb_t 1 (by decide +kernel) (by decide +kernel), ⟨by decide +kernel, by decide +kernel, by decide +kernel⟩, by decide⟩
theorem mv_X7_odds : MV mX7_odds := ⟨tb_t 759 (by decide +kernel) (by decide +kernel), tb_t 760 (by decide +kernel) (by decide +kernel)⟩
abbrev mX1_sum : MI := (yX1_sum, cX1_sum, 3, some .int)
theorem ok_X1_sum : MOK mX1_sum 0 := ⟨tb_t 765 (by decide +kernel) (by decide +kernel), tb_t 10 (by decide +kernel) (by decide +kernel), ⟨by decide +kernel, by decide +kernel, by decide +kernel⟩, by decide⟩
theorem mv_X1_sum : MV mX1_sum := ⟨tb_t 763 (by decide +kernel) (by decide +kernel), tb_t 764 (by decide +kernel) (by decide +kernel)⟩
abbrev mX1_commonDivisor : MI := (yX1_commonDivisor, cX1_commonDivisor, 3, some .int)
theorem ok_X1_commonDivisor : MOK mX1_commonDivisor 2 := ⟨tb_t 768 (by decide +kernel) (by decide +kernel), tb_t 10 (by decide +kernel) (by decide +kernel), ⟨by decide +kernel, by decide +kernel, by decide +kernel⟩, by decide⟩
theorem st_X1_commonDivisor : Cond.static yX1_commonDivisor ∈ TB := tb_t 767 (by decide +kernel) (by decide +kernel)
abbrev mX7_count : MI := (yX7_count, cX7_count, 2, some .int)
theorem ok_X7_count : MOK mX7_count 1 := ⟨tb_t 772 (by decide +kernel) (by decide +kernel), tb_t 1 (by decide +kernel) (by decide +kernel), ⟨by decide +kernel, by decide +kernel, by decide +kernel⟩, by decide⟩
theorem mv_X7_count : MV mX7_count := ⟨tb_t 770 (by decide +kernel) (by decide +kernel), tb_t 771 (by decide +kernel) (by decide +kernel)⟩
abbrev mX8_init : MI := (yX8_init, cX8_init, 1, none)
theorem ok_X8_init : MOK mX8_init 0 := ⟨tb_t 777 (by decide +kernel) (by decide +kernel), tb_t 11 (by decide +kernel) (by decide +kernel), ⟨by decide +kernel, by decide +kernel, by decide +kernel⟩, by decide⟩
theorem in_X8_init : Cond.instanceMethod yX8_init ∈ TB := tb_t 776 (by decide +kernel) (by decide +kernel)
abbrev mX8_clear : MI := (yX8_clear, cX8_clear, 3, none)
theorem ok_X8_clear : MOK mX8_clear 1 := ⟨tb_t 782 (by decide +kernel) (by decide +kernel), tb_t 11 (by decide +kernel) (by decide +kernel), ⟨by decide +kernel, by decide +kernel, by decide +kernel⟩, by decide⟩
theorem mv_X8_clear : MV mX8_clear := ⟨tb_t 781 (by decide +kernel) (by decide +kernel), tb_p 25 (by decide +kernel) (by decide +kernel)⟩
abbrev mX8_begin : MI := (yX8_begin, cX8_begin, 3, none)
theorem ok_X8_begin : MOK mX8_begin 0 := ⟨tb_t 786 (by decide +kernel) (by decide +kernel), tb_t 11 (by decide +kernel) (by decide +kernel), ⟨by decide +kernel, by decide +kernel, by decide +kernel⟩, by decide⟩
theorem mv_X8_begin : MV mX8_begin := ⟨tb_t 785 (by decide +kernel) (by decide +kernel), tb_p 26 (by decide +kernel) (by decide +kernel)⟩
abbrev mX8_copy : MI := (yX8_copy, cX8_copy, 4, none)
theorem ok_X8_copy : MOK mX8_copy 2 := ⟨tb_t 790 (by decide +kernel) (by decide +kernel), tb_t 11 (by decide +kernel) (by decide +kernel), ⟨by decide +kernel, by decide +kernel, by decide +kernel⟩, by decide⟩
theorem mv_X8_copy : MV mX8_copy := ⟨tb_t 789 (by decide +kernel) (by decide +kernel), tb_p 27 (by decide +kernel) (by decide +kernel)⟩
abbrev mX8_write : MI := (yX8_write, cX8_write, 5, some .int)
theorem ok_X8_write : MOK mX8_write 2 := ⟨tb_t 870 (by decide +kernel) (by decide +kernel), tb_t 11 (by decide +kernel) (by decide +kernel), ⟨by decide +kernel, by decide +kernel, by decide +kernel⟩, by decide⟩
theorem mv_X8_write : MV mX8_write := ⟨tb_t 868 (by decide +kernel) (by decide +kernel), tb_t 869 (by decide +kernel) (by decide +kernel)⟩
abbrev mX8_in : MI := (yX8_in, cX8_in, 6, some .boolean)
theorem ok_X8_in : MOK mX8_in 3 := ⟨tb_t 874 (by decide +kernel) (by decide +kernel), tb_t 11 (by decide +kernel) (by decide +kernel), ⟨by decide +kernel, by decide +kernel, by decide +kernel⟩, by decide⟩
theorem st_X8_in : Cond.static yX8_in ∈ TB := tb_t 873 (by decide +kernel) (by decide +kernel)
abbrev mX8_erase : MI := (yX8_erase, cX8_erase, 2, some .int)
theorem ok_X8_erase : MOK mX8_erase 0 := ⟨tb_t 879 (by decide +kernel) (by decide +kernel), tb_t 11 (by decide +kernel) (by decide +kernel), ⟨by decide +kernel, by decide +kernel, by decide +kernel⟩, by decide⟩
theorem mv_X8_erase : MV mX8_erase := ⟨tb_t 877 (by decide +kernel) (by decide +kernel), tb_t 878 (by decide +kernel) (by decide +kernel)⟩
abbrev mX8_fault : MI := (yX8_fault, cX8_fault, 2, some .int)
theorem ok_X8_fault : MOK mX8_fault 0 := ⟨tb_t 883 (by decide +kernel) (by decide +kernel), tb_t 11 (by decide +kernel) (by decide +kernel), ⟨by decide +kernel, by decide +kernel, by decide +kernel⟩, by decide⟩
theorem mv_X8_fault : MV mX8_fault := ⟨tb_t 881 (by decide +kernel) (by decide +kernel), tb_t 882 (by decide +kernel) (by decide +kernel)⟩
abbrev mX8_token : MI := (yX8_token, cX8_token, 1, none)
theorem ok_X8_token : MOK mX8_token 0 := ⟨tb_t 887 (by decide +kernel) (by decide +kernel), tb_t 11 (by decide +kernel) (by decide +kernel), ⟨by decide +kernel, by decide +kernel, by decide +kernel⟩, by decide⟩
theorem mv_X8_token : MV mX8_token := ⟨tb_t 886 (by decide +kernel) (by decide +kernel), tb_p 28 (by decide +kernel) (by decide +kernel)⟩
abbrev mX8_sort : MI := (yX8_sort, cX8_sort, 1, some .int)
theorem ok_X8_sort : MOK mX8_sort 1 := ⟨tb_t 890 (by decide +kernel) (by decide +kernel), tb_t 11 (by decide +kernel) (by decide +kernel), ⟨by decide +kernel, by decide +kernel, by decide +kernel⟩, by decide⟩
theorem st_X8_sort : Cond.static yX8_sort ∈ TB := tb_t 889 (by decide +kernel) (by decide +kernel)
abbrev mX8_readsLine : MI := (yX8_readsLine, cX8_readsLine, 2, some .boolean)
theorem ok_X8_readsLine : MOK mX8_readsLine 0 := ⟨tb_t 894 (by decide +kernel) (by decide +kernel), tb_t 11 (by decide +kernel) (by decide +kernel), ⟨by decide +kernel, by decide +kernel, by decide +kernel⟩, by decide⟩
theorem mv_X8_readsLine : MV mX8_readsLine := ⟨tb_t 893 (by decide +kernel) (by decide +kernel), tb_p 29 (by decide +kernel) (by decide +kernel)⟩
abbrev mX8_wordOf : MI := (yX8_wordOf, cX8_wordOf, 2, some .int)
theorem ok_X8_wordOf : MOK mX8_wordOf 0 := ⟨tb_t 898 (by decide +kernel) (by decide +kernel), tb_t 11 (by decide +kernel) (by decide +kernel), ⟨by decide +kernel, by decide +kernel, by decide +kernel⟩, by decide⟩
theorem mv_X8_wordOf : MV mX8_wordOf := ⟨tb_t 897 (by decide +kernel) (by decide +kernel), tb_p 30 (by decide +kernel) (by decide +kernel)⟩
abbrev mX8_deskWord : MI := (yX8_deskWord, cX8_deskWord, 1, some .int)
theorem ok_X8_deskWord : MOK mX8_deskWord 0 := ⟨tb_t 902 (by decide +kernel) (by decide +kernel), tb_t 11 (by decide +kernel) (by decide +kernel), ⟨by decide +kernel, by decide +kernel, by decide +kernel⟩, by decide⟩
theorem mv_X8_deskWord : MV mX8_deskWord := ⟨tb_t 901 (by decide +kernel) (by decide +kernel), tb_p 31 (by decide +kernel) (by decide +kernel)⟩
abbrev mX8_isWord : MI := (yX8_isWord, cX8_isWord, 5, some .boolean)
theorem ok_X8_isWord : MOK mX8_isWord 2 := ⟨tb_t 907 (by decide +kernel) (by decide +kernel), tb_t 11 (by decide +kernel) (by decide +kernel), ⟨by decide +kernel, by decide +kernel, by decide +kernel⟩, by decide⟩
theorem mv_X8_isWord : MV mX8_isWord := ⟨tb_t 906 (by decide +kernel) (by decide +kernel), tb_p 32 (by decide +kernel) (by decide +kernel)⟩
abbrev mX8_readsRest : MI := (yX8_readsRest, cX8_readsRest, 3, some .boolean)
theorem ok_X8_readsRest : MOK mX8_readsRest 1 := ⟨tb_t 919 (by decide +kernel) (by decide +kernel), tb_t 11 (by decide +kernel) (by decide +kernel), ⟨by decide +kernel, by decide +kernel, by decide +kernel⟩, by decide⟩
theorem mv_X8_readsRest : MV mX8_readsRest := ⟨tb_t 918 (by decide +kernel) (by decide +kernel), tb_p 33 (by decide +kernel) (by decide +kernel)⟩
abbrev mX8_reads : MI := (yX8_reads, cX8_reads, 7, some .boolean)
theorem ok_X8_reads : MOK mX8_reads 4 := ⟨tb_t 923 (by decide +kernel) (by decide +kernel), tb_t 11 (by decide +kernel) (by decide +kernel), ⟨by decide +kernel, by decide +kernel, by decide +kernel⟩, by decide⟩
theorem mv_X8_reads : MV mX8_reads := ⟨tb_t 922 (by decide +kernel) (by decide +kernel), tb_p 34 (by decide +kernel) (by decide +kernel)⟩
abbrev mX8_office : MI := (yX8_office, cX8_office, 2, some .int)
theorem ok_X8_office : MOK mX8_office 0 := ⟨tb_t 927 (by decide +kernel) (by decide +kernel), tb_t 11 (by decide +kernel) (by decide +kernel), ⟨by decide +kernel, by decide +kernel, by decide +kernel⟩, by decide⟩
theorem mv_X8_office : MV mX8_office := ⟨tb_t 925 (by decide +kernel) (by decide +kernel), tb_t 926 (by decide +kernel) (by decide +kernel)⟩
abbrev mX8_tell : MI := (yX8_tell, cX8_tell, 5, none)
theorem ok_X8_tell : MOK mX8_tell 1 := ⟨tb_t 932 (by decide +kernel) (by decide +kernel), tb_t 11 (by decide +kernel) (by decide +kernel), ⟨by decide +kernel, by decide +kernel, by decide +kernel⟩, by decide⟩
theorem mv_X8_tell : MV mX8_tell := ⟨tb_t 931 (by decide +kernel) (by decide +kernel), tb_p 35 (by decide +kernel) (by decide +kernel)⟩
abbrev mX8_desk : MI := (yX8_desk, cX8_desk, 6, some .int)
theorem ok_X8_desk : MOK mX8_desk 2 := ⟨tb_t 936 (by decide +kernel) (by decide +kernel), tb_t 11 (by decide +kernel) (by decide +kernel), ⟨by decide +kernel, by decide +kernel, by decide +kernel⟩, by decide⟩
theorem mv_X8_desk : MV mX8_desk := ⟨tb_t 934 (by decide +kernel) (by decide +kernel), tb_t 935 (by decide +kernel) (by decide +kernel)⟩
abbrev mX8_isDesk : MI := (yX8_isDesk, cX8_isDesk, 2, some .boolean)
theorem ok_X8_isDesk : MOK mX8_isDesk 1 := ⟨tb_t 940 (by decide +kernel) (by decide +kernel), tb_t 11 (by decide +kernel) (by decide +kernel), ⟨by decide +kernel, by decide +kernel, by decide +kernel⟩, by decide⟩
theorem mv_X8_isDesk : MV mX8_isDesk := ⟨tb_t 939 (by decide +kernel) (by decide +kernel), tb_p 36 (by decide +kernel) (by decide +kernel)⟩
abbrev mX8_isOf : MI := (yX8_isOf, cX8_isOf, 3, some .boolean)
theorem ok_X8_isOf : MOK mX8_isOf 2 := ⟨tb_t 944 (by decide +kernel) (by decide +kernel), tb_t 11 (by decide +kernel) (by decide +kernel), ⟨by decide +kernel, by decide +kernel, by decide +kernel⟩, by decide⟩
theorem mv_X8_isOf : MV mX8_isOf := ⟨tb_t 943 (by decide +kernel) (by decide +kernel), tb_p 37 (by decide +kernel) (by decide +kernel)⟩
abbrev mX8_trail : MI := (yX8_trail, cX8_trail, 3, some .int)
theorem ok_X8_trail : MOK mX8_trail 2 := ⟨tb_t 948 (by decide +kernel) (by decide +kernel), tb_t 11 (by decide +kernel) (by decide +kernel), ⟨by decide +kernel, by decide +kernel, by decide +kernel⟩, by decide⟩
theorem mv_X8_trail : MV mX8_trail := ⟨tb_t 946 (by decide +kernel) (by decide +kernel), tb_t 947 (by decide +kernel) (by decide +kernel)⟩
abbrev mX8_isTrail : MI := (yX8_isTrail, cX8_isTrail, 2, some .boolean)
theorem ok_X8_isTrail : MOK mX8_isTrail 1 := ⟨tb_t 952 (by decide +kernel) (by decide +kernel), tb_t 11 (by decide +kernel) (by decide +kernel), ⟨by decide +kernel, by decide +kernel, by decide +kernel⟩, by decide⟩
theorem mv_X8_isTrail : MV mX8_isTrail := ⟨tb_t 951 (by decide +kernel) (by decide +kernel), tb_p 38 (by decide +kernel) (by decide +kernel)⟩
abbrev mX8_file : MI := (yX8_file, cX8_file, 3, some .int)
theorem ok_X8_file : MOK mX8_file 2 := ⟨tb_t 956 (by decide +kernel) (by decide +kernel), tb_t 11 (by decide +kernel) (by decide +kernel), ⟨by decide +kernel, by decide +kernel, by decide +kernel⟩, by decide⟩
theorem mv_X8_file : MV mX8_file := ⟨tb_t 954 (by decide +kernel) (by decide +kernel), tb_t 955 (by decide +kernel) (by decide +kernel)⟩
abbrev mX8_isFile : MI := (yX8_isFile, cX8_isFile, 2, some .boolean)
theorem ok_X8_isFile : MOK mX8_isFile 1 := ⟨tb_t 960 (by decide +kernel) (by decide +kernel), tb_t 11 (by decide +kernel) (by decide +kernel), ⟨by decide +kernel, by decide +kernel, by decide +kernel⟩, by decide⟩
theorem mv_X8_isFile : MV mX8_isFile := ⟨tb_t 959 (by decide +kernel) (by decide +kernel), tb_p 39 (by decide +kernel) (by decide +kernel)⟩
abbrev mX8_as : MI := (yX8_as, cX8_as, 5, some .int)
theorem ok_X8_as : MOK mX8_as 2 := ⟨tb_t 964 (by decide +kernel) (by decide +kernel), tb_t 11 (by decide +kernel) (by decide +kernel), ⟨by decide +kernel, by decide +kernel, by decide +kernel⟩, by decide⟩
theorem mv_X8_as : MV mX8_as := ⟨tb_t 962 (by decide +kernel) (by decide +kernel), tb_t 963 (by decide +kernel) (by decide +kernel)⟩
abbrev mX8_sweetAt : MI := (yX8_sweetAt, cX8_sweetAt, 3, some .int)
theorem ok_X8_sweetAt : MOK mX8_sweetAt 2 := ⟨tb_t 969 (by decide +kernel) (by decide +kernel), tb_t 11 (by decide +kernel) (by decide +kernel), ⟨by decide +kernel, by decide +kernel, by decide +kernel⟩, by decide⟩
theorem mv_X8_sweetAt : MV mX8_sweetAt := ⟨tb_t 968 (by decide +kernel) (by decide +kernel), tb_p 40 (by decide +kernel) (by decide +kernel)⟩
abbrev mX8_go : MI := (yX8_go, cX8_go, 3, some .int)
theorem ok_X8_go : MOK mX8_go 1 := ⟨tb_t 973 (by decide +kernel) (by decide +kernel), tb_t 11 (by decide +kernel) (by decide +kernel), ⟨by decide +kernel, by decide +kernel, by decide +kernel⟩, by decide⟩
theorem mv_X8_go : MV mX8_go := ⟨tb_t 971 (by decide +kernel) (by decide +kernel), tb_t 972 (by decide +kernel) (by decide +kernel)⟩
abbrev mX8_minute : MI := (yX8_minute, cX8_minute, 4, none)
theorem ok_X8_minute : MOK mX8_minute 1 := ⟨tb_t 978 (by decide +kernel) (by decide +kernel), tb_t 11 (by decide +kernel) (by decide +kernel), ⟨by decide +kernel, by decide +kernel, by decide +kernel⟩, by decide⟩
theorem mv_X8_minute : MV mX8_minute := ⟨tb_t 977 (by decide +kernel) (by decide +kernel), tb_p 41 (by decide +kernel) (by decide +kernel)⟩
abbrev mX8_layCarried : MI := (yX8_layCarried, cX8_layCarried, 4, none)
theorem ok_X8_layCarried : MOK mX8_layCarried 1 := ⟨tb_t 982 (by decide +kernel) (by decide +kernel), tb_t 11 (by decide +kernel) (by decide +kernel), ⟨by decide +kernel, by decide +kernel, by decide +kernel⟩, by decide⟩
theorem mv_X8_layCarried : MV mX8_layCarried := ⟨tb_t 981 (by decide +kernel) (by decide +kernel), tb_p 42 (by decide +kernel) (by decide +kernel)⟩
abbrev mX8_sweetest : MI := (yX8_sweetest, cX8_sweetest, 6, some .int)
theorem ok_X8_sweetest : MOK mX8_sweetest 2 := ⟨tb_t 986 (by decide +kernel) (by decide +kernel), tb_t 11 (by decide +kernel) (by decide +kernel), ⟨by decide +kernel, by decide +kernel, by decide +kernel⟩, by decide⟩
theorem mv_X8_sweetest : MV mX8_sweetest := ⟨tb_t 985 (by decide +kernel) (by decide +kernel), tb_p 43 (by decide +kernel) (by decide +kernel)⟩
abbrev mX8_strongest : MI := (yX8_strongest, cX8_strongest, 8, some .int)
theorem ok_X8_strongest : MOK mX8_strongest 3 := ⟨tb_t 990 (by decide +kernel) (by decide +kernel), tb_t 11 (by decide +kernel) (by decide +kernel), ⟨by decide +kernel, by decide +kernel, by decide +kernel⟩, by decide⟩
theorem mv_X8_strongest : MV mX8_strongest := ⟨tb_t 989 (by decide +kernel) (by decide +kernel), tb_p 44 (by decide +kernel) (by decide +kernel)⟩
abbrev mX8_arrive : MI := (yX8_arrive, cX8_arrive, 5, none)
theorem ok_X8_arrive : MOK mX8_arrive 3 := ⟨tb_t 994 (by decide +kernel) (by decide +kernel), tb_t 11 (by decide +kernel) (by decide +kernel), ⟨by decide +kernel, by decide +kernel, by decide +kernel⟩, by decide⟩
theorem mv_X8_arrive : MV mX8_arrive := ⟨tb_t 993 (by decide +kernel) (by decide +kernel), tb_p 45 (by decide +kernel) (by decide +kernel)⟩
abbrev mX8_next : MI := (yX8_next, cX8_next, 2, some .int)
theorem ok_X8_next : MOK mX8_next 1 := ⟨tb_t 998 (by decide +kernel) (by decide +kernel), tb_t 11 (by decide +kernel) (by decide +kernel), ⟨by decide +kernel, by decide +kernel, by decide +kernel⟩, by decide⟩
theorem mv_X8_next : MV mX8_next := ⟨tb_t 996 (by decide +kernel) (by decide +kernel), tb_t 997 (by decide +kernel) (by decide +kernel)⟩
abbrev mX8_spill : MI := (yX8_spill, cX8_spill, 4, some .int)
theorem ok_X8_spill : MOK mX8_spill 2 := ⟨tb_t 1002 (by decide +kernel) (by decide +kernel), tb_t 11 (by decide +kernel) (by decide +kernel), ⟨by decide +kernel, by decide +kernel, by decide +kernel⟩, by decide⟩
theorem mv_X8_spill : MV mX8_spill := ⟨tb_t 1000 (by decide +kernel) (by decide +kernel), tb_t 1001 (by decide +kernel) (by decide +kernel)⟩
abbrev mX8_stamp : MI := (yX8_stamp, cX8_stamp, 4, some .int)
theorem ok_X8_stamp : MOK mX8_stamp 2 := ⟨tb_t 1006 (by decide +kernel) (by decide +kernel), tb_t 11 (by decide +kernel) (by decide +kernel), ⟨by decide +kernel, by decide +kernel, by decide +kernel⟩, by decide⟩
theorem mv_X8_stamp : MV mX8_stamp := ⟨tb_t 1004 (by decide +kernel) (by decide +kernel), tb_t 1005 (by decide +kernel) (by decide +kernel)⟩
abbrev mX8_rain : MI := (yX8_rain, cX8_rain, 3, some .int)
theorem ok_X8_rain : MOK mX8_rain 0 := ⟨tb_t 1011 (by decide +kernel) (by decide +kernel), tb_t 11 (by decide +kernel) (by decide +kernel), ⟨by decide +kernel, by decide +kernel, by decide +kernel⟩, by decide⟩
theorem mv_X8_rain : MV mX8_rain := ⟨tb_t 1009 (by decide +kernel) (by decide +kernel), tb_t 1010 (by decide +kernel) (by decide +kernel)⟩
abbrev mX8_sit : MI := (yX8_sit, cX8_sit, 3, some .int)
theorem ok_X8_sit : MOK mX8_sit 1 := ⟨tb_t 1015 (by decide +kernel) (by decide +kernel), tb_t 11 (by decide +kernel) (by decide +kernel), ⟨by decide +kernel, by decide +kernel, by decide +kernel⟩, by decide⟩
theorem mv_X8_sit : MV mX8_sit := ⟨tb_t 1013 (by decide +kernel) (by decide +kernel), tb_t 1014 (by decide +kernel) (by decide +kernel)⟩
abbrev mX8_keep : MI := (yX8_keep, cX8_keep, 2, some .int)
theorem ok_X8_keep : MOK mX8_keep 1 := ⟨tb_t 1019 (by decide +kernel) (by decide +kernel), tb_t 11 (by decide +kernel) (by decide +kernel), ⟨by decide +kernel, by decide +kernel, by decide +kernel⟩, by decide⟩
theorem mv_X8_keep : MV mX8_keep := ⟨tb_t 1017 (by decide +kernel) (by decide +kernel), tb_t 1018 (by decide +kernel) (by decide +kernel)⟩
abbrev mX8_back : MI := (yX8_back, cX8_back, 2, some .int)
theorem ok_X8_back : MOK mX8_back 1 := ⟨tb_t 1023 (by decide +kernel) (by decide +kernel), tb_t 11 (by decide +kernel) (by decide +kernel), ⟨by decide +kernel, by decide +kernel, by decide +kernel⟩, by decide⟩
theorem mv_X8_back : MV mX8_back := ⟨tb_t 1021 (by decide +kernel) (by decide +kernel), tb_t 1022 (by decide +kernel) (by decide +kernel)⟩
abbrev mX8_later : MI := (yX8_later, cX8_later, 5, some .int)
theorem ok_X8_later : MOK mX8_later 3 := ⟨tb_t 1027 (by decide +kernel) (by decide +kernel), tb_t 11 (by decide +kernel) (by decide +kernel), ⟨by decide +kernel, by decide +kernel, by decide +kernel⟩, by decide⟩
theorem mv_X8_later : MV mX8_later := ⟨tb_t 1025 (by decide +kernel) (by decide +kernel), tb_t 1026 (by decide +kernel) (by decide +kernel)⟩
abbrev mX8_tryFor : MI := (yX8_tryFor, cX8_tryFor, 3, none)
theorem ok_X8_tryFor : MOK mX8_tryFor 1 := ⟨tb_t 1032 (by decide +kernel) (by decide +kernel), tb_t 11 (by decide +kernel) (by decide +kernel), ⟨by decide +kernel, by decide +kernel, by decide +kernel⟩, by decide⟩
theorem mv_X8_tryFor : MV mX8_tryFor := ⟨tb_t 1031 (by decide +kernel) (by decide +kernel), tb_p 46 (by decide +kernel) (by decide +kernel)⟩
abbrev mX8_filed : MI := (yX8_filed, cX8_filed, 2, some .int)
theorem ok_X8_filed : MOK mX8_filed 1 := ⟨tb_t 1036 (by decide +kernel) (by decide +kernel), tb_t 11 (by decide +kernel) (by decide +kernel), ⟨by decide +kernel, by decide +kernel, by decide +kernel⟩, by decide⟩
theorem mv_X8_filed : MV mX8_filed := ⟨tb_t 1034 (by decide +kernel) (by decide +kernel), tb_t 1035 (by decide +kernel) (by decide +kernel)⟩
abbrev mX8_filedIn : MI := (yX8_filedIn, cX8_filedIn, 5, some .int)
theorem ok_X8_filedIn : MOK mX8_filedIn 2 := ⟨tb_t 1040 (by decide +kernel) (by decide +kernel), tb_t 11 (by decide +kernel) (by decide +kernel), ⟨by decide +kernel, by decide +kernel, by decide +kernel⟩, by decide⟩
theorem mv_X8_filedIn : MV mX8_filedIn := ⟨tb_t 1039 (by decide +kernel) (by decide +kernel), tb_p 47 (by decide +kernel) (by decide +kernel)⟩
abbrev mX8_queue : MI := (yX8_queue, cX8_queue, 6, some .int)
theorem ok_X8_queue : MOK mX8_queue 2 := ⟨tb_t 1044 (by decide +kernel) (by decide +kernel), tb_t 11 (by decide +kernel) (by decide +kernel), ⟨by decide +kernel, by decide +kernel, by decide +kernel⟩, by decide⟩
theorem mv_X8_queue : MV mX8_queue := ⟨tb_t 1042 (by decide +kernel) (by decide +kernel), tb_t 1043 (by decide +kernel) (by decide +kernel)⟩
abbrev mX8_honey : MI := (yX8_honey, cX8_honey, 10, some .int)
theorem ok_X8_honey : MOK mX8_honey 3 := ⟨tb_t 1048 (by decide +kernel) (by decide +kernel), tb_t 11 (by decide +kernel) (by decide +kernel), ⟨by decide +kernel, by decide +kernel, by decide +kernel⟩, by decide⟩
theorem mv_X8_honey : MV mX8_honey := ⟨tb_t 1046 (by decide +kernel) (by decide +kernel), tb_t 1047 (by decide +kernel) (by decide +kernel)⟩
abbrev mX8_bits : MI := (yX8_bits, cX8_bits, 3, some .int)
theorem ok_X8_bits : MOK mX8_bits 1 := ⟨tb_t 1052 (by decide +kernel) (by decide +kernel), tb_t 11 (by decide +kernel) (by decide +kernel), ⟨by decide +kernel, by decide +kernel, by decide +kernel⟩, by decide⟩
theorem st_X8_bits : Cond.static yX8_bits ∈ TB := tb_t 1051 (by decide +kernel) (by decide +kernel)
abbrev mX8_filedSet : MI := (yX8_filedSet, cX8_filedSet, 4, some .int)
theorem ok_X8_filedSet : MOK mX8_filedSet 1 := ⟨tb_t 1056 (by decide +kernel) (by decide +kernel), tb_t 11 (by decide +kernel) (by decide +kernel), ⟨by decide +kernel, by decide +kernel, by decide +kernel⟩, by decide⟩
theorem mv_X8_filedSet : MV mX8_filedSet := ⟨tb_t 1055 (by decide +kernel) (by decide +kernel), tb_p 48 (by decide +kernel) (by decide +kernel)⟩
abbrev mX8_gives : MI := (yX8_gives, cX8_gives, 9, some .int)
theorem ok_X8_gives : MOK mX8_gives 3 := ⟨tb_t 1060 (by decide +kernel) (by decide +kernel), tb_t 11 (by decide +kernel) (by decide +kernel), ⟨by decide +kernel, by decide +kernel, by decide +kernel⟩, by decide⟩
theorem mv_X8_gives : MV mX8_gives := ⟨tb_t 1059 (by decide +kernel) (by decide +kernel), tb_p 49 (by decide +kernel) (by decide +kernel)⟩
abbrev mX8_has : MI := (yX8_has, cX8_has, 2, some .boolean)
theorem ok_X8_has : MOK mX8_has 2 := ⟨tb_t 1063 (by decide +kernel) (by decide +kernel), tb_t 11 (by decide +kernel) (by decide +kernel), ⟨by decide +kernel, by decide +kernel, by decide +kernel⟩, by decide⟩
theorem st_X8_has : Cond.static yX8_has ∈ TB := tb_t 1062 (by decide +kernel) (by decide +kernel)
abbrev mX8_gets : MI := (yX8_gets, cX8_gets, 5, some .int)
theorem ok_X8_gets : MOK mX8_gets 3 := ⟨tb_t 1066 (by decide +kernel) (by decide +kernel), tb_t 11 (by decide +kernel) (by decide +kernel), ⟨by decide +kernel, by decide +kernel, by decide +kernel⟩, by decide⟩
theorem st_X8_gets : Cond.static yX8_gets ∈ TB := tb_t 1065 (by decide +kernel) (by decide +kernel)
abbrev mX8_smear : MI := (yX8_smear, cX8_smear, 8, some .int)
theorem ok_X8_smear : MOK mX8_smear 3 := ⟨tb_t 1070 (by decide +kernel) (by decide +kernel), tb_t 11 (by decide +kernel) (by decide +kernel), ⟨by decide +kernel, by decide +kernel, by decide +kernel⟩, by decide⟩
theorem mv_X8_smear : MV mX8_smear := ⟨tb_t 1068 (by decide +kernel) (by decide +kernel), tb_t 1069 (by decide +kernel) (by decide +kernel)⟩
abbrev mX8_quiet : MI := (yX8_quiet, cX8_quiet, 5, some .int)
theorem ok_X8_quiet : MOK mX8_quiet 2 := ⟨tb_t 1075 (by decide +kernel) (by decide +kernel), tb_t 11 (by decide +kernel) (by decide +kernel), ⟨by decide +kernel, by decide +kernel, by decide +kernel⟩, by decide⟩
theorem mv_X8_quiet : MV mX8_quiet := ⟨tb_t 1073 (by decide +kernel) (by decide +kernel), tb_t 1074 (by decide +kernel) (by decide +kernel)⟩
abbrev mX8_harm : MI := (yX8_harm, cX8_harm, 3, some .int)
theorem ok_X8_harm : MOK mX8_harm 2 := ⟨tb_t 1079 (by decide +kernel) (by decide +kernel), tb_t 11 (by decide +kernel) (by decide +kernel), ⟨by decide +kernel, by decide +kernel, by decide +kernel⟩, by decide⟩
theorem mv_X8_harm : MV mX8_harm := ⟨tb_t 1077 (by decide +kernel) (by decide +kernel), tb_t 1078 (by decide +kernel) (by decide +kernel)⟩
abbrev mX8_harmOf : MI := (yX8_harmOf, cX8_harmOf, 3, some .int)
theorem ok_X8_harmOf : MOK mX8_harmOf 2 := ⟨tb_t 1083 (by decide +kernel) (by decide +kernel), tb_t 11 (by decide +kernel) (by decide +kernel), ⟨by decide +kernel, by decide +kernel, by decide +kernel⟩, by decide⟩
theorem mv_X8_harmOf : MV mX8_harmOf := ⟨tb_t 1082 (by decide +kernel) (by decide +kernel), tb_p 50 (by decide +kernel) (by decide +kernel)⟩
abbrev mX8_filedBy : MI := (yX8_filedBy, cX8_filedBy, 3, some .int)
theorem ok_X8_filedBy : MOK mX8_filedBy 2 := ⟨tb_t 1087 (by decide +kernel) (by decide +kernel), tb_t 11 (by decide +kernel) (by decide +kernel), ⟨by decide +kernel, by decide +kernel, by decide +kernel⟩, by decide⟩
theorem mv_X8_filedBy : MV mX8_filedBy := ⟨tb_t 1086 (by decide +kernel) (by decide +kernel), tb_p 51 (by decide +kernel) (by decide +kernel)⟩
abbrev mX8_worst : MI := (yX8_worst, cX8_worst, 4, some .int)
theorem ok_X8_worst : MOK mX8_worst 1 := ⟨tb_t 1091 (by decide +kernel) (by decide +kernel), tb_t 11 (by decide +kernel) (by decide +kernel), ⟨by decide +kernel, by decide +kernel, by decide +kernel⟩, by decide⟩
theorem mv_X8_worst : MV mX8_worst := ⟨tb_t 1089 (by decide +kernel) (by decide +kernel), tb_t 1090 (by decide +kernel) (by decide +kernel)⟩
abbrev mX8_seen : MI := (yX8_seen, cX8_seen, 4, some .int)
theorem ok_X8_seen : MOK mX8_seen 3 := ⟨tb_t 1095 (by decide +kernel) (by decide +kernel), tb_t 11 (by decide +kernel) (by decide +kernel), ⟨by decide +kernel, by decide +kernel, by decide +kernel⟩, by decide⟩
theorem mv_X8_seen : MV mX8_seen := ⟨tb_t 1093 (by decide +kernel) (by decide +kernel), tb_t 1094 (by decide +kernel) (by decide +kernel)⟩
abbrev mX8_forget : MI := (yX8_forget, cX8_forget, 2, some .int)
theorem ok_X8_forget : MOK mX8_forget 0 := ⟨tb_t 1099 (by decide +kernel) (by decide +kernel), tb_t 11 (by decide +kernel) (by decide +kernel), ⟨by decide +kernel, by decide +kernel, by decide +kernel⟩, by decide⟩
theorem mv_X8_forget : MV mX8_forget := ⟨tb_t 1097 (by decide +kernel) (by decide +kernel), tb_t 1098 (by decide +kernel) (by decide +kernel)⟩
abbrev mX8_stamps : MI := (yX8_stamps, cX8_stamps, 4, some .int)
theorem ok_X8_stamps : MOK mX8_stamps 1 := ⟨tb_t 1103 (by decide +kernel) (by decide +kernel), tb_t 11 (by decide +kernel) (by decide +kernel), ⟨by decide +kernel, by decide +kernel, by decide +kernel⟩, by decide⟩
theorem mv_X8_stamps : MV mX8_stamps := ⟨tb_t 1101 (by decide +kernel) (by decide +kernel), tb_t 1102 (by decide +kernel) (by decide +kernel)⟩
abbrev mX8_isSoBy : MI := (yX8_isSoBy, cX8_isSoBy, 7, some .boolean)
theorem ok_X8_isSoBy : MOK mX8_isSoBy 2 := ⟨tb_t 1107 (by decide +kernel) (by decide +kernel), tb_t 11 (by decide +kernel) (by decide +kernel), ⟨by decide +kernel, by decide +kernel, by decide +kernel⟩, by decide⟩
theorem mv_X8_isSoBy : MV mX8_isSoBy := ⟨tb_t 1106 (by decide +kernel) (by decide +kernel), tb_p 52 (by decide +kernel) (by decide +kernel)⟩
abbrev mX8_crumbs : MI := (yX8_crumbs, cX8_crumbs, 4, some .int)
theorem ok_X8_crumbs : MOK mX8_crumbs 2 := ⟨tb_t 1111 (by decide +kernel) (by decide +kernel), tb_t 11 (by decide +kernel) (by decide +kernel), ⟨by decide +kernel, by decide +kernel, by decide +kernel⟩, by decide⟩
theorem mv_X8_crumbs : MV mX8_crumbs := ⟨tb_t 1109 (by decide +kernel) (by decide +kernel), tb_t 1110 (by decide +kernel) (by decide +kernel)⟩
abbrev mX8_odds : MI := (yX8_odds, cX8_odds, 7, some .int)
theorem ok_X8_odds : MOK mX8_odds 2 := ⟨tb_t 1115 (by decide +kernel) (by decide +kernel), tb_t 11 (by decide +kernel) (by decide +kernel), ⟨by decide +kernel, by decide +kernel, by decide +kernel⟩, by decide⟩
theorem mv_X8_odds : MV mX8_odds := ⟨tb_t 1113 (by decide +kernel) (by decide +kernel), tb_t 1114 (by decide +kernel) (by decide +kernel)⟩
abbrev mX8_count : MI := (yX8_count, cX8_count, 2, some .int)
theorem ok_X8_count : MOK mX8_count 1 := ⟨tb_t 1119 (by decide +kernel) (by decide +kernel), tb_t 11 (by decide +kernel) (by decide +kernel), ⟨by decide +kernel, by decide +kernel, by decide +kernel⟩, by decide⟩
theorem mv_X8_count : MV mX8_count := ⟨tb_t 1117 (by decide +kernel) (by decide +kernel), tb_t 1118 (by decide +kernel) (by decide +kernel)⟩
theorem ml_RX7_18 : Cond.methodLink RX7 18 yX6_init ∈ TB := tb_t 44 (by decide +kernel) (by decide +kernel)
theorem ml_RX7_25 : Cond.methodLink RX7 25 yX3_init ∈ TB := tb_t 124 (by decide +kernel) (by decide +kernel)
theorem ml_RX7_39 : Cond.methodLink RX7 39 yX0_begin ∈ TB := tb_t 210 (by decide +kernel) (by decide +kernel)
theorem ml_RX7_53 : Cond.methodLink RX7 53 yX2_init ∈ TB := tb_t 221 (by decide +kernel) (by decide +kernel)
theorem ml_RX7_80 : Cond.methodLink RX7 80 yX5_append ∈ TB := tb_t 316 (by decide +kernel) (by decide +kernel)
theorem ml_RX7_84 : Cond.methodLink RX7 84 yX5_clear ∈ TB := tb_t 324 (by decide +kernel) (by decide +kernel)
theorem ml_RX7_88 : Cond.methodLink RX7 88 yX3_readOn ∈ TB := tb_t 332 (by decide +kernel) (by decide +kernel)
theorem ml_RX7_97 : Cond.methodLink RX7 97 yX6_takeFrom ∈ TB := tb_t 470 (by decide +kernel) (by decide +kernel)
theorem ml_RX7_100 : Cond.methodLink RX7 100 yX4_clear ∈ TB := tb_t 471 (by decide +kernel) (by decide +kernel)
theorem ml_RX7_101 : Cond.methodLink RX7 101 yX1_clear ∈ TB := tb_t 475 (by decide +kernel) (by decide +kernel)
theorem ml_RX7_106 : Cond.methodLink RX7 106 yX7_isDesk ∈ TB := tb_t 484 (by decide +kernel) (by decide +kernel)
theorem ml_RX7_117 : Cond.methodLink RX7 117 yX0_filesAt ∈ TB := tb_t 488 (by decide +kernel) (by decide +kernel)
theorem ml_RX7_121 : Cond.methodLink RX7 121 yX6_trailsOf ∈ TB := tb_t 492 (by decide +kernel) (by decide +kernel)
theorem ml_RX7_125 : Cond.methodLink RX7 125 yX7_isTrail ∈ TB := tb_t 504 (by decide +kernel) (by decide +kernel)
theorem ml_RX7_137 : Cond.methodLink RX7 137 yX7_isFile ∈ TB := tb_t 512 (by decide +kernel) (by decide +kernel)
theorem ml_RX7_155 : Cond.methodLink RX7 155 yX6_isA ∈ TB := tb_t 520 (by decide +kernel) (by decide +kernel)
theorem ml_RX7_159 : Cond.methodLink RX7 159 yX6_sweetnessBehind ∈ TB := tb_t 524 (by decide +kernel) (by decide +kernel)
theorem ml_RX7_165 : Cond.methodLink RX7 165 yX0_run ∈ TB := tb_t 538 (by decide +kernel) (by decide +kernel)
theorem ml_RX7_169 : Cond.methodLink RX7 169 yX0_choose ∈ TB := tb_t 590 (by decide +kernel) (by decide +kernel)
theorem ml_RX7_176 : Cond.methodLink RX7 176 yX0_isFiled ∈ TB := tb_t 599 (by decide +kernel) (by decide +kernel)
theorem ml_RX7_182 : Cond.methodLink RX7 182 yX0_halveScents ∈ TB := tb_t 604 (by decide +kernel) (by decide +kernel)
theorem ml_RX7_188 : Cond.methodLink RX7 188 yX0_takeFrom ∈ TB := tb_t 616 (by decide +kernel) (by decide +kernel)
theorem ml_RX7_191 : Cond.methodLink RX7 191 yX2_inMinutes ∈ TB := tb_t 628 (by decide +kernel) (by decide +kernel)
theorem ml_RX7_195 : Cond.methodLink RX7 195 yX2_minuteOfFiling ∈ TB := tb_t 638 (by decide +kernel) (by decide +kernel)
theorem ml_RX7_201 : Cond.methodLink RX7 201 yJ6_bitCount_0f7a4 ∈ TB := tb_t 650 (by decide +kernel) (by decide +kernel)
theorem ml_RX7_206 : Cond.methodLink RX7 206 yX2_leastHoney ∈ TB := tb_t 660 (by decide +kernel) (by decide +kernel)
theorem ml_RX7_212 : Cond.methodLink RX7 212 yX2_findSmear ∈ TB := tb_t 692 (by decide +kernel) (by decide +kernel)
theorem ml_RX7_219 : Cond.methodLink RX7 219 yX2_fewestTrails ∈ TB := tb_t 700 (by decide +kernel) (by decide +kernel)
theorem ml_RX7_223 : Cond.methodLink RX7 223 yX2_filesFiled ∈ TB := tb_t 705 (by decide +kernel) (by decide +kernel)
theorem ml_RX7_226 : Cond.methodLink RX7 226 yX2_worstDesk ∈ TB := tb_t 714 (by decide +kernel) (by decide +kernel)
theorem ml_RX7_232 : Cond.methodLink RX7 232 yX4_add ∈ TB := tb_t 723 (by decide +kernel) (by decide +kernel)
theorem ml_RX7_236 : Cond.methodLink RX7 236 yX2_stampsBy ∈ TB := tb_t 735 (by decide +kernel) (by decide +kernel)
theorem ml_RX7_241 : Cond.methodLink RX7 241 yX1_sum ∈ TB := tb_t 762 (by decide +kernel) (by decide +kernel)
theorem ml_RX7_244 : Cond.methodLink RX7 244 yX1_commonDivisor ∈ TB := tb_t 766 (by decide +kernel) (by decide +kernel)
theorem ml_RX0_60 : Cond.methodLink RX0 60 yJ7_fill_53178 ∈ TB := tb_t 217 (by decide +kernel) (by decide +kernel)
theorem ml_RX0_66 : Cond.methodLink RX0 66 yX0_passMinute ∈ TB := tb_t 542 (by decide +kernel) (by decide +kernel)
theorem ml_RX0_70 : Cond.methodLink RX0 70 yX0_choose ∈ TB := tb_t 546 (by decide +kernel) (by decide +kernel)
theorem ml_RX0_73 : Cond.methodLink RX0 73 yX0_leaveScent ∈ TB := tb_t 567 (by decide +kernel) (by decide +kernel)
theorem ml_RX0_77 : Cond.methodLink RX0 77 yX0_fadeScents ∈ TB := tb_t 572 (by decide +kernel) (by decide +kernel)
theorem ml_RX0_80 : Cond.methodLink RX0 80 yX0_arrive ∈ TB := tb_t 577 (by decide +kernel) (by decide +kernel)
theorem ml_RX0_83 : Cond.methodLink RX0 83 yX0_findSweetest ∈ TB := tb_t 550 (by decide +kernel) (by decide +kernel)
theorem ml_RX0_89 : Cond.methodLink RX0 89 yX0_letsGo ∈ TB := tb_t 558 (by decide +kernel) (by decide +kernel)
theorem ml_RX0_93 : Cond.methodLink RX0 93 yX0_wayFrom ∈ TB := tb_t 562 (by decide +kernel) (by decide +kernel)
theorem ml_RX0_103 : Cond.methodLink RX0 103 yX0_isFiled ∈ TB := tb_t 554 (by decide +kernel) (by decide +kernel)
theorem ml_RX0_110 : Cond.methodLink RX0 110 yX6_isOf ∈ TB := tb_t 566 (by decide +kernel) (by decide +kernel)
theorem ml_RX0_114 : Cond.methodLink RX0 114 yJ9_min_7cf53 ∈ TB := tb_t 571 (by decide +kernel) (by decide +kernel)
theorem ml_RX0_123 : Cond.methodLink RX0 123 yJ9_max_7cf53 ∈ TB := tb_t 576 (by decide +kernel) (by decide +kernel)
theorem ml_RX0_126 : Cond.methodLink RX0 126 yX6_across ∈ TB := tb_t 581 (by decide +kernel) (by decide +kernel)
theorem ml_RX0_129 : Cond.methodLink RX0 129 yX6_sweetnessBehind ∈ TB := tb_t 585 (by decide +kernel) (by decide +kernel)
theorem ml_RX1_15 : Cond.methodLink RX1 15 yJ7_fill_53178 ∈ TB := tb_t 479 (by decide +kernel) (by decide +kernel)
theorem ml_RX2_38 : Cond.methodLink RX2 38 yX0_takeFrom ∈ TB := tb_t 632 (by decide +kernel) (by decide +kernel)
theorem ml_RX2_42 : Cond.methodLink RX2 42 yX0_run ∈ TB := tb_t 633 (by decide +kernel) (by decide +kernel)
theorem ml_RX2_46 : Cond.methodLink RX2 46 yX0_runUntilFiled ∈ TB := tb_t 642 (by decide +kernel) (by decide +kernel)
theorem ml_RX2_59 : Cond.methodLink RX2 59 yX2_mayBeInTime ∈ TB := tb_t 664 (by decide +kernel) (by decide +kernel)
theorem ml_RX2_63 : Cond.methodLink RX2 63 yX2_spreads ∈ TB := tb_t 678 (by decide +kernel) (by decide +kernel)
theorem ml_RX2_73 : Cond.methodLink RX2 73 yX2_fewestTrails ∈ TB := tb_t 668 (by decide +kernel) (by decide +kernel)
theorem ml_RX2_80 : Cond.methodLink RX2 80 yX2_giveShares ∈ TB := tb_t 682 (by decide +kernel) (by decide +kernel)
theorem ml_RX2_87 : Cond.methodLink RX2 87 yJ9_min_7cf53 ∈ TB := tb_t 686 (by decide +kernel) (by decide +kernel)
theorem ml_RX2_93 : Cond.methodLink RX2 93 yJ9_max_7cf53 ∈ TB := tb_t 687 (by decide +kernel) (by decide +kernel)
theorem ml_RX2_96 : Cond.methodLink RX2 96 yJ7_fill_53178 ∈ TB := tb_t 672 (by decide +kernel) (by decide +kernel)
theorem ml_RX2_120 : Cond.methodLink RX2 120 yX2_stepOver ∈ TB := tb_t 673 (by decide +kernel) (by decide +kernel)
theorem ml_RX2_124 : Cond.methodLink RX2 124 yX0_letsGo ∈ TB := tb_t 677 (by decide +kernel) (by decide +kernel)
theorem ml_RX2_134 : Cond.methodLink RX2 134 yJ6_bitCount_0f7a4 ∈ TB := tb_t 709 (by decide +kernel) (by decide +kernel)
theorem ml_RX2_140 : Cond.methodLink RX2 140 yX2_filesFiled ∈ TB := tb_t 718 (by decide +kernel) (by decide +kernel)
theorem ml_RX2_143 : Cond.methodLink RX2 143 yX0_begin ∈ TB := tb_t 739 (by decide +kernel) (by decide +kernel)
theorem ml_RX2_147 : Cond.methodLink RX2 147 yX2_agreesWith ∈ TB := tb_t 740 (by decide +kernel) (by decide +kernel)
theorem ml_RX2_151 : Cond.methodLink RX2 151 yX4_lastOf ∈ TB := tb_t 744 (by decide +kernel) (by decide +kernel)
theorem ml_RX2_156 : Cond.methodLink RX2 156 yX4_allow ∈ TB := tb_t 749 (by decide +kernel) (by decide +kernel)
theorem ml_RX2_160 : Cond.methodLink RX2 160 yX0_passMinute ∈ TB := tb_t 753 (by decide +kernel) (by decide +kernel)
theorem ml_RX3_11 : Cond.methodLink RX3 11 yX6_init ∈ TB := tb_t 129 (by decide +kernel) (by decide +kernel)
theorem ml_RX3_22 : Cond.methodLink RX3 22 yX6_takeFrom ∈ TB := tb_t 336 (by decide +kernel) (by decide +kernel)
theorem ml_RX3_33 : Cond.methodLink RX3 33 yX3_readLine ∈ TB := tb_t 341 (by decide +kernel) (by decide +kernel)
theorem ml_RX3_40 : Cond.methodLink RX3 40 yX3_takeToken ∈ TB := tb_t 345 (by decide +kernel) (by decide +kernel)
theorem ml_RX3_51 : Cond.methodLink RX3 51 yX5_at ∈ TB := tb_t 349 (by decide +kernel) (by decide +kernel)
theorem ml_RX3_55 : Cond.methodLink RX3 55 yX3_refuseToken ∈ TB := tb_t 420 (by decide +kernel) (by decide +kernel)
theorem ml_RX3_60 : Cond.methodLink RX3 60 yX3_tokenIs ∈ TB := tb_t 360 (by decide +kernel) (by decide +kernel)
theorem ml_RX3_64 : Cond.methodLink RX3 64 yX3_readOffice ∈ TB := tb_t 412 (by decide +kernel) (by decide +kernel)
theorem ml_RX3_69 : Cond.methodLink RX3 69 yX3_readKind ∈ TB := tb_t 426 (by decide +kernel) (by decide +kernel)
theorem ml_RX3_84 : Cond.methodLink RX3 84 yX3_readTrail ∈ TB := tb_t 434 (by decide +kernel) (by decide +kernel)
theorem ml_RX3_92 : Cond.methodLink RX3 92 yX3_readFile ∈ TB := tb_t 447 (by decide +kernel) (by decide +kernel)
theorem ml_RX3_97 : Cond.methodLink RX3 97 yX3_readFade ∈ TB := tb_t 456 (by decide +kernel) (by decide +kernel)
theorem ml_RX3_102 : Cond.methodLink RX3 102 yX3_readWinter ∈ TB := tb_t 461 (by decide +kernel) (by decide +kernel)
theorem ml_RX3_105 : Cond.methodLink RX3 105 yX3_readNumber ∈ TB := tb_t 416 (by decide +kernel) (by decide +kernel)
theorem ml_RX3_109 : Cond.methodLink RX3 109 yX6_becomeNew ∈ TB := tb_t 424 (by decide +kernel) (by decide +kernel)
theorem ml_RX3_120 : Cond.methodLink RX3 120 yX3_readDeskUnlike ∈ TB := tb_t 438 (by decide +kernel) (by decide +kernel)
theorem ml_RX3_123 : Cond.methodLink RX3 123 yX6_addTrail ∈ TB := tb_t 442 (by decide +kernel) (by decide +kernel)
theorem ml_RX3_127 : Cond.methodLink RX3 127 yX6_addFile ∈ TB := tb_t 451 (by decide +kernel) (by decide +kernel)
theorem ml_RX3_134 : Cond.methodLink RX3 134 yX3_isDigit ∈ TB := tb_t 356 (by decide +kernel) (by decide +kernel)
theorem ml_RX3_137 : Cond.methodLink RX3 137 yX3_isLetter ∈ TB := tb_t 353 (by decide +kernel) (by decide +kernel)
theorem ml_RX3_140 : Cond.methodLink RX3 140 yJ0_length_8abf5 ∈ TB := tb_t 364 (by decide +kernel) (by decide +kernel)
theorem ml_RX3_145 : Cond.methodLink RX3 145 yJ0_charAt_5068e ∈ TB := tb_t 374 (by decide +kernel) (by decide +kernel)
theorem ml_RX4_25 : Cond.methodLink RX4 25 yJ9_max_7cf53 ∈ TB := tb_t 748 (by decide +kernel) (by decide +kernel)
theorem ml_RX6_33 : Cond.methodLink RX6 33 yX6_becomeNew ∈ TB := tb_t 48 (by decide +kernel) (by decide +kernel)
theorem ml_RX6_53 : Cond.methodLink RX6 53 yJ7_fill_53178 ∈ TB := tb_t 52 (by decide +kernel) (by decide +kernel)
theorem ml_RX6_65 : Cond.methodLink RX6 65 yX6_isOf ∈ TB := tb_t 496 (by decide +kernel) (by decide +kernel)
theorem ml_RX6_69 : Cond.methodLink RX6 69 yJ9_max_7cf53 ∈ TB := tb_t 528 (by decide +kernel) (by decide +kernel)
theorem ml_RX6_75 : Cond.methodLink RX6 75 yJ9_min_7cf53 ∈ TB := tb_t 531 (by decide +kernel) (by decide +kernel)
theorem ml_RL_9 : Cond.methodLink RL 9 yX7_init ∈ TB := tb_t 20 (by decide +kernel) (by decide +kernel)
theorem ml_RL_12 : Cond.methodLink RL 12 yX8_init ∈ TB := tb_t 775 (by decide +kernel) (by decide +kernel)
theorem ml_RL_15 : Cond.methodLink RL 15 yX7_write ∈ TB := tb_t 311 (by decide +kernel) (by decide +kernel)
theorem ml_RL_19 : Cond.methodLink RL 19 yX8_write ∈ TB := tb_t 867 (by decide +kernel) (by decide +kernel)
theorem ml_RL_20 : Cond.methodLink RL 20 yX7_erase ∈ TB := tb_t 320 (by decide +kernel) (by decide +kernel)
theorem ml_RL_24 : Cond.methodLink RL 24 yX8_erase ∈ TB := tb_t 876 (by decide +kernel) (by decide +kernel)
theorem ml_RL_25 : Cond.methodLink RL 25 yX7_fault ∈ TB := tb_t 328 (by decide +kernel) (by decide +kernel)
theorem ml_RL_28 : Cond.methodLink RL 28 yX8_fault ∈ TB := tb_t 880 (by decide +kernel) (by decide +kernel)
theorem ml_RL_29 : Cond.methodLink RL 29 yX7_office ∈ TB := tb_t 466 (by decide +kernel) (by decide +kernel)
theorem ml_RL_32 : Cond.methodLink RL 32 yX8_office ∈ TB := tb_t 924 (by decide +kernel) (by decide +kernel)
theorem ml_RL_33 : Cond.methodLink RL 33 yX7_desk ∈ TB := tb_t 480 (by decide +kernel) (by decide +kernel)
theorem ml_RL_37 : Cond.methodLink RL 37 yX8_desk ∈ TB := tb_t 933 (by decide +kernel) (by decide +kernel)
theorem ml_RL_38 : Cond.methodLink RL 38 yX7_trail ∈ TB := tb_t 500 (by decide +kernel) (by decide +kernel)
theorem ml_RL_41 : Cond.methodLink RL 41 yX8_trail ∈ TB := tb_t 945 (by decide +kernel) (by decide +kernel)
theorem ml_RL_42 : Cond.methodLink RL 42 yX7_file ∈ TB := tb_t 508 (by decide +kernel) (by decide +kernel)
theorem ml_RL_45 : Cond.methodLink RL 45 yX8_file ∈ TB := tb_t 953 (by decide +kernel) (by decide +kernel)
theorem ml_RL_46 : Cond.methodLink RL 46 yX7_as ∈ TB := tb_t 516 (by decide +kernel) (by decide +kernel)
theorem ml_RL_49 : Cond.methodLink RL 49 yX8_as ∈ TB := tb_t 961 (by decide +kernel) (by decide +kernel)
theorem ml_RL_50 : Cond.methodLink RL 50 yX7_go ∈ TB := tb_t 534 (by decide +kernel) (by decide +kernel)
theorem ml_RL_54 : Cond.methodLink RL 54 yX8_go ∈ TB := tb_t 970 (by decide +kernel) (by decide +kernel)
theorem ml_RL_55 : Cond.methodLink RL 55 yX7_next ∈ TB := tb_t 586 (by decide +kernel) (by decide +kernel)
theorem ml_RL_58 : Cond.methodLink RL 58 yX8_next ∈ TB := tb_t 995 (by decide +kernel) (by decide +kernel)
theorem ml_RL_59 : Cond.methodLink RL 59 yX7_spill ∈ TB := tb_t 591 (by decide +kernel) (by decide +kernel)
theorem ml_RL_62 : Cond.methodLink RL 62 yX8_spill ∈ TB := tb_t 999 (by decide +kernel) (by decide +kernel)
theorem ml_RL_63 : Cond.methodLink RL 63 yX7_stamp ∈ TB := tb_t 595 (by decide +kernel) (by decide +kernel)
theorem ml_RL_66 : Cond.methodLink RL 66 yX8_stamp ∈ TB := tb_t 1003 (by decide +kernel) (by decide +kernel)
theorem ml_RL_67 : Cond.methodLink RL 67 yX7_rain ∈ TB := tb_t 600 (by decide +kernel) (by decide +kernel)
theorem ml_RL_70 : Cond.methodLink RL 70 yX8_rain ∈ TB := tb_t 1008 (by decide +kernel) (by decide +kernel)
theorem ml_RL_71 : Cond.methodLink RL 71 yX7_sit ∈ TB := tb_t 608 (by decide +kernel) (by decide +kernel)
theorem ml_RL_74 : Cond.methodLink RL 74 yX8_sit ∈ TB := tb_t 1012 (by decide +kernel) (by decide +kernel)
theorem ml_RL_75 : Cond.methodLink RL 75 yX7_keep ∈ TB := tb_t 612 (by decide +kernel) (by decide +kernel)
theorem ml_RL_78 : Cond.methodLink RL 78 yX8_keep ∈ TB := tb_t 1016 (by decide +kernel) (by decide +kernel)
theorem ml_RL_79 : Cond.methodLink RL 79 yX7_back ∈ TB := tb_t 620 (by decide +kernel) (by decide +kernel)
theorem ml_RL_82 : Cond.methodLink RL 82 yX8_back ∈ TB := tb_t 1020 (by decide +kernel) (by decide +kernel)
theorem ml_RL_83 : Cond.methodLink RL 83 yX7_later ∈ TB := tb_t 624 (by decide +kernel) (by decide +kernel)
theorem ml_RL_87 : Cond.methodLink RL 87 yX8_later ∈ TB := tb_t 1024 (by decide +kernel) (by decide +kernel)
theorem ml_RL_88 : Cond.methodLink RL 88 yX7_filed ∈ TB := tb_t 634 (by decide +kernel) (by decide +kernel)
theorem ml_RL_91 : Cond.methodLink RL 91 yX8_filed ∈ TB := tb_t 1033 (by decide +kernel) (by decide +kernel)
theorem ml_RL_92 : Cond.methodLink RL 92 yX7_queue ∈ TB := tb_t 646 (by decide +kernel) (by decide +kernel)
theorem ml_RL_95 : Cond.methodLink RL 95 yX8_queue ∈ TB := tb_t 1041 (by decide +kernel) (by decide +kernel)
theorem ml_RL_96 : Cond.methodLink RL 96 yX7_honey ∈ TB := tb_t 656 (by decide +kernel) (by decide +kernel)
theorem ml_RL_99 : Cond.methodLink RL 99 yX8_honey ∈ TB := tb_t 1045 (by decide +kernel) (by decide +kernel)
theorem ml_RL_100 : Cond.methodLink RL 100 yX7_smear ∈ TB := tb_t 688 (by decide +kernel) (by decide +kernel)
theorem ml_RL_103 : Cond.methodLink RL 103 yX8_smear ∈ TB := tb_t 1067 (by decide +kernel) (by decide +kernel)
theorem ml_RL_104 : Cond.methodLink RL 104 yX7_quiet ∈ TB := tb_t 696 (by decide +kernel) (by decide +kernel)
theorem ml_RL_107 : Cond.methodLink RL 107 yX8_quiet ∈ TB := tb_t 1072 (by decide +kernel) (by decide +kernel)
theorem ml_RL_108 : Cond.methodLink RL 108 yX7_harm ∈ TB := tb_t 701 (by decide +kernel) (by decide +kernel)
theorem ml_RL_111 : Cond.methodLink RL 111 yX8_harm ∈ TB := tb_t 1076 (by decide +kernel) (by decide +kernel)
theorem ml_RL_112 : Cond.methodLink RL 112 yX7_worst ∈ TB := tb_t 710 (by decide +kernel) (by decide +kernel)
theorem ml_RL_115 : Cond.methodLink RL 115 yX8_worst ∈ TB := tb_t 1088 (by decide +kernel) (by decide +kernel)
theorem ml_RL_116 : Cond.methodLink RL 116 yX7_seen ∈ TB := tb_t 719 (by decide +kernel) (by decide +kernel)
theorem ml_RL_119 : Cond.methodLink RL 119 yX8_seen ∈ TB := tb_t 1092 (by decide +kernel) (by decide +kernel)
theorem ml_RL_120 : Cond.methodLink RL 120 yX7_forget ∈ TB := tb_t 727 (by decide +kernel) (by decide +kernel)
theorem ml_RL_123 : Cond.methodLink RL 123 yX8_forget ∈ TB := tb_t 1096 (by decide +kernel) (by decide +kernel)
theorem ml_RL_124 : Cond.methodLink RL 124 yX7_stamps ∈ TB := tb_t 731 (by decide +kernel) (by decide +kernel)
theorem ml_RL_127 : Cond.methodLink RL 127 yX8_stamps ∈ TB := tb_t 1100 (by decide +kernel) (by decide +kernel)
theorem ml_RL_128 : Cond.methodLink RL 128 yX7_crumbs ∈ TB := tb_t 754 (by decide +kernel) (by decide +kernel)
theorem ml_RL_131 : Cond.methodLink RL 131 yX8_crumbs ∈ TB := tb_t 1108 (by decide +kernel) (by decide +kernel)
theorem ml_RL_132 : Cond.methodLink RL 132 yX7_odds ∈ TB := tb_t 758 (by decide +kernel) (by decide +kernel)
theorem ml_RL_135 : Cond.methodLink RL 135 yX8_odds ∈ TB := tb_t 1112 (by decide +kernel) (by decide +kernel)
theorem ml_RL_136 : Cond.methodLink RL 136 yX7_count ∈ TB := tb_t 769 (by decide +kernel) (by decide +kernel)
theorem ml_RL_139 : Cond.methodLink RL 139 yX8_count ∈ TB := tb_t 1116 (by decide +kernel) (by decide +kernel)
theorem ml_RX8_54 : Cond.methodLink RX8 54 yX8_clear ∈ TB := tb_t 779 (by decide +kernel) (by decide +kernel)
theorem ml_RX8_58 : Cond.methodLink RX8 58 yX8_begin ∈ TB := tb_t 783 (by decide +kernel) (by decide +kernel)
theorem ml_RX8_67 : Cond.methodLink RX8 67 yX8_copy ∈ TB := tb_t 787 (by decide +kernel) (by decide +kernel)
theorem ml_RX8_73 : Cond.methodLink RX8 73 yX8_in ∈ TB := tb_t 872 (by decide +kernel) (by decide +kernel)
theorem ml_RX8_88 : Cond.methodLink RX8 88 yX8_sort ∈ TB := tb_t 888 (by decide +kernel) (by decide +kernel)
theorem ml_RX8_96 : Cond.methodLink RX8 96 yX8_isWord ∈ TB := tb_t 904 (by decide +kernel) (by decide +kernel)
theorem ml_RX8_103 : Cond.methodLink RX8 103 yX8_deskWord ∈ TB := tb_t 899 (by decide +kernel) (by decide +kernel)
theorem ml_RX8_115 : Cond.methodLink RX8 115 yX8_token ∈ TB := tb_t 884 (by decide +kernel) (by decide +kernel)
theorem ml_RX8_121 : Cond.methodLink RX8 121 yX8_reads ∈ TB := tb_t 920 (by decide +kernel) (by decide +kernel)
theorem ml_RX8_125 : Cond.methodLink RX8 125 yX8_wordOf ∈ TB := tb_t 895 (by decide +kernel) (by decide +kernel)
theorem ml_RX8_134 : Cond.methodLink RX8 134 yX8_readsRest ∈ TB := tb_t 916 (by decide +kernel) (by decide +kernel)
theorem ml_RX8_138 : Cond.methodLink RX8 138 yX8_readsLine ∈ TB := tb_t 891 (by decide +kernel) (by decide +kernel)
theorem ml_RX8_142 : Cond.methodLink RX8 142 yX8_fault ∈ TB := tb_t 928 (by decide +kernel) (by decide +kernel)
theorem ml_RX8_145 : Cond.methodLink RX8 145 yX8_tell ∈ TB := tb_t 929 (by decide +kernel) (by decide +kernel)
theorem ml_RX8_151 : Cond.methodLink RX8 151 yX8_isDesk ∈ TB := tb_t 937 (by decide +kernel) (by decide +kernel)
theorem ml_RX8_154 : Cond.methodLink RX8 154 yX8_isOf ∈ TB := tb_t 941 (by decide +kernel) (by decide +kernel)
theorem ml_RX8_157 : Cond.methodLink RX8 157 yX8_isTrail ∈ TB := tb_t 949 (by decide +kernel) (by decide +kernel)
theorem ml_RX8_160 : Cond.methodLink RX8 160 yX8_isFile ∈ TB := tb_t 957 (by decide +kernel) (by decide +kernel)
theorem ml_RX8_165 : Cond.methodLink RX8 165 yX8_sweetAt ∈ TB := tb_t 966 (by decide +kernel) (by decide +kernel)
theorem ml_RX8_169 : Cond.methodLink RX8 169 yX8_sweetest ∈ TB := tb_t 983 (by decide +kernel) (by decide +kernel)
theorem ml_RX8_172 : Cond.methodLink RX8 172 yX8_strongest ∈ TB := tb_t 987 (by decide +kernel) (by decide +kernel)
theorem ml_RX8_176 : Cond.methodLink RX8 176 yX8_layCarried ∈ TB := tb_t 979 (by decide +kernel) (by decide +kernel)
theorem ml_RX8_179 : Cond.methodLink RX8 179 yX8_arrive ∈ TB := tb_t 991 (by decide +kernel) (by decide +kernel)
theorem ml_RX8_185 : Cond.methodLink RX8 185 yX8_minute ∈ TB := tb_t 975 (by decide +kernel) (by decide +kernel)
theorem ml_RX8_192 : Cond.methodLink RX8 192 yX8_tryFor ∈ TB := tb_t 1029 (by decide +kernel) (by decide +kernel)
theorem ml_RX8_195 : Cond.methodLink RX8 195 yX8_filedIn ∈ TB := tb_t 1037 (by decide +kernel) (by decide +kernel)
theorem ml_RX8_198 : Cond.methodLink RX8 198 yX8_has ∈ TB := tb_t 1061 (by decide +kernel) (by decide +kernel)
theorem ml_RX8_201 : Cond.methodLink RX8 201 yX8_bits ∈ TB := tb_t 1050 (by decide +kernel) (by decide +kernel)
theorem ml_RX8_204 : Cond.methodLink RX8 204 yX8_gets ∈ TB := tb_t 1064 (by decide +kernel) (by decide +kernel)
theorem ml_RX8_207 : Cond.methodLink RX8 207 yX8_filedSet ∈ TB := tb_t 1053 (by decide +kernel) (by decide +kernel)
theorem ml_RX8_212 : Cond.methodLink RX8 212 yX8_gives ∈ TB := tb_t 1057 (by decide +kernel) (by decide +kernel)
theorem ml_RX8_216 : Cond.methodLink RX8 216 yX8_filedBy ∈ TB := tb_t 1084 (by decide +kernel) (by decide +kernel)
theorem ml_RX8_219 : Cond.methodLink RX8 219 yX8_harmOf ∈ TB := tb_t 1080 (by decide +kernel) (by decide +kernel)
theorem ml_RX8_222 : Cond.methodLink RX8 222 yX8_isSoBy ∈ TB := tb_t 1104 (by decide +kernel) (by decide +kernel)
theorem ml_RJ0_335 : Cond.methodLink RJ0 335 yJ0_coder_7d493 ∈ TB := tb_t 368 (by decide +kernel) (by decide +kernel)
theorem ml_RJ0_492 : Cond.methodLink RJ0 492 yJ0_isLatin1_aae02 ∈ TB := tb_t 378 (by decide +kernel) (by decide +kernel)
theorem ml_RJ0_495 : Cond.methodLink RJ0 495 yJ1_charAt_3b067 ∈ TB := tb_t 382 (by decide +kernel) (by decide +kernel)
theorem ml_RJ0_498 : Cond.methodLink RJ0 498 yJ2_charAt_3b067 ∈ TB := tb_t 393 (by decide +kernel) (by decide +kernel)
theorem ml_RJ0_1059 : Cond.methodLink RJ0 1059 yJ3_checkIndex_8e157 ∈ TB := tb_t 390 (by decide +kernel) (by decide +kernel)
theorem ml_RJ1_9 : Cond.methodLink RJ1 9 yJ0_checkIndex_df160 ∈ TB := tb_t 385 (by decide +kernel) (by decide +kernel)
theorem ml_RJ2_48 : Cond.methodLink RJ2 48 yJ2_length_9d52b ∈ TB := tb_t 399 (by decide +kernel) (by decide +kernel)
theorem ml_RJ2_67 : Cond.methodLink RJ2 67 yJ2_checkIndex_2214a ∈ TB := tb_t 396 (by decide +kernel) (by decide +kernel)
theorem ml_RJ2_71 : Cond.methodLink RJ2 71 yJ2_getChar_3b067 ∈ TB := tb_t 403 (by decide +kernel) (by decide +kernel)
theorem ml_RJ2_414 : Cond.methodLink RJ2 414 yJ0_checkIndex_df160 ∈ TB := tb_t 402 (by decide +kernel) (by decide +kernel)
end
section
/-! A LAYER OVER THE KIT: the world is a fixed shape (cells by number) and one memory of numbers; a frame is a list of values; AW is the kit's W over these. -/
def i32 (z : Int) : Int32 := Int32.ofInt z
def i64 (z : Int) : Int64 := Int64.ofInt z
abbrev rng (z : Int) : Prop := -2147483648 ≤ z ∧ z ≤ 2147483647
abbrev rngL (z : Int) : Prop := -9223372036854775808 ≤ z ∧ z ≤ 9223372036854775807
theorem i32_toInt {z : Int} (h : rng z) : (i32 z).toInt = z := by
  exact Int32.toInt_ofInt_of_le (by have := h.1; omega) (by have := h.2; omega)
theorem i64_toInt {z : Int} (h : rngL z) : (i64 z).toInt = z := by
  exact Int64.toInt_ofInt_of_le (by have := h.1; omega) (by have := h.2; omega)
theorem i32_of (x : Int32) : i32 x.toInt = x := by unfold i32; exact Int32.ofInt_toInt x
theorem i64_of (x : Int64) : i64 x.toInt = x := by unfold i64; exact Int64.ofInt_toInt x
theorem rng_toInt (x : Int32) : rng x.toInt := ⟨by have := Int32.le_toInt x; omega, by have := Int32.toInt_lt x; omega⟩
theorem i32_lt {a b : Int} (ha : rng a) (hb : rng b) : i32 a < i32 b ↔ a < b := by rw [Int32.lt_iff_toInt_lt, i32_toInt ha, i32_toInt hb]
theorem i32_le {a b : Int} (ha : rng a) (hb : rng b) : i32 a ≤ i32 b ↔ a ≤ b := by rw [Int32.le_iff_toInt_le, i32_toInt ha, i32_toInt hb]
theorem i32_eq {a b : Int} (ha : rng a) (hb : rng b) : i32 a = i32 b ↔ a = b := by
  constructor
  · intro h
    have := congrArg Int32.toInt h
    rwa [i32_toInt ha, i32_toInt hb] at this
  · intro h; rw [h]
theorem i32_add (a b : Int) : i32 a + i32 b = i32 (a + b) := by
  apply Int32.toInt_inj.mp
  simp [i32, Int32.toInt_add, Int32.toInt_ofInt]
theorem i32_sub (a b : Int) : i32 a - i32 b = i32 (a - b) := by
  apply Int32.toInt_inj.mp
  simp [i32, Int32.toInt_sub, Int32.toInt_ofInt]
theorem i32_mul (a b : Int) : i32 a * i32 b = i32 (a * b) := by
  apply Int32.toInt_inj.mp
  simp [i32, Int32.toInt_mul, Int32.toInt_ofInt]
theorem i32_div {a b : Int} (ha : rng a) (hb : rng b) (hr : rng (a.tdiv b)) : i32 a / i32 b = i32 (a.tdiv b) := by
  apply Int32.toInt_inj.mp
  rw [Int32.toInt_div, i32_toInt ha, i32_toInt hb, i32_toInt hr]
  exact Int.bmod_eq_of_le (by have := hr.1; omega) (by have := hr.2; omega)
theorem i32_rem {a b : Int} (ha : rng a) (hb : rng b) (hr : rng (a.tdiv b)) : i32 a - i32 a / i32 b * i32 b = i32 (a.tmod b) := by
  rw [i32_div ha hb hr, i32_mul, i32_sub]
  congr 1
  have := Int.tmod_add_mul_tdiv a b
  rw [Int.mul_comm (a.tdiv b) b]
  omega
theorem i32_clamp {z : Int} (h0 : 0 ≤ z) (h : rng z) : (i32 z).toNatClampNeg = z.toNat := by
  show (i32 z).toInt.toNat = z.toNat
  rw [i32_toInt h]
theorem i32_nn {z : Int} (h0 : 0 ≤ z) (h : rng z) : ¬ i32 z < 0 := by
  rw [show (0 : Int32) = i32 0 from rfl, i32_lt h ⟨by omega, by omega⟩]; omega
theorem i32_in {z : Int} {n : Nat} (h0 : 0 ≤ z) (h1 : z < n) (h : rng z) : vp_in (i32 z) n := by
  rintro (q | q)
  · exact i32_nn h0 h q
  · rw [i32_clamp h0 h] at q; omega
/-! values: int, cell, long, outer object (a constant text, the script), unset -/
abbrev AV : Type := Int ⊕ (Nat ⊕ (Int ⊕ (Nat ⊕ Unit)))
abbrev vI (z : Int) : AV := .inl z
abbrev vR (c : Nat) : AV := .inr (.inl c)
abbrev vL (z : Int) : AV := .inr (.inr (.inl z))
abbrev vS (k : Nat) : AV := .inr (.inr (.inr (.inl k)))
abbrev vU : AV := .inr (.inr (.inr (.inr ())))
def okv (v : AV) : Prop := match v with
  | .inl z => rng z
  | .inr (.inr (.inl z)) => rngL z
  | _ => True
abbrev Mem : Type := Nat → Int → Int
def okM (M : Mem) : Prop := ∀ c k, rng (M c k)
def upm (M : Mem) (c : Nat) (k v : Int) : Mem := fun c' k' => if c' = c ∧ k' = k then v else M c' k'
theorem upm_s (M : Mem) (c : Nat) (k v : Int) : upm M c k v c k = v := by simp [upm]
theorem upm_c {M : Mem} {c c' : Nat} {k v : Int} (h : c' ≠ c) : upm M c k v c' = M c' := by funext k'; simp [upm, h]
theorem upm_k {M : Mem} {c : Nat} {k k' v : Int} (h : k' ≠ k) : upm M c k v c k' = M c k' := by simp [upm, h]
theorem okM_upm {M : Mem} {c : Nat} {k v : Int} (h : okM M) (hv : rng v) : okM (upm M c k v) := by
  intro c' k'
  unfold upm
  split
  · exact hv
  · exact h c' k'
/-! the shape: an object (its class's place, its fields: a number, or null or a cell), or an array (0 int, 1 boolean, 2 cells; its length; its cells) -/
abbrev Shp : Type := (Nat × List (Option (Option Nat))) ⊕ (Nat × Nat × (Nat → Option Nat))
/-- classes and slots; addresses of the cells; of the outer objects; the array classes; how many cells; the shape -/
abbrev EN : Type := va_G × (Nat → Nat) × (Nat → Nat) × (ClassId × ClassId × ClassId) × Nat × (Nat → Shp)
abbrev eD (E : EN) : va_G := E.1
abbrev eAd (E : EN) : Nat → Nat := E.2.1
abbrev eSa (E : EN) : Nat → Nat := E.2.2.1
abbrev eCs (E : EN) : ClassId × ClassId × ClassId := E.2.2.2.1
abbrev eN (E : EN) : Nat := E.2.2.2.2.1
abbrev eSh (E : EN) : Nat → Shp := E.2.2.2.2.2
def eTy (E : EN) : List (ClassId × FieldType) := [((eCs E).1, .int), ((eCs E).2.1, .boolean), ((eCs E).2.2, .object RX0)]
def cval (E : EN) (v : AV) : Value := match v with
  | .inl z => .int (i32 z)
  | .inr (.inl c) => .ref (eAd E c)
  | .inr (.inr (.inl z)) => .long (i64 z)
  | .inr (.inr (.inr (.inl k))) => .ref (eSa E k)
  | .inr (.inr (.inr (.inr _))) => .null
def fval (E : EN) (M : Mem) (c k : Nat) (o : Option (Option Nat)) : Value := match o with
  | none => .int (i32 (M c k))
  | some none => .null
  | some (some j) => .ref (eAd E j)
def ccell (E : EN) (M : Mem) (c : Nat) : va_E := match eSh E c with
  | .inl (ci, fs) => .inr (ci, fs.mapIdx (fun k o => fval E M c k o))
  | .inr (0, n, _) => .inl ((eCs E).1, n, .inl (fun k => i32 (M c k)))
  | .inr (1, n, _) => .inl ((eCs E).2.1, n, .inl (fun k => i32 (M c k)))
  | .inr (_, n, g) => .inl ((eCs E).2.2, n, .inr (.inr (.inr (.inr (fun k => (g k).map (eAd E))))))
def WS (E : EN) (M : Mem) : va_W := (List.range (eN E)).map (fun c => (eAd E c, ccell E M c))
theorem WS_at {E : EN} {M : Mem} {c : Nat} (h : c < eN E) : (WS E M)[c]? = some (eAd E c, ccell E M c) := by
  simp [WS, h]
theorem WS_of {E : EN} {M : Mem} {k : Nat} {q : Nat × va_E} (h : (WS E M)[k]? = some q) : k < eN E ∧ q = (eAd E k, ccell E M k) := by
  unfold WS at h
  rw [List.getElem?_map] at h
  by_cases hk : k < eN E
  · rw [List.getElem?_range hk] at h
    exact ⟨hk, (Option.some.inj h).symm⟩
  · rw [List.getElem?_eq_none (by simp; omega)] at h
    cases h
/-- the cells' addresses differ, and are of a kind -/
def eDj (E : EN) (A : Nat → Prop) : Prop := (∀ i j, i < eN E → j < eN E → eAd E i = eAd E j → i = j) ∧ ∀ i, i < eN E → A (eAd E i)
theorem eDj.D {E : EN} {A : Nat → Prop} (h : eDj E A) (M : Mem) : va_D A (WS E M) := by
  refine ⟨fun i j p q hi hj hpq => ?_, fun k q hk => ?_⟩
  · obtain ⟨h1, rfl⟩ := WS_of hi
    obtain ⟨h2, rfl⟩ := WS_of hj
    exact h.1 i j h1 h2 hpq
  · obtain ⟨h1, rfl⟩ := WS_of hk
    exact h.2 k h1
theorem WS_set {E : EN} {M : Mem} {c : Nat} {k v : Int} {x : va_E} (hc : c < eN E) (hx : x = ccell E (upm M c k v) c) : (WS E M).set c (eAd E c, x) = WS E (upm M c k v) := by
  subst hx
  apply List.ext_getElem?
  intro i
  by_cases hi : i < eN E
  · rw [WS_at hi, List.getElem?_set]
    by_cases hci : c = i
    · subst hci
      simp [WS, hc]
    · rw [if_neg hci, WS_at hi]
      have : ccell E (upm M c k v) i = ccell E M i := by
        unfold ccell fval
        have e : upm M c k v i = M i := upm_c (fun h => hci h.symm)
        rw [e]
      rw [this]
  · rw [List.getElem?_eq_none (by simp [WS]; omega), List.getElem?_eq_none (by simp [WS]; omega)]
def eA (E : EN) : Nat → Prop := fun q => ∃ i, i < eN E ∧ q = eAd E i
/-! constant texts -/
def tLen : List Nat := [6, 5, 5, 6, 6, 5, 4, 4, 6]
def tTxt : List String := ["office", "plain", "licks", "stamps", "cellar", "trail", "file", "fade", "winter"]
end
section
/-! AW: the kit's W over the shape and the memory -/
def tIdx : List Nat := [58, 67, 73, 75, 77, 79, 87, 95, 100]
def tByt : List (List Int32) := [[111, 102, 102, 105, 99, 101], [112, 108, 97, 105, 110], [108, 105, 99, 107, 115], [115, 116, 97, 109, 112, 115], [99, 101, 108, 108, 97, 114], [116, 114, 97, 105, 108], [102, 105, 108, 101], [102, 97, 100, 101], [119, 105, 110, 116, 101, 114]]
abbrev zF (E : EN) (v : Value) (A : Nat → Prop) (U : State) (H : Heap) : Prop := va_Z "jdk/internal/util/Preconditions" "SIOOBE_FORMATTER" "Ljava/util/function/BiFunction;" v A U H
def eStr (E : EN) (A : Nat → Prop) (U : State) (H : Heap) : Prop := vk_S 9 tLen tByt (eSa E) (fun i => eSa E (20 + i)) A U H ∧ (∀ i, i < 9 → vk_R RX3 (tIdx.getD i 0) (tTxt.getD i "") (eSa E i) U) ∧ va_Z "java/lang/String" "COMPACT_STRINGS" "Z" (.int 1) A U H ∧ (zF E .null A U H ∨ zF E (.ref (eSa E 10)) A U H)
abbrev CX : Type := Program × Launch × Env × Room × State × MethodId × Array Value × List Frame × Method × Code × (Nat → Prop) × (State → Prop)
abbrev gp (G : CX) : Program := G.1
abbrev gl (G : CX) : Launch := G.2.1
abbrev ge (G : CX) : Env := G.2.2.1
abbrev gR (G : CX) : Room := G.2.2.2.1
abbrev gs (G : CX) : State := G.2.2.2.2.1
abbrev gm (G : CX) : MethodId := G.2.2.2.2.2.1
abbrev ga (G : CX) : Array Value := G.2.2.2.2.2.2.1
abbrev gb (G : CX) : List Frame := G.2.2.2.2.2.2.2.1
abbrev gt (G : CX) : Method := G.2.2.2.2.2.2.2.2.1
abbrev gc (G : CX) : Code := G.2.2.2.2.2.2.2.2.2.1
abbrev gA (G : CX) : Nat → Prop := G.2.2.2.2.2.2.2.2.2.2.1
abbrev gQ (G : CX) : State → Prop := G.2.2.2.2.2.2.2.2.2.2.2
def Okc (mi : MI) (G : CX) : Prop := (gp G).tables.exec = Jvm.exec ∧ (gc G).code = mi.2.1 ∧ (gc G).maxLocals = mi.2.2.1 ∧ (gt G).sig.returnType = mi.2.2.2 ∧ (gs G).vm.findClass mi.1.cls = some (gm G).cls ∧ (∀ w ∈ TB, w.before (ga G) (gs G) = true) ∧ (gt G).locks = false
def Sta (E : EN) (A : Nat → Prop) (s : State) : Prop := va_K (eD E) vwCl (eTy E) s ∧ eDj E A ∧ eStr E A s s.heap
def isU (v : AV) : Bool := match v with
  | .inr (.inr (.inr (.inr _))) => true
  | _ => false
def lvOf (E : EN) : Nat → List AV → List (Nat × Value)
  | _, [] => []
  | i, v :: t => if isU v = true then lvOf E (i + 1) t else (i, cval E v) :: lvOf E (i + 1) t
theorem mem_lvOf {E : EN} {q : Nat × Value} : ∀ (L : List AV) (i : Nat), q ∈ lvOf E i L ↔ ∃ j v, L[j]? = some v ∧ isU v = false ∧ q = (i + j, cval E v)
  | [], i => by simp [lvOf]
  | v :: t, i => by
    unfold lvOf
    constructor
    · intro h
      split at h
      · obtain ⟨j, w, h1, h2, h3⟩ := (mem_lvOf t (i + 1)).mp h
        exact ⟨j + 1, w, by simpa using h1, h2, by rw [h3]; congr 1; omega⟩
      · rename_i hu
        rcases List.mem_cons.mp h with h | h
        · exact ⟨0, v, by simp, by simpa using hu, by rw [h]; rfl⟩
        · obtain ⟨j, w, h1, h2, h3⟩ := (mem_lvOf t (i + 1)).mp h
          exact ⟨j + 1, w, by simpa using h1, h2, by rw [h3]; congr 1; omega⟩
    · rintro ⟨j, w, h1, h2, h3⟩
      cases j with
      | zero =>
        have hv : v = w := by simpa using h1
        subst hv
        rw [if_neg (by simp [h2])]
        exact List.mem_cons.mpr (Or.inl (by rw [h3]; rfl))
      | succ j =>
        have hm := (mem_lvOf (E := E) (q := q) t (i + 1)).mpr ⟨j, w, by simpa using h1, h2, by rw [h3]; congr 1; omega⟩
        split
        · exact hm
        · exact List.mem_cons.mpr (Or.inr hm)
theorem lv_get {E : EN} {L : List AV} {ls : Array Slot} {n i : Nat} {v : AV} (h : lv_has ls n (lvOf E 0 L)) (hi : L[i]? = some v) (hu : isU v = false) : ls[i]? = some (.val (cval E v)) :=
  h.2.2 (i, cval E v) ((mem_lvOf L 0).mpr ⟨i, v, hi, hu, by simp⟩)
def noL (L : List AV) (i : Nat) : Bool := match i with
  | 0 => true
  | j + 1 => match L[j]? with
    | some (.inr (.inr (.inl _))) => false
    | _ => true
theorem lv_put {E : EN} {L : List AV} {ls : Array Slot} {n i : Nat} {v : AV} (hn : noL L i = true) (h : lv_has ls n ((i, cval E v) :: (lvOf E 0 L).filter (fun q => !(q.1 == i) && !(q.1 + 1 == i && q.2.category == 2)))) : lv_has ls n (lvOf E 0 (L.set i v)) := by
  refine ⟨h.1, h.2.1, fun q hq => ?_⟩
  obtain ⟨j, w, h1, h2, rfl⟩ := (mem_lvOf _ 0).mp hq
  rw [Nat.zero_add]
  rw [List.getElem?_set] at h1
  by_cases hij : i = j
  · subst hij
    rw [if_pos rfl] at h1
    split at h1
    · cases h1
      exact h.2.2 (i, cval E v) List.mem_cons_self
    · cases h1
  · rw [if_neg hij] at h1
    refine h.2.2 (j, cval E w) (List.mem_cons_of_mem _ (List.mem_filter.mpr ⟨(mem_lvOf L 0).mpr ⟨j, w, h1, h2, by simp⟩, ?_⟩))
    have e1 : (j == i) = false := by simp; omega
    simp only [e1, Bool.not_false, Bool.true_and, Bool.not_eq_true', Bool.and_eq_false_iff, beq_eq_false_iff_ne]
    by_cases hj : j + 1 = i
    · right
      subst hj
      simp only [noL, h1] at hn
      revert hn h2
      rcases w with z | c | z | k | u <;> simp [cval, Value.category, isU]
    · left; exact hj
theorem okc1 {v : AV} {st : List AV} (h : okv v) (hs : ∀ w ∈ st, okv w) : ∀ w ∈ v :: st, okv w := fun w hw => by
  rcases List.mem_cons.mp hw with rfl | hw
  · exact h
  · exact hs w hw
theorem okl {L : List AV} {i : Nat} {v : AV} (hL : ∀ w ∈ L, okv w) (h : L[i]? = some v) : okv v := hL v (List.mem_of_getElem? h)
theorem okset {L : List AV} {i : Nat} {v : AV} (hL : ∀ w ∈ L, okv w) (h : okv v) : ∀ w ∈ L.set i v, okv w := fun w hw => by
  rcases List.mem_or_eq_of_mem_set hw with hw | rfl
  · exact hL w hw
  · exact h
theorem oktl {v : AV} {st : List AV} (h : ∀ w ∈ v :: st, okv w) : ∀ w ∈ st, okv w := fun w hw => h w (List.mem_cons_of_mem _ hw)
theorem okhd {v : AV} {st : List AV} (h : ∀ w ∈ v :: st, okv w) : okv v := h v List.mem_cons_self
def AW (E : EN) (mi : MI) (G : CX) (kc ns pc : Nat) (L st : List AV) (M : Mem) : Prop :=
  Okc mi G → Sta E (gA G) (gs G) → (∀ v ∈ L, okv v) → (∀ v ∈ st, okv v) → okM M → ∀ (H : Heap) (locs : List Loc) (ls : Array Slot), va_P (eD E) vwCl (WS E M) H → va_S (gA G) (gs G).heap H locs → lv_has ls mi.2.2.1 (lvOf E 0 L) →
    W (gp G) (gl G) (ge G) (gR G) (gs G) (gm G) (ga G) (gb G) (gt G) (gc G) H locs kc ns (gQ G) (F0 (gm G) pc ls (st.map (cval E)))
def rmd (d : Nat) : Room := { frames := d, cells := 0, slots := 0, locals := 40 * d }
def rout (E : EN) (r : AV) : Option Value := if isU r = true then none else some (cval E r)
def qC (E : EN) (Post : AV → Mem → Prop) : Array Value → State → Outcome → State → Prop := fun _ st oc t => (∃ (r : AV) (M' : Mem), oc = .returned (rout E r) ∧ okv r ∧ okM M' ∧ Post r M' ∧ va_P (eD E) vwCl (WS E M') t.heap) ∧ va_F (eA E) st t
def pC (E : EN) (args : List AV) (M : Mem) : Array Value → State → Prop := fun v U => v = (args.map (cval E)).toArray ∧ va_P (eD E) vwCl (WS E M) U.heap ∧ Sta E (eA E) U
/-- a method's contract: from these values and this memory it answers so -/
def Cn (E : EN) (l : Launch) (mi : MI) (d : Nat) (args : List AV) (M : Mem) (Post : AV → Mem → Prop) : Prop := (∀ v ∈ args, okv v) → okM M → Met l mi.1 (wsM mi) (rmd d) (pC E args M) (qC E Post) 0 0 (eA E)
def Rm (G : CX) (d kc ns : Nat) : Prop := d ≤ (gR G).frames ∧ 40 * d ≤ (gR G).locals ∧ kc ≤ (gR G).cells ∧ ns ≤ (gR G).slots
def Okr (E : EN) (l : Launch) (d : Nat) (G : CX) (Post : AV → Mem → Prop) : Prop := gQ G = MQ (gb G) (qC E Post) (ga G) (gs G) 0 0 (eA E) ∧ gA G = eA E ∧ gl G = l ∧ gR G = rmd d
theorem Okr.rm {E : EN} {l : Launch} {d : Nat} {G : CX} {Post : AV → Mem → Prop} (h : Okr E l d G Post) : Rm G d 0 0 := by
  unfold Rm; rw [h.2.2.2]; exact ⟨Nat.le_refl _, Nat.le_refl _, Nat.le_refl _, Nat.le_refl _⟩
section ROWS
variable {E : EN} {mi : MI} {G : CX} {kc ns pc : Nat} {L st : List AV} {M : Mem}

theorem A_iconst {n : Int} (hd : decode mi.2.1 pc = .ok (.iconst n, 1)) (hr : rng n) (kk : AW E mi G kc ns (pc + 1) L (vI n :: st) M) : AW E mi G kc ns pc L (st) M := by
  intro C hs hL hst hM H locs ls hP hS hl
  exact lv_iconst C.1 C.2.1 hd rfl (kk C hs hL (okc1 hr hst) hM H locs ls hP hS hl)
theorem A_bipush {n : Int} (hd : decode mi.2.1 pc = .ok (.bipush n, 2)) (hv : (Int8.ofInt n).toInt32 = i32 n) (hr : rng n) (kk : AW E mi G kc ns (pc + 2) L (vI n :: st) M) : AW E mi G kc ns pc L (st) M := by
  intro C hs hL hst hM H locs ls hP hS hl
  exact lv_bipush C.1 C.2.1 hd hv (kk C hs hL (okc1 hr hst) hM H locs ls hP hS hl)
theorem A_sipush {n : Int} (hd : decode mi.2.1 pc = .ok (.sipush n, 3)) (hv : (Int16.ofInt n).toInt32 = i32 n) (hr : rng n) (kk : AW E mi G kc ns (pc + 3) L (vI n :: st) M) : AW E mi G kc ns pc L (st) M := by
  intro C hs hL hst hM H locs ls hP hS hl
  exact lv_sipush C.1 C.2.1 hd hv (kk C hs hL (okc1 hr hst) hM H locs ls hP hS hl)
theorem A_lconst {n : Fin 2} (hd : decode mi.2.1 pc = .ok (.lconst n, 1))  (kk : AW E mi G kc ns (pc + 1) L (vL ((n : Nat) : Int) :: st) M) : AW E mi G kc ns pc L (st) M := by
  intro C hs hL hst hM H locs ls hP hS hl
  exact lv_lconst C.1 C.2.1 hd (show Int64.ofNat (n : Nat) = i64 ((n : Nat) : Int) by rcases n with ⟨k, hk⟩; rcases (show k = 0 ∨ k = 1 by omega) with rfl | rfl <;> rfl) (kk C hs hL (okc1 ⟨by omega, by omega⟩ hst) hM H locs ls hP hS hl)
theorem A_ldc {index : Nat} {n : Int} (hd : decode mi.2.1 pc = .ok (.ldc index, 2)) (hw : Cond.constant mi.1.cls index (i32 n) ∈ TB) (hr : rng n) (kk : AW E mi G kc ns (pc + 2) L (vI n :: st) M) : AW E mi G kc ns pc L (st) M := by
  intro C hs hL hst hM H locs ls hP hS hl
  exact lv_ldc (own := mi.1.cls) (v := i32 n) C.1 C.2.1 C.2.2.2.2.1 (C.2.2.2.2.2.1 _ hw) hd (kk C hs hL (okc1 hr hst) hM H locs ls hP hS hl)
theorem A_ldc2 {index : Nat} {n : Int} (hd : decode mi.2.1 pc = .ok (.ldc2_w index, 3)) (hw : Cond.constantLong mi.1.cls index (i64 n) ∈ TB) (hr : rngL n) (kk : AW E mi G kc ns (pc + 3) L (vL n :: st) M) : AW E mi G kc ns pc L (st) M := by
  intro C hs hL hst hM H locs ls hP hS hl
  exact lv_ldc2 (own := mi.1.cls) (v := i64 n) C.1 C.2.1 C.2.2.2.2.1 (C.2.2.2.2.2.1 _ hw) hd (kk C hs hL (okc1 hr hst) hM H locs ls hP hS hl)
theorem A_ldcS {index i : Nat} (hd : decode mi.2.1 pc = .ok (.ldc index, 2)) (ho : mi.1.cls = RX3) (hi : i < 9) (hx : index = tIdx.getD i 0) (kk : AW E mi G kc ns (pc + 2) L (vS i :: st) M) : AW E mi G kc ns pc L (st) M := by
  intro C hs hL hst hM H locs ls hP hS hl
  exact va_ldcS (own := mi.1.cls) C.1 C.2.1 C.2.2.2.2.1 (by rw [ho, hx]; exact hs.2.2.2.1 i hi) hd (kk C hs hL (okc1 trivial hst) hM H locs ls hP hS hl)
theorem A_iload_n {k : Fin 4} {z : Int} (hd : decode mi.2.1 pc = .ok (.iload_n k, 1)) (h : L[(k : Nat)]? = some (vI z)) (kk : AW E mi G kc ns (pc + 1) L (vI z :: st) M) : AW E mi G kc ns pc L (st) M := by
  intro C hs hL hst hM H locs ls hP hS hl
  exact lv_iload_n C.1 C.2.1 hd rfl (lv_get hl h rfl) (kk C hs hL (okc1 (okl hL h) hst) hM H locs ls hP hS hl)
theorem A_iload {i : Nat} {z : Int} (hd : decode mi.2.1 pc = .ok (.iload i, 2)) (h : L[i]? = some (vI z)) (kk : AW E mi G kc ns (pc + 2) L (vI z :: st) M) : AW E mi G kc ns pc L (st) M := by
  intro C hs hL hst hM H locs ls hP hS hl
  exact lv_iload C.1 C.2.1 hd (lv_get hl h rfl) (kk C hs hL (okc1 (okl hL h) hst) hM H locs ls hP hS hl)
theorem A_lload_n {k : Fin 4} {z : Int} (hd : decode mi.2.1 pc = .ok (.lload_n k, 1)) (h : L[(k : Nat)]? = some (vL z)) (kk : AW E mi G kc ns (pc + 1) L (vL z :: st) M) : AW E mi G kc ns pc L (st) M := by
  intro C hs hL hst hM H locs ls hP hS hl
  exact lv_lload_n C.1 C.2.1 hd rfl (lv_get hl h rfl) (kk C hs hL (okc1 (okl hL h) hst) hM H locs ls hP hS hl)
theorem A_lload {i : Nat} {z : Int} (hd : decode mi.2.1 pc = .ok (.lload i, 2)) (h : L[i]? = some (vL z)) (kk : AW E mi G kc ns (pc + 2) L (vL z :: st) M) : AW E mi G kc ns pc L (st) M := by
  intro C hs hL hst hM H locs ls hP hS hl
  exact lv_lload C.1 C.2.1 hd (lv_get hl h rfl) (kk C hs hL (okc1 (okl hL h) hst) hM H locs ls hP hS hl)
theorem A_aload_n {k : Fin 4} {c : Nat} (hd : decode mi.2.1 pc = .ok (.aload_n k, 1)) (h : L[(k : Nat)]? = some (vR c)) (kk : AW E mi G kc ns (pc + 1) L (vR c :: st) M) : AW E mi G kc ns pc L (st) M := by
  intro C hs hL hst hM H locs ls hP hS hl
  exact lv_aload_n C.1 C.2.1 hd rfl (lv_get hl h rfl) (kk C hs hL (okc1 trivial hst) hM H locs ls hP hS hl)
theorem A_aload {i : Nat} {c : Nat} (hd : decode mi.2.1 pc = .ok (.aload i, 2)) (h : L[i]? = some (vR c)) (kk : AW E mi G kc ns (pc + 2) L (vR c :: st) M) : AW E mi G kc ns pc L (st) M := by
  intro C hs hL hst hM H locs ls hP hS hl
  exact lv_aload C.1 C.2.1 hd (lv_get hl h rfl) (kk C hs hL (okc1 trivial hst) hM H locs ls hP hS hl)
theorem A_aload_nS {k : Fin 4} {c : Nat} (hd : decode mi.2.1 pc = .ok (.aload_n k, 1)) (h : L[(k : Nat)]? = some (vS c)) (kk : AW E mi G kc ns (pc + 1) L (vS c :: st) M) : AW E mi G kc ns pc L (st) M := by
  intro C hs hL hst hM H locs ls hP hS hl
  exact lv_aload_n C.1 C.2.1 hd rfl (lv_get hl h rfl) (kk C hs hL (okc1 trivial hst) hM H locs ls hP hS hl)
theorem A_istore_n {k : Fin 4} {z : Int} (hd : decode mi.2.1 pc = .ok (.istore_n k, 1)) (hn : (k : Nat) < mi.2.2.1) (hz : noL L (k : Nat) = true) (kk : AW E mi G kc ns (pc + 1) (L.set (k : Nat) (vI z)) st M) : AW E mi G kc ns pc L (vI z :: st) M := by
  intro C hs hL hst hM H locs ls hP hS hl
  exact lv_istore_n C.1 C.2.1 hd rfl hl hn rfl (fun ls' hl' => kk C hs (okset hL (okhd hst)) (oktl hst) hM H locs ls' hP hS (lv_put (v := vI z) hz hl'))
theorem A_istore {i : Nat} {z : Int} (hd : decode mi.2.1 pc = .ok (.istore i, 2)) (hn : i < mi.2.2.1) (hz : noL L i = true) (kk : AW E mi G kc ns (pc + 2) (L.set i (vI z)) st M) : AW E mi G kc ns pc L (vI z :: st) M := by
  intro C hs hL hst hM H locs ls hP hS hl
  exact lv_istore C.1 C.2.1 hd hl hn rfl (fun ls' hl' => kk C hs (okset hL (okhd hst)) (oktl hst) hM H locs ls' hP hS (lv_put (v := vI z) hz hl'))
theorem A_astore_n {k : Fin 4} {c : Nat} (hd : decode mi.2.1 pc = .ok (.astore_n k, 1)) (hn : (k : Nat) < mi.2.2.1) (hz : noL L (k : Nat) = true) (kk : AW E mi G kc ns (pc + 1) (L.set (k : Nat) (vR c)) st M) : AW E mi G kc ns pc L (vR c :: st) M := by
  intro C hs hL hst hM H locs ls hP hS hl
  exact lv_astore_n C.1 C.2.1 hd rfl hl hn rfl (fun ls' hl' => kk C hs (okset hL (okhd hst)) (oktl hst) hM H locs ls' hP hS (lv_put (v := vR c) hz hl'))
theorem A_astore {i : Nat} {c : Nat} (hd : decode mi.2.1 pc = .ok (.astore i, 2)) (hn : i < mi.2.2.1) (hz : noL L i = true) (kk : AW E mi G kc ns (pc + 2) (L.set i (vR c)) st M) : AW E mi G kc ns pc L (vR c :: st) M := by
  intro C hs hL hst hM H locs ls hP hS hl
  exact lv_astore C.1 C.2.1 hd hl hn rfl (fun ls' hl' => kk C hs (okset hL (okhd hst)) (oktl hst) hM H locs ls' hP hS (lv_put (v := vR c) hz hl'))
theorem A_iinc {i : Nat} {n z : Int} (hd : decode mi.2.1 pc = .ok (.iinc i n, 3)) (hn : i < mi.2.2.1) (hz : noL L i = true) (h : L[i]? = some (vI z)) (hr : rng (z + n)) (kk : AW E mi G kc ns (pc + 3) (L.set i (vI (z + n))) st M) : AW E mi G kc ns pc L st M := by
  intro C hs hL hst hM H locs ls hP hS hl
  obtain ⟨k, hk⟩ := List.getElem?_of_mem ((mem_lvOf (E := E) (q := (i, cval E (vI z))) L 0).mpr ⟨i, vI z, h, rfl, by simp⟩)
  exact lv_iinc (v := i32 (z + n)) C.1 C.2.1 hd hl hk (i32_add z n) hn rfl (fun ls' hl' => kk C hs (okset hL hr) hst hM H locs ls' hP hS (lv_put (v := vI (z + n)) hz hl'))
theorem A_iadd {x y : Int} (hd : decode mi.2.1 pc = .ok (.iadd, 1)) (hr : rng (x + y)) (kk : AW E mi G kc ns (pc + 1) L (vI (x + y) :: st) M) : AW E mi G kc ns pc L (vI y :: vI x :: st) M := by
  intro C hs hL hst hM H locs ls hP hS hl
  have hy : rng y := okhd hst
  have hx : rng x := okhd (oktl hst)
  have w := kk C hs hL (okc1 hr (oktl (oktl hst))) hM H locs ls hP hS hl
  refine lv_iadd (x := i32 x) (y := i32 y) C.1 C.2.1 hd  ?_
  rw [i32_add]
  exact w
theorem A_isub {x y : Int} (hd : decode mi.2.1 pc = .ok (.isub, 1)) (hr : rng (x - y)) (kk : AW E mi G kc ns (pc + 1) L (vI (x - y) :: st) M) : AW E mi G kc ns pc L (vI y :: vI x :: st) M := by
  intro C hs hL hst hM H locs ls hP hS hl
  have hy : rng y := okhd hst
  have hx : rng x := okhd (oktl hst)
  have w := kk C hs hL (okc1 hr (oktl (oktl hst))) hM H locs ls hP hS hl
  refine lv_isub (x := i32 x) (y := i32 y) C.1 C.2.1 hd  ?_
  rw [i32_sub]
  exact w
theorem A_imul {x y : Int} (hd : decode mi.2.1 pc = .ok (.imul, 1)) (hr : rng (x * y)) (kk : AW E mi G kc ns (pc + 1) L (vI (x * y) :: st) M) : AW E mi G kc ns pc L (vI y :: vI x :: st) M := by
  intro C hs hL hst hM H locs ls hP hS hl
  have hy : rng y := okhd hst
  have hx : rng x := okhd (oktl hst)
  have w := kk C hs hL (okc1 hr (oktl (oktl hst))) hM H locs ls hP hS hl
  refine lv_imul (x := i32 x) (y := i32 y) C.1 C.2.1 hd  ?_
  rw [i32_mul]
  exact w
theorem A_idiv {x y : Int} (hd : decode mi.2.1 pc = .ok (.idiv, 1)) (h0 : y ≠ 0) (hr : rng (x.tdiv y)) (kk : AW E mi G kc ns (pc + 1) L (vI (x.tdiv y) :: st) M) : AW E mi G kc ns pc L (vI y :: vI x :: st) M := by
  intro C hs hL hst hM H locs ls hP hS hl
  have hy : rng y := okhd hst
  have hx : rng x := okhd (oktl hst)
  have w := kk C hs hL (okc1 hr (oktl (oktl hst))) hM H locs ls hP hS hl
  refine lv_idiv (x := i32 x) (y := i32 y) C.1 C.2.1 hd (fun q => h0 ((i32_eq hy (show rng 0 from ⟨by omega, by omega⟩)).mp q)) ?_
  rw [i32_div hx hy hr]
  exact w
theorem A_irem {x y : Int} (hd : decode mi.2.1 pc = .ok (.irem, 1)) (h0 : y ≠ 0) (hq : rng (x.tdiv y)) (hr : rng (x.tmod y)) (kk : AW E mi G kc ns (pc + 1) L (vI (x.tmod y) :: st) M) : AW E mi G kc ns pc L (vI y :: vI x :: st) M := by
  intro C hs hL hst hM H locs ls hP hS hl
  have hy : rng y := okhd hst
  have hx : rng x := okhd (oktl hst)
  have w := kk C hs hL (okc1 hr (oktl (oktl hst))) hM H locs ls hP hS hl
  refine lv_irem (x := i32 x) (y := i32 y) C.1 C.2.1 hd (fun q => h0 ((i32_eq hy (show rng 0 from ⟨by omega, by omega⟩)).mp q)) ?_
  rw [i32_rem hx hy hq]
  exact w
theorem A_iand {x y z : Int} (hd : decode mi.2.1 pc = .ok (.iand, 1)) (he : i32 x &&& i32 y = i32 z) (hr : rng z) (kk : AW E mi G kc ns (pc + 1) L (vI z :: st) M) : AW E mi G kc ns pc L (vI y :: vI x :: st) M := by
  intro C hs hL hst hM H locs ls hP hS hl
  have w := kk C hs hL (okc1 hr (oktl (oktl hst))) hM H locs ls hP hS hl
  refine lv_iand (x := i32 x) (y := i32 y) C.1 C.2.1 hd ?_
  rw [he]
  exact w
theorem A_ior {x y z : Int} (hd : decode mi.2.1 pc = .ok (.ior, 1)) (he : i32 x ||| i32 y = i32 z) (hr : rng z) (kk : AW E mi G kc ns (pc + 1) L (vI z :: st) M) : AW E mi G kc ns pc L (vI y :: vI x :: st) M := by
  intro C hs hL hst hM H locs ls hP hS hl
  have w := kk C hs hL (okc1 hr (oktl (oktl hst))) hM H locs ls hP hS hl
  refine lv_ior (x := i32 x) (y := i32 y) C.1 C.2.1 hd ?_
  rw [he]
  exact w
theorem A_ixor {x y z : Int} (hd : decode mi.2.1 pc = .ok (.ixor, 1)) (he : i32 x ^^^ i32 y = i32 z) (hr : rng z) (kk : AW E mi G kc ns (pc + 1) L (vI z :: st) M) : AW E mi G kc ns pc L (vI y :: vI x :: st) M := by
  intro C hs hL hst hM H locs ls hP hS hl
  have w := kk C hs hL (okc1 hr (oktl (oktl hst))) hM H locs ls hP hS hl
  refine lv_ixor (x := i32 x) (y := i32 y) C.1 C.2.1 hd ?_
  rw [he]
  exact w
theorem A_ishl {x y z : Int} (hd : decode mi.2.1 pc = .ok (.ishl, 1)) (he : i32 x <<< (i32 y &&& 31) = i32 z) (hr : rng z) (kk : AW E mi G kc ns (pc + 1) L (vI z :: st) M) : AW E mi G kc ns pc L (vI y :: vI x :: st) M := by
  intro C hs hL hst hM H locs ls hP hS hl
  have w := kk C hs hL (okc1 hr (oktl (oktl hst))) hM H locs ls hP hS hl
  refine lv_ishl (x := i32 x) (y := i32 y) C.1 C.2.1 hd ?_
  rw [he]
  exact w
theorem A_ishr {x y z : Int} (hd : decode mi.2.1 pc = .ok (.ishr, 1)) (he : i32 x >>> (i32 y &&& 31) = i32 z) (hr : rng z) (kk : AW E mi G kc ns (pc + 1) L (vI z :: st) M) : AW E mi G kc ns pc L (vI y :: vI x :: st) M := by
  intro C hs hL hst hM H locs ls hP hS hl
  have w := kk C hs hL (okc1 hr (oktl (oktl hst))) hM H locs ls hP hS hl
  refine lv_ishr (x := i32 x) (y := i32 y) C.1 C.2.1 hd ?_
  rw [he]
  exact w
theorem A_land {x y z : Int} (hd : decode mi.2.1 pc = .ok (.land, 1)) (he : i64 x &&& i64 y = i64 z) (hr : rngL z) (kk : AW E mi G kc ns (pc + 1) L (vL z :: st) M) : AW E mi G kc ns pc L (vL y :: vL x :: st) M := by
  intro C hs hL hst hM H locs ls hP hS hl
  have w := kk C hs hL (okc1 hr (oktl (oktl hst))) hM H locs ls hP hS hl
  refine lv_land (x := i64 x) (y := i64 y) C.1 C.2.1 hd ?_
  rw [he]
  exact w
theorem A_lor {x y z : Int} (hd : decode mi.2.1 pc = .ok (.lor, 1)) (he : i64 x ||| i64 y = i64 z) (hr : rngL z) (kk : AW E mi G kc ns (pc + 1) L (vL z :: st) M) : AW E mi G kc ns pc L (vL y :: vL x :: st) M := by
  intro C hs hL hst hM H locs ls hP hS hl
  have w := kk C hs hL (okc1 hr (oktl (oktl hst))) hM H locs ls hP hS hl
  refine lv_lor (x := i64 x) (y := i64 y) C.1 C.2.1 hd ?_
  rw [he]
  exact w
theorem A_lshl {x y z : Int} (hd : decode mi.2.1 pc = .ok (.lshl, 1)) (he : i64 x <<< ((i32 y).toInt64 &&& 63) = i64 z) (hr : rngL z) (kk : AW E mi G kc ns (pc + 1) L (vL z :: st) M) : AW E mi G kc ns pc L (vI y :: vL x :: st) M := by
  intro C hs hL hst hM H locs ls hP hS hl
  exact lv_lshl (x := i64 x) (y := i32 y) C.1 C.2.1 hd he (kk C hs hL (okc1 hr (oktl (oktl hst))) hM H locs ls hP hS hl)
theorem A_lshr {x y z : Int} (hd : decode mi.2.1 pc = .ok (.lshr, 1)) (he : i64 x >>> ((i32 y).toInt64 &&& 63) = i64 z) (hr : rngL z) (kk : AW E mi G kc ns (pc + 1) L (vL z :: st) M) : AW E mi G kc ns pc L (vI y :: vL x :: st) M := by
  intro C hs hL hst hM H locs ls hP hS hl
  exact lv_lshr (x := i64 x) (y := i32 y) C.1 C.2.1 hd he (kk C hs hL (okc1 hr (oktl (oktl hst))) hM H locs ls hP hS hl)
theorem A_i2l {x : Int} (hd : decode mi.2.1 pc = .ok (.i2l, 1)) (kk : AW E mi G kc ns (pc + 1) L (vL x :: st) M) : AW E mi G kc ns pc L (vI x :: st) M := by
  intro C hs hL hst hM H locs ls hP hS hl
  have hx : rng x := okhd hst
  have hx' : rngL x := ⟨by have := hx.1; omega, by have := hx.2; omega⟩
  refine lv_i2l (x := i32 x) (v := i64 x) C.1 C.2.1 hd ?_ (kk C hs hL (okc1 hx' (oktl hst)) hM H locs ls hP hS hl)
  apply Int64.toInt_inj.mp
  rw [Int32.toInt_toInt64, i32_toInt hx, i64_toInt hx']
theorem A_l2i {x z : Int} (hd : decode mi.2.1 pc = .ok (.l2i, 1)) (he : (i64 x).toInt32 = i32 z) (hr : rng z) (kk : AW E mi G kc ns (pc + 1) L (vI z :: st) M) : AW E mi G kc ns pc L (vL x :: st) M := by
  intro C hs hL hst hM H locs ls hP hS hl
  exact lv_l2i (x := i64 x) C.1 C.2.1 hd he (kk C hs hL (okc1 hr (oktl hst)) hM H locs ls hP hS hl)
def lcm (x y : Int) : Int := if x < y then -1 else if x = y then 0 else 1
theorem A_lcmp {x y : Int} (hd : decode mi.2.1 pc = .ok (.lcmp, 1)) (kk : AW E mi G kc ns (pc + 1) L (vI (lcm x y) :: st) M) : AW E mi G kc ns pc L (vL y :: vL x :: st) M := by
  intro C hs hL hst hM H locs ls hP hS hl
  have hy : rngL y := okhd hst
  have hx : rngL x := okhd (oktl hst)
  have hr : rng (lcm x y) := by
    unfold lcm
    split
    · exact ⟨by omega, by omega⟩
    · split <;> exact ⟨by omega, by omega⟩
  have w := kk C hs hL (okc1 hr (oktl (oktl hst))) hM H locs ls hP hS hl
  refine W.lcmp (x := i64 x) (y := i64 y) C.1 C.2.1 hd ?_
  have e : lg_cmp (i64 x) (i64 y) = i32 (lcm x y) := by
    have l3 : i64 y < i64 x ↔ y < x := by rw [Int64.lt_iff_toInt_lt, i64_toInt hx, i64_toInt hy]
    have l2 : i64 x = i64 y ↔ x = y := ⟨fun h => by have := congrArg Int64.toInt h; rwa [i64_toInt hx, i64_toInt hy] at this, fun h => by rw [h]⟩
    unfold lg_cmp lcm
    simp only [l2, l3]
    by_cases h1 : x < y
    · rw [if_neg (by omega), if_neg (by omega), if_pos h1]; rfl
    · by_cases h2 : x = y
      · rw [if_neg (by omega), if_pos h2, if_neg h1, if_pos h2]; rfl
      · rw [if_pos (by omega), if_neg h1, if_neg h2]; rfl
  rw [e]
  exact w
theorem A_dup {v : AV} (hd : decode mi.2.1 pc = .ok (.dup, 1)) (hv : (cval E v).category = 1) (kk : AW E mi G kc ns (pc + 1) L (v :: v :: st) M) : AW E mi G kc ns pc L (v :: st) M := by
  intro C hs hL hst hM H locs ls hP hS hl
  exact lv_dup C.1 C.2.1 hd hv (kk C hs hL (okc1 (okhd hst) hst) hM H locs ls hP hS hl)
theorem A_pop {v : AV} (hd : decode mi.2.1 pc = .ok (.pop, 1)) (hv : (cval E v).category = 1) (kk : AW E mi G kc ns (pc + 1) L st M) : AW E mi G kc ns pc L (v :: st) M := by
  intro C hs hL hst hM H locs ls hP hS hl
  exact lv_pop C.1 C.2.1 hd hv (kk C hs hL (oktl hst) hM H locs ls hP hS hl)
theorem A_dup_x1 {v w : AV} (hd : decode mi.2.1 pc = .ok (.dup_x1, 1)) (hv : (cval E v).category = 1) (hw : (cval E w).category = 1) (kk : AW E mi G kc ns (pc + 1) L (v :: w :: v :: st) M) : AW E mi G kc ns pc L (v :: w :: st) M := by
  intro C hs hL hst hM H locs ls hP hS hl
  exact lv_dup_x1 C.1 C.2.1 hd hv hw (kk C hs hL (okc1 (okhd hst) (okc1 (okhd (oktl hst)) (okc1 (okhd hst) (oktl (oktl hst))))) hM H locs ls hP hS hl)
theorem A_dup2 {v w : AV} (hd : decode mi.2.1 pc = .ok (.dup2, 1)) (hv : (cval E v).category = 1) (hw : (cval E w).category = 1) (kk : AW E mi G kc ns (pc + 1) L (v :: w :: v :: w :: st) M) : AW E mi G kc ns pc L (v :: w :: st) M := by
  intro C hs hL hst hM H locs ls hP hS hl
  exact lv_dup2_11 C.1 C.2.1 hd hv hw (kk C hs hL (okc1 (okhd hst) (okc1 (okhd (oktl hst)) hst)) hM H locs ls hP hS hl)
theorem A_goto {off : Int} {tgt : Nat} (hd : decode mi.2.1 pc = .ok (.goto off, 3)) (ht : (pc : Int) + off = (tgt : Int)) (kk : AW E mi G kc ns tgt L st M) : AW E mi G kc ns pc L st M := by
  intro C hs hL hst hM H locs ls hP hS hl
  exact lv_goto C.1 C.2.1 hd ht (kk C hs hL hst hM H locs ls hP hS hl)
theorem A_if_eq {x : Int} {off : Int} {tgt : Nat} (hd : decode mi.2.1 pc = .ok (.ifCond .eq off, 3)) (ht : (pc : Int) + off = (tgt : Int)) (kt : x = 0 → AW E mi G kc ns tgt L st M) (kf : ¬ x = 0 → AW E mi G kc ns (pc + 3) L st M) : AW E mi G kc ns pc L (vI x :: st) M := by
  intro C hs hL hst hM H locs ls hP hS hl
  have hy : rng 0 := ⟨by omega, by omega⟩
  have hx : rng x := okhd hst
  exact lv_if_eq (x := i32 x) C.1 C.2.1 hd ht (fun q => kt ((i32_eq hx hy).mp q) C hs hL (oktl hst) hM H locs ls hP hS hl) (fun q => kf (fun z => q ((i32_eq hx hy).mpr z)) C hs hL (oktl hst) hM H locs ls hP hS hl)
theorem A_icmp_eq {x y : Int} {off : Int} {tgt : Nat} (hd : decode mi.2.1 pc = .ok (.if_icmp .eq off, 3)) (ht : (pc : Int) + off = (tgt : Int)) (kt : x = y → AW E mi G kc ns tgt L st M) (kf : ¬ x = y → AW E mi G kc ns (pc + 3) L st M) : AW E mi G kc ns pc L (vI y :: vI x :: st) M := by
  intro C hs hL hst hM H locs ls hP hS hl
  have hy : rng y := okhd hst
  have hx : rng x := okhd (oktl hst)
  exact lv_icmp_eq (x := i32 x) (y := i32 y) C.1 C.2.1 hd ht (fun q => kt ((i32_eq hx hy).mp q) C hs hL (oktl (oktl hst)) hM H locs ls hP hS hl) (fun q => kf (fun z => q ((i32_eq hx hy).mpr z)) C hs hL (oktl (oktl hst)) hM H locs ls hP hS hl)
theorem A_if_ne {x : Int} {off : Int} {tgt : Nat} (hd : decode mi.2.1 pc = .ok (.ifCond .ne off, 3)) (ht : (pc : Int) + off = (tgt : Int)) (kt : ¬ x = 0 → AW E mi G kc ns tgt L st M) (kf : x = 0 → AW E mi G kc ns (pc + 3) L st M) : AW E mi G kc ns pc L (vI x :: st) M := by
  intro C hs hL hst hM H locs ls hP hS hl
  have hy : rng 0 := ⟨by omega, by omega⟩
  have hx : rng x := okhd hst
  exact lv_if_ne (x := i32 x) C.1 C.2.1 hd ht (fun q => kt (fun z => q ((i32_eq hx hy).mpr z)) C hs hL (oktl hst) hM H locs ls hP hS hl) (fun q => kf ((i32_eq hx hy).mp q) C hs hL (oktl hst) hM H locs ls hP hS hl)
theorem A_icmp_ne {x y : Int} {off : Int} {tgt : Nat} (hd : decode mi.2.1 pc = .ok (.if_icmp .ne off, 3)) (ht : (pc : Int) + off = (tgt : Int)) (kt : ¬ x = y → AW E mi G kc ns tgt L st M) (kf : x = y → AW E mi G kc ns (pc + 3) L st M) : AW E mi G kc ns pc L (vI y :: vI x :: st) M := by
  intro C hs hL hst hM H locs ls hP hS hl
  have hy : rng y := okhd hst
  have hx : rng x := okhd (oktl hst)
  exact lv_icmp_ne (x := i32 x) (y := i32 y) C.1 C.2.1 hd ht (fun q => kt (fun z => q ((i32_eq hx hy).mpr z)) C hs hL (oktl (oktl hst)) hM H locs ls hP hS hl) (fun q => kf ((i32_eq hx hy).mp q) C hs hL (oktl (oktl hst)) hM H locs ls hP hS hl)
theorem A_if_lt {x : Int} {off : Int} {tgt : Nat} (hd : decode mi.2.1 pc = .ok (.ifCond .lt off, 3)) (ht : (pc : Int) + off = (tgt : Int)) (kt : x < 0 → AW E mi G kc ns tgt L st M) (kf : ¬ x < 0 → AW E mi G kc ns (pc + 3) L st M) : AW E mi G kc ns pc L (vI x :: st) M := by
  intro C hs hL hst hM H locs ls hP hS hl
  have hy : rng 0 := ⟨by omega, by omega⟩
  have hx : rng x := okhd hst
  exact lv_if_lt (x := i32 x) C.1 C.2.1 hd ht (fun q => kt ((i32_lt hx hy).mp q) C hs hL (oktl hst) hM H locs ls hP hS hl) (fun q => kf (fun z => q ((i32_lt hx hy).mpr z)) C hs hL (oktl hst) hM H locs ls hP hS hl)
theorem A_icmp_lt {x y : Int} {off : Int} {tgt : Nat} (hd : decode mi.2.1 pc = .ok (.if_icmp .lt off, 3)) (ht : (pc : Int) + off = (tgt : Int)) (kt : x < y → AW E mi G kc ns tgt L st M) (kf : ¬ x < y → AW E mi G kc ns (pc + 3) L st M) : AW E mi G kc ns pc L (vI y :: vI x :: st) M := by
  intro C hs hL hst hM H locs ls hP hS hl
  have hy : rng y := okhd hst
  have hx : rng x := okhd (oktl hst)
  exact lv_icmp_lt (x := i32 x) (y := i32 y) C.1 C.2.1 hd ht (fun q => kt ((i32_lt hx hy).mp q) C hs hL (oktl (oktl hst)) hM H locs ls hP hS hl) (fun q => kf (fun z => q ((i32_lt hx hy).mpr z)) C hs hL (oktl (oktl hst)) hM H locs ls hP hS hl)
theorem A_if_ge {x : Int} {off : Int} {tgt : Nat} (hd : decode mi.2.1 pc = .ok (.ifCond .ge off, 3)) (ht : (pc : Int) + off = (tgt : Int)) (kt : 0 ≤ x → AW E mi G kc ns tgt L st M) (kf : ¬ 0 ≤ x → AW E mi G kc ns (pc + 3) L st M) : AW E mi G kc ns pc L (vI x :: st) M := by
  intro C hs hL hst hM H locs ls hP hS hl
  have hy : rng 0 := ⟨by omega, by omega⟩
  have hx : rng x := okhd hst
  exact lv_if_ge (x := i32 x) C.1 C.2.1 hd ht (fun q => kt ((i32_le hy hx).mp q) C hs hL (oktl hst) hM H locs ls hP hS hl) (fun q => kf (fun z => q ((i32_le hy hx).mpr z)) C hs hL (oktl hst) hM H locs ls hP hS hl)
theorem A_icmp_ge {x y : Int} {off : Int} {tgt : Nat} (hd : decode mi.2.1 pc = .ok (.if_icmp .ge off, 3)) (ht : (pc : Int) + off = (tgt : Int)) (kt : y ≤ x → AW E mi G kc ns tgt L st M) (kf : ¬ y ≤ x → AW E mi G kc ns (pc + 3) L st M) : AW E mi G kc ns pc L (vI y :: vI x :: st) M := by
  intro C hs hL hst hM H locs ls hP hS hl
  have hy : rng y := okhd hst
  have hx : rng x := okhd (oktl hst)
  exact lv_icmp_ge (x := i32 x) (y := i32 y) C.1 C.2.1 hd ht (fun q => kt ((i32_le hy hx).mp q) C hs hL (oktl (oktl hst)) hM H locs ls hP hS hl) (fun q => kf (fun z => q ((i32_le hy hx).mpr z)) C hs hL (oktl (oktl hst)) hM H locs ls hP hS hl)
theorem A_if_gt {x : Int} {off : Int} {tgt : Nat} (hd : decode mi.2.1 pc = .ok (.ifCond .gt off, 3)) (ht : (pc : Int) + off = (tgt : Int)) (kt : 0 < x → AW E mi G kc ns tgt L st M) (kf : ¬ 0 < x → AW E mi G kc ns (pc + 3) L st M) : AW E mi G kc ns pc L (vI x :: st) M := by
  intro C hs hL hst hM H locs ls hP hS hl
  have hy : rng 0 := ⟨by omega, by omega⟩
  have hx : rng x := okhd hst
  exact lv_if_gt (x := i32 x) C.1 C.2.1 hd ht (fun q => kt ((i32_lt hy hx).mp q) C hs hL (oktl hst) hM H locs ls hP hS hl) (fun q => kf (fun z => q ((i32_lt hy hx).mpr z)) C hs hL (oktl hst) hM H locs ls hP hS hl)
theorem A_icmp_gt {x y : Int} {off : Int} {tgt : Nat} (hd : decode mi.2.1 pc = .ok (.if_icmp .gt off, 3)) (ht : (pc : Int) + off = (tgt : Int)) (kt : y < x → AW E mi G kc ns tgt L st M) (kf : ¬ y < x → AW E mi G kc ns (pc + 3) L st M) : AW E mi G kc ns pc L (vI y :: vI x :: st) M := by
  intro C hs hL hst hM H locs ls hP hS hl
  have hy : rng y := okhd hst
  have hx : rng x := okhd (oktl hst)
  exact lv_icmp_gt (x := i32 x) (y := i32 y) C.1 C.2.1 hd ht (fun q => kt ((i32_lt hy hx).mp q) C hs hL (oktl (oktl hst)) hM H locs ls hP hS hl) (fun q => kf (fun z => q ((i32_lt hy hx).mpr z)) C hs hL (oktl (oktl hst)) hM H locs ls hP hS hl)
theorem A_if_le {x : Int} {off : Int} {tgt : Nat} (hd : decode mi.2.1 pc = .ok (.ifCond .le off, 3)) (ht : (pc : Int) + off = (tgt : Int)) (kt : x ≤ 0 → AW E mi G kc ns tgt L st M) (kf : ¬ x ≤ 0 → AW E mi G kc ns (pc + 3) L st M) : AW E mi G kc ns pc L (vI x :: st) M := by
  intro C hs hL hst hM H locs ls hP hS hl
  have hy : rng 0 := ⟨by omega, by omega⟩
  have hx : rng x := okhd hst
  exact lv_if_le (x := i32 x) C.1 C.2.1 hd ht (fun q => kt ((i32_le hx hy).mp q) C hs hL (oktl hst) hM H locs ls hP hS hl) (fun q => kf (fun z => q ((i32_le hx hy).mpr z)) C hs hL (oktl hst) hM H locs ls hP hS hl)
theorem A_icmp_le {x y : Int} {off : Int} {tgt : Nat} (hd : decode mi.2.1 pc = .ok (.if_icmp .le off, 3)) (ht : (pc : Int) + off = (tgt : Int)) (kt : x ≤ y → AW E mi G kc ns tgt L st M) (kf : ¬ x ≤ y → AW E mi G kc ns (pc + 3) L st M) : AW E mi G kc ns pc L (vI y :: vI x :: st) M := by
  intro C hs hL hst hM H locs ls hP hS hl
  have hy : rng y := okhd hst
  have hx : rng x := okhd (oktl hst)
  exact lv_icmp_le (x := i32 x) (y := i32 y) C.1 C.2.1 hd ht (fun q => kt ((i32_le hx hy).mp q) C hs hL (oktl (oktl hst)) hM H locs ls hP hS hl) (fun q => kf (fun z => q ((i32_le hx hy).mpr z)) C hs hL (oktl (oktl hst)) hM H locs ls hP hS hl)
theorem A_tsOut {dflt lo hi x : Int} {offs : Array Int} {len tgt : Nat} (hd : decode mi.2.1 pc = .ok (.tableswitch dflt lo hi offs, len)) (h : x < lo ∨ hi < x) (ht : (pc : Int) + dflt = (tgt : Int)) (kk : AW E mi G kc ns tgt L st M) : AW E mi G kc ns pc L (vI x :: st) M := by
  intro C hs hL hst hM H locs ls hP hS hl
  have hx : rng x := okhd hst
  exact lv_tableOut (x := i32 x) C.1 C.2.1 hd (by rw [i32_toInt hx]; exact h) ht (kk C hs hL (oktl hst) hM H locs ls hP hS hl)
theorem A_tsIn {dflt lo hi x off : Int} {offs : Array Int} {len tgt : Nat} (hd : decode mi.2.1 pc = .ok (.tableswitch dflt lo hi offs, len)) (k : Nat) (hk : x = lo + k) (h2 : x ≤ hi) (ho : offs[k]? = some off) (ht : (pc : Int) + off = (tgt : Int)) (kk : AW E mi G kc ns tgt L st M) : AW E mi G kc ns pc L (vI x :: st) M := by
  intro C hs hL hst hM H locs ls hP hS hl
  have hx : rng x := okhd hst
  refine lv_tableIn (x := i32 x) (off := off) C.1 C.2.1 hd (by rw [i32_toInt hx]; omega) (by rw [i32_toInt hx]; omega) ?_ ht (kk C hs hL (oktl hst) hM H locs ls hP hS hl)
  rw [i32_toInt hx, show (x - lo).toNat = k by omega]
  exact ho
theorem A_ls {dflt x off : Int} {ps : Array (Int × Int)} {len tgt : Nat} (hd : decode mi.2.1 pc = .ok (.lookupswitch dflt ps, len)) (hp : (ps.toList.zip (ps.toList.drop 1)).all (fun (a, next) => a.1 < next.1) = true) (ho : Op.lookupswitch.offset ps.toList dflt x = off) (ht : (pc : Int) + off = (tgt : Int)) (kk : AW E mi G kc ns tgt L st M) : AW E mi G kc ns pc L (vI x :: st) M := by
  intro C hs hL hst hM H locs ls hP hS hl
  have hx : rng x := okhd hst
  exact lv_lookup (x := i32 x) C.1 C.2.1 hd hp (by rw [i32_toInt hx]; exact ho) ht (kk C hs hL (oktl hst) hM H locs ls hP hS hl)
end ROWS
end
section
/-! AW: the heap, calls, a method's entry and end -/
def At (E : EN) (c : Nat) (x : Shp) : Prop := c < eN E ∧ eSh E c = x
abbrev aI (n : Nat) (g : Nat → Option Nat) : Shp := .inr (0, n, g)
abbrev aZ (n : Nat) (g : Nat → Option Nat) : Shp := .inr (1, n, g)
abbrev aR (n : Nat) (g : Nat → Option Nat) : Shp := .inr (2, n, g)
theorem At.obj {E : EN} {c ci : Nat} {fs : List (Option (Option Nat))} {M : Mem} (h : At E c (.inl (ci, fs))) : (WS E M)[c]? = some (eAd E c, .inr (ci, fs.mapIdx (fun k o => fval E M c k o))) := by
  rw [WS_at h.1]; unfold ccell; rw [h.2]
theorem At.ai {E : EN} {c n : Nat} {g : Nat → Option Nat} {M : Mem} (h : At E c (aI n g)) : (WS E M)[c]? = some (eAd E c, .inl ((eCs E).1, n, .inl (fun k => i32 (M c k)))) := by
  rw [WS_at h.1]; unfold ccell; rw [h.2]; rfl
theorem At.az {E : EN} {c n : Nat} {g : Nat → Option Nat} {M : Mem} (h : At E c (aZ n g)) : (WS E M)[c]? = some (eAd E c, .inl ((eCs E).2.1, n, .inl (fun k => i32 (M c k)))) := by
  rw [WS_at h.1]; unfold ccell; rw [h.2]; rfl
theorem At.ar {E : EN} {c n : Nat} {g : Nat → Option Nat} {M : Mem} (h : At E c (aR n g)) : (WS E M)[c]? = some (eAd E c, .inl ((eCs E).2.2, n, .inr (.inr (.inr (.inr (fun k => (g k).map (eAd E))))))) := by
  rw [WS_at h.1]; unfold ccell; rw [h.2]; rfl
section ROWS2
variable {E : EN} {mi : MI} {G : CX} {kc ns pc : Nat} {L st : List AV} {M : Mem}
theorem A_getV {c ci k idx : Nat} {fs : List (Option (Option Nat))} {o : Option (Option Nat)} {v : AV} (hd : decode mi.2.1 pc = .ok (.getfield idx, 3)) (hF : FL mi.1.cls idx ci k) (ha : At E c (.inl (ci, fs))) (hf : fs[k]? = some o) (hv : fval E M c k o = cval E v) (hok : okM M → okv v) (kk : AW E mi G kc ns (pc + 3) L (v :: st) M) : AW E mi G kc ns pc L (vR c :: st) M := by
  intro C hs hL hst hM H locs ls hP hS hl
  obtain ⟨X, T, N, ⟨h1, h2, -, -⟩, h4, h5, h6⟩ := hF
  exact va_get (own := mi.1.cls) (ref := X) (C := X) (T := T) (N := N) (ci := ci) (Ts := TB) C.1 C.2.1 C.2.2.2.2.2.1 h2 C.2.2.2.2.1 hs.1 hP c ha.obj h1 k h4 (C.2.2.2.2.2.1 _ h6) (by rw [h5]; exact fun _ h => h) (v := cval E v) (by rw [List.getElem?_mapIdx, hf]; exact congrArg some hv) hd (kk C hs hL (okc1 (hok hM) (oktl hst)) hM H locs ls hP hS hl)
theorem A_getI {c ci k idx : Nat} {ki : Int} {fs : List (Option (Option Nat))} (hd : decode mi.2.1 pc = .ok (.getfield idx, 3)) (hF : FL mi.1.cls idx ci k) (ha : At E c (.inl (ci, fs))) (hf : fs[k]? = some none) (hk : ((k : Nat) : Int) = ki) (kk : AW E mi G kc ns (pc + 3) L (vI (M c ki) :: st) M) : AW E mi G kc ns pc L (vR c :: st) M := by
  subst hk
  exact A_getV (v := vI (M c k)) hd hF ha hf rfl (fun h => h c k) kk
theorem A_getR {c ci k idx j : Nat} {fs : List (Option (Option Nat))} (hd : decode mi.2.1 pc = .ok (.getfield idx, 3)) (hF : FL mi.1.cls idx ci k) (ha : At E c (.inl (ci, fs))) (hf : fs[k]? = some (some (some j))) (kk : AW E mi G kc ns (pc + 3) L (vR j :: st) M) : AW E mi G kc ns pc L (vR c :: st) M :=
  A_getV (v := vR j) hd hF ha hf rfl (fun _ => trivial) kk
theorem A_putI {c ci k idx : Nat} {z ki : Int} {fs : List (Option (Option Nat))} (hd : decode mi.2.1 pc = .ok (.putfield idx, 3)) (hF : FL mi.1.cls idx ci k) (hI : FI ci k) (ha : At E c (.inl (ci, fs))) (hf : fs[k]? = some none) (hk : ((k : Nat) : Int) = ki) (kk : ∀ M1 : Mem, M1 = upm M c ki z → okM M1 → AW E mi G kc ns (pc + 3) L st M1) : AW E mi G kc ns pc L (vI z :: vR c :: st) M := by
  intro C hs hL hst hM H locs ls hP hS hl
  obtain ⟨X, T, N, ⟨h1, h2, ⟨ty0, h3⟩, h3'⟩, h4, h5, h6⟩ := hF
  subst hk
  obtain ⟨X', T', N', i1, i2, i3⟩ := hI
  have e := i1.symm.trans h1
  cases e
  have hlen : k < (fs.mapIdx (fun k o => fval E M c k o)).length := by
    rw [List.length_mapIdx]
    exact (List.getElem?_eq_some_iff.mp hf).1
  have hnew : (Sum.inr (ci, (fs.mapIdx (fun k o => fval E M c k o)).set k (.int (i32 z))) : va_E) = ccell E (upm M c k z) c := by
    unfold ccell; rw [ha.2]
    refine congrArg _ (congrArg _ ?_)
    apply List.ext_getElem?
    intro j
    rw [List.getElem?_set, List.getElem?_mapIdx, List.getElem?_mapIdx]
    by_cases hj : k = j
    · subst hj
      rw [if_pos rfl, if_pos hlen, hf]
      simp [fval, upm]
    · rw [if_neg hj]
      cases h : fs[j]? with
      | none => rfl
      | some o =>
        rcases o with _ | _ | o
        · simp only [Option.map_some, fval, upm]
          rw [if_neg (by omega)]
        · rfl
        · rfl
  refine va_put (own := mi.1.cls) (ref := X) (C := X) (T := T) (N := N) (ci := ci) (Ts := TB) (ty := .int) (v := .int (i32 z)) C.1 C.2.1 C.2.2.2.2.2.1 h2 ty0 h3 h3' C.2.2.2.2.1 hs.1 hP (hs.2.1.D M) hS c ha.obj h1 k h4 (C.2.2.2.2.2.1 _ h6) (by rw [h5]; exact fun _ h => h) i2 i3 rfl rfl hlen hd (fun H1 locs1 hP1 hD1 hS1 => ?_)
  rw [WS_set ha.1 hnew] at hP1
  exact kk _ rfl (okM_upm hM (okhd hst)) C hs hL (oktl (oktl hst)) (okM_upm hM (okhd hst)) H1 locs1 ls hP1 hS1 hl
theorem A_iald {c n : Nat} {i : Int} {g : Nat → Option Nat} (hd : decode mi.2.1 pc = .ok (.iaload, 1)) (ha : At E c (aI n g)) (h0 : 0 ≤ i) (h1 : i < n) (kk : AW E mi G kc ns (pc + 1) L (vI (M c i) :: st) M) : AW E mi G kc ns pc L (vI i :: vR c :: st) M := by
  intro C hs hL hst hM H locs ls hP hS hl
  have hr : rng i := okhd hst
  have w := kk C hs hL (okc1 (hM c i) (oktl (oktl hst))) hM H locs ls hP hS hl
  refine va_iald (i := i32 i) C.1 C.2.1 hs.1 hP c 0 ha.ai rfl (i32_in h0 h1 hr) hd ?_
  rw [i32_clamp h0 hr, show ((i.toNat : Nat) : Int) = i from Int.toNat_of_nonneg h0]
  exact w
theorem A_zald {c n : Nat} {i : Int} {g : Nat → Option Nat} (hd : decode mi.2.1 pc = .ok (.baload, 1)) (ha : At E c (aZ n g)) (h0 : 0 ≤ i) (h1 : i < n) (kk : AW E mi G kc ns (pc + 1) L (vI (M c i) :: st) M) : AW E mi G kc ns pc L (vI i :: vR c :: st) M := by
  intro C hs hL hst hM H locs ls hP hS hl
  have hr : rng i := okhd hst
  have w := kk C hs hL (okc1 (hM c i) (oktl (oktl hst))) hM H locs ls hP hS hl
  refine va_zald (i := i32 i) C.1 C.2.1 hs.1 hP c 1 ha.az rfl (i32_in h0 h1 hr) hd ?_
  rw [i32_clamp h0 hr, show ((i.toNat : Nat) : Int) = i from Int.toNat_of_nonneg h0]
  exact w
theorem A_aald {c n j : Nat} {i : Int} {g : Nat → Option Nat} (hd : decode mi.2.1 pc = .ok (.aaload, 1)) (ha : At E c (aR n g)) (h0 : 0 ≤ i) (h1 : i < n) (hj : g i.toNat = some j) (kk : AW E mi G kc ns (pc + 1) L (vR j :: st) M) : AW E mi G kc ns pc L (vI i :: vR c :: st) M := by
  intro C hs hL hst hM H locs ls hP hS hl
  have hr : rng i := okhd hst
  have w := kk C hs hL (okc1 trivial (oktl (oktl hst))) hM H locs ls hP hS hl
  refine va_aldq (i := i32 i) C.1 C.2.1 hs.1 hP c 2 ha.ar rfl (i32_in h0 h1 hr) hd ?_
  rw [i32_clamp h0 hr, hj]
  exact w
theorem A_alen {c n : Nat} {tk : Nat} {g : Nat → Option Nat} (hd : decode mi.2.1 pc = .ok (.arraylength, 1)) (ha : At E c (.inr (tk, n, g))) (hn : n < 2147483648) (kk : AW E mi G kc ns (pc + 1) L (vI n :: st) M) : AW E mi G kc ns pc L (vR c :: st) M := by
  intro C hs hL hst hM H locs ls hP hS hl
  have w := kk C hs hL (okc1 ⟨by omega, by omega⟩ (oktl hst)) hM H locs ls hP hS hl
  have e : Int32.ofNat n = i32 (n : Int) := rfl
  match tk, ha with
  | 0, ha => exact va_alen (x := (n, .inl (fun k : Nat => i32 (M c k)))) C.1 C.2.1 hs.1 hP c 0 ha.ai rfl e hd w
  | 1, ha => exact va_alen (x := (n, .inl (fun k : Nat => i32 (M c k)))) C.1 C.2.1 hs.1 hP c 1 ha.az rfl e hd w
  | tk + 2, ha =>
    have h2 : (WS E M)[c]? = some (eAd E c, .inl ((eCs E).2.2, n, .inr (.inr (.inr (.inr (fun k => (g k).map (eAd E))))))) := by
      rw [WS_at ha.1]; unfold ccell; rw [ha.2]; rfl
    exact va_alen C.1 C.2.1 hs.1 hP c 2 h2 rfl e hd w
theorem A_iast {c n : Nat} {i z : Int} {g : Nat → Option Nat} (hd : decode mi.2.1 pc = .ok (.iastore, 1))  (ha : At E c (aI n g)) (h0 : 0 ≤ i) (h1 : i < n) (kk : ∀ M1 : Mem, M1 = upm M c i z → okM M1 → AW E mi G kc ns (pc + 1) L st M1) : AW E mi G kc ns pc L (vI z :: vI i :: vR c :: st) M := by
  intro C hs hL hst hM H locs ls hP hS hl
  have hr : rng i := okhd (oktl hst)
  have hnew : (Sum.inl ((eCs E).1, n, Sum.inl (upd (fun k : Nat => i32 (M c k)) (i32 i).toNatClampNeg (i32 z))) : va_E) = ccell E (upm M c i z) c := by
    unfold ccell; rw [ha.2]
    refine congrArg _ (congrArg _ (congrArg _ (congrArg _ ?_)))
    funext k
    rw [i32_clamp h0 hr]
    unfold upd upm
    by_cases hk : k = i.toNat
    · rw [if_pos hk, if_pos ⟨rfl, by omega⟩]
    · rw [if_neg hk, if_neg (fun q => hk (by omega))]
  refine va_iast (i := i32 i) (x := i32 z) C.1 C.2.1 hs.1 hP (hs.2.1.D M) hS c 0 ha.ai rfl (i32_in h0 h1 hr) hd (fun H1 locs1 hP1 hD1 hS1 => ?_)
  rw [WS_set ha.1 hnew] at hP1
  exact kk _ rfl (okM_upm hM (okhd hst)) C hs hL (oktl (oktl (oktl hst))) (okM_upm hM (okhd hst)) H1 locs1 ls hP1 hS1 hl
theorem A_zast {c n : Nat} {i z : Int} {g : Nat → Option Nat} (hd : decode mi.2.1 pc = .ok (.bastore, 1)) (hz : z = 0 ∨ z = 1) (ha : At E c (aZ n g)) (h0 : 0 ≤ i) (h1 : i < n) (kk : ∀ M1 : Mem, M1 = upm M c i z → okM M1 → AW E mi G kc ns (pc + 1) L st M1) : AW E mi G kc ns pc L (vI z :: vI i :: vR c :: st) M := by
  intro C hs hL hst hM H locs ls hP hS hl
  have hr : rng i := okhd (oktl hst)
  have hnew : (Sum.inl ((eCs E).2.1, n, Sum.inl (upd (fun k : Nat => i32 (M c k)) (i32 i).toNatClampNeg (i32 z))) : va_E) = ccell E (upm M c i z) c := by
    unfold ccell; rw [ha.2]
    refine congrArg _ (congrArg _ (congrArg _ (congrArg _ ?_)))
    funext k
    rw [i32_clamp h0 hr]
    unfold upd upm
    by_cases hk : k = i.toNat
    · rw [if_pos hk, if_pos ⟨rfl, by omega⟩]
    · rw [if_neg hk, if_neg (fun q => hk (by omega))]
  refine va_zast (i := i32 i) (x := i32 z) C.1 C.2.1 hs.1 hP (hs.2.1.D M) hS c 1 ha.az rfl (i32_in h0 h1 hr) hd (fun H1 locs1 hP1 hD1 hS1 => ?_)
  have en : vp_nar .boolean (i32 z) = i32 z := by rcases hz with rfl | rfl <;> decide +kernel
  rw [en] at hP1
  rw [WS_set ha.1 hnew] at hP1
  exact kk _ rfl (okM_upm hM (okhd hst)) C hs hL (oktl (oktl (oktl hst))) (okM_upm hM (okhd hst)) H1 locs1 ls hP1 hS1 hl
theorem A_iret {l : Launch} {d : Nat} {z : Int} {Post : AV → Mem → Prop} (hR : Okr E l d G Post) (hd : decode mi.2.1 pc = .ok (.ireturn, 1)) (ht : mi.2.2.2 = some .int) (hp : Post (vI z) M) : AW E mi G 0 0 pc L (vI z :: []) M := by
  intro C hs hL hst hM H locs ls hP hS hl
  rw [hR.1]
  have hA : gA G = eA E := hR.2.1
  rw [hA] at hS
  exact W.iret (v := i32 z) C.1 C.2.1 (C.2.2.2.1.trans ht) (fun t ht hW => ⟨⟨vI z, M, rfl, okhd hst, hM, hp, by rw [ht]; exact hP⟩, hS.F ht⟩) hS.2.2 hd C.2.2.2.2.2.2
theorem A_zret {l : Launch} {d : Nat} {z : Int} {Post : AV → Mem → Prop} (hR : Okr E l d G Post) (hd : decode mi.2.1 pc = .ok (.ireturn, 1)) (ht : mi.2.2.2 = some .boolean) (hz : z = 0 ∨ z = 1) (hp : Post (vI z) M) : AW E mi G 0 0 pc L (vI z :: []) M := by
  intro C hs hL hst hM H locs ls hP hS hl
  rw [hR.1]
  have hA : gA G = eA E := hR.2.1
  rw [hA] at hS
  exact W.zret (v := i32 z) (ty := .boolean) C.1 C.2.1 (C.2.2.2.1.trans ht) (by rcases hz with rfl | rfl <;> decide +kernel) (fun t ht hW => ⟨⟨vI z, M, rfl, okhd hst, hM, hp, by rw [ht]; exact hP⟩, hS.F ht⟩) hS.2.2 hd C.2.2.2.2.2.2
theorem A_vret {l : Launch} {d : Nat} {Post : AV → Mem → Prop} (hR : Okr E l d G Post) (hd : decode mi.2.1 pc = .ok (.return_, 1)) (ht : mi.2.2.2 = none) (hp : Post vU M) : AW E mi G 0 0 pc L [] M := by
  intro C hs hL hst hM H locs ls hP hS hl
  rw [hR.1]
  have hA : gA G = eA E := hR.2.1
  rw [hA] at hS
  exact W.vret C.1 C.2.1 (C.2.2.2.1.trans ht) (fun t ht hW => ⟨⟨vU, M, rfl, trivial, hM, hp, by rw [ht]; exact hP⟩, hS.F ht⟩) hS.2.2 hd C.2.2.2.2.2.2
theorem A_aret {l : Launch} {d : Nat} {c : Nat} {Post : AV → Mem → Prop} (hR : Okr E l d G Post) (hd : decode mi.2.1 pc = .ok (.areturn, 1)) {nm : String} (ht : mi.2.2.2 = some (.object nm)) (hp : Post (vR c) M) : AW E mi G 0 0 pc L (vR c :: []) M := by
  intro C hs hL hst hM H locs ls hP hS hl
  rw [hR.1]
  have hA : gA G = eA E := hR.2.1
  rw [hA] at hS
  exact W.aret (v := .ref (eAd E c)) C.1 C.2.1 (C.2.2.2.1.trans ht) (Or.inl ⟨_, rfl⟩) (Or.inr ⟨_, rfl⟩) (fun t ht hW => ⟨⟨vR c, M, rfl, trivial, hM, hp, by rw [ht]; exact hP⟩, hS.F ht⟩) hS.2.2 hd C.2.2.2.2.2.2
/-- the locals at entry -/
def entL : List AV → List AV
  | [] => []
  | .inr (.inr (.inl z)) :: t => vL z :: vU :: entL t
  | v :: t => v :: entL t
theorem entL_args (E : EN) : ∀ (As : List AV) (i : Nat) (m : Nat), (∀ v ∈ As, isU v = false) → ∀ q ∈ lvOf E i (entL As ++ List.replicate m vU), q ∈ lv_args i (As.map (cval E))
  | [], i, m, _, q, hq => by
    obtain ⟨j, v, h1, h2, h3⟩ := (mem_lvOf _ _).mp hq
    have hv := List.mem_of_getElem? h1
    simp only [entL, List.nil_append] at hv
    rw [(List.mem_replicate.mp hv).2] at h2
    cases h2
  | v :: t, i, m, hu, q, hq => by
    have ht := entL_args E t
    have hut : ∀ w ∈ t, isU w = false := fun w hw => hu w (List.mem_cons_of_mem _ hw)
    have hv := hu v List.mem_cons_self
    rcases v with z | c | z | k | u
    · simp only [entL, List.cons_append, lvOf, isU, List.map_cons, lv_args, cval, Value.category] at hq ⊢
      rcases List.mem_cons.mp (by simpa using hq) with h | h
      · exact List.mem_cons.mpr (Or.inl h)
      · exact List.mem_cons_of_mem _ (by simpa using ht (i + 1) m hut q h)
    · simp only [entL, List.cons_append, lvOf, isU, List.map_cons, lv_args, cval, Value.category] at hq ⊢
      rcases List.mem_cons.mp (by simpa using hq) with h | h
      · exact List.mem_cons.mpr (Or.inl h)
      · exact List.mem_cons_of_mem _ (by simpa using ht (i + 1) m hut q h)
    · simp only [entL, List.cons_append, lvOf, isU, List.map_cons, lv_args, cval, Value.category] at hq ⊢
      rcases List.mem_cons.mp (by simpa using hq) with h | h
      · exact List.mem_cons.mpr (Or.inl h)
      · exact List.mem_cons_of_mem _ (by simpa using ht (i + 1 + 1) m hut q h)
    · simp only [entL, List.cons_append, lvOf, isU, List.map_cons, lv_args, cval, Value.category] at hq ⊢
      rcases List.mem_cons.mp (by simpa using hq) with h | h
      · exact List.mem_cons.mpr (Or.inl h)
      · exact List.mem_cons_of_mem _ (by simpa using ht (i + 1) m hut q h)
    · cases hv
theorem entL_ok : ∀ (As : List AV), (∀ v ∈ As, okv v) → ∀ v ∈ entL As, okv v
  | [], _, v, hv => by cases hv
  | a :: t, h, v, hv => by
    have ih := entL_ok t (fun w hw => h w (List.mem_cons_of_mem _ hw))
    have ha := h a List.mem_cons_self
    rcases a with z | c | z | k | u <;> simp only [entL, List.mem_cons] at hv
    · rcases hv with rfl | hv
      · exact ha
      · exact ih v hv
    · rcases hv with rfl | hv
      · exact ha
      · exact ih v hv
    · rcases hv with rfl | rfl | hv
      · exact ha
      · exact trivial
      · exact ih v hv
    · rcases hv with rfl | hv
      · exact ha
      · exact ih v hv
    · rcases hv with rfl | hv
      · exact ha
      · exact ih v hv
/-- a contract out of the walk -/
theorem Cn.of {l : Launch} {d : Nat} {As : List AV} {Post : AV → Mem → Prop} {L0 : List AV} (hy : plainName mi.1.cls = true) (hu : As.all (fun v => !isU v) = true) (hn : (lg_sl (As.map (cval E))).length ≤ mi.2.2.1) (m : Nat) (hL0 : entL As ++ List.replicate m vU = L0)
    (h : (∀ v ∈ As, okv v) → okM M → ∀ G : CX, Okr E l d G Post → AW E mi G 0 0 0 L0 [] M) : Cn E l mi d As M Post := by
  intro hAs hM
  refine Met.ofW (cc := mi.2.1) (maxL := mi.2.2.1) (ret := mi.2.2.2) hy rfl ?_
  intro p e s m0 args below meth c s₁ B hml hv
  obtain ⟨rfl, hP, hs⟩ := hv
  have hts := atoms_spec (ws := wsM mi) B.pre
  have hl := lv_entry (As.map (cval E)) hn
  rw [lg_entry_eq]
  refine h hAs hM (p, l, e, rmd d, s, m0, (As.map (cval E)).toArray, below, meth, c, eA E, MQ below (qC E Post) (As.map (cval E)).toArray s 0 0 (eA E)) ⟨rfl, rfl, rfl, rfl⟩ ⟨B.exec, B.bytes, hml, B.returns, findClass_of_methodNamed B.named, fun w hw => hts w (List.mem_cons_of_mem _ hw), B.notSynchronized⟩ hs ?_ (fun v hv => by cases hv) hM s.heap [] _ hP va_S.rf ⟨hl.1, hl.2.1, fun q hq => hl.2.2 q ?_⟩
  · rw [← hL0]
    intro v hv
    rcases List.mem_append.mp hv with hv | hv
    · exact entL_ok As hAs v hv
    · rw [(List.mem_replicate.mp hv).2]; exact trivial
  · rw [← hL0] at hq
    exact entL_args E As 0 m (fun v hv => by simpa using List.all_eq_true.mp hu v hv) q hq
theorem pC_blind {As : List AV} : FrameBlind (pC E As M) := fun a U g mk ⟨h1, h2, h3⟩ =>
  have q : U.vm.Alike (U.calling g mk a).vm := Vm.Alike.refl U.vm
  ⟨h1, h2, va_K.moved (u := U) (U := U.calling g mk a) q h3.1, h3.2.1, vk_S.moved (u := U) (U := U.calling g mk a) q h3.2.2.1, fun i hi => vk_R.same (u := U) (U := U.calling g mk a) rfl (h3.2.2.2.1 i hi), va_Z.moved (u := U) (U := U.calling g mk a) q h3.2.2.2.2.1,
    h3.2.2.2.2.2.elim (fun h => Or.inl (va_Z.moved (u := U) (U := U.calling g mk a) q h)) (fun h => Or.inr (va_Z.moved (u := U) (U := U.calling g mk a) q h))⟩
theorem Sta.moved {A : Nat → Prop} {s U : State} {H : Heap} {locs : List Loc} (h : Sta E A s) (hM : okM M) (hP : va_P (eD E) vwCl (WS E M) H) (hS : va_S A s.heap H locs) (hU : U.heap = H) (hW : s.WarmedH U.vm) : Sta E (eA E) U := by
  have hsub : ∀ q, eA E q → A q := fun q ⟨i, hi, hq⟩ => by rw [hq]; exact h.2.1.2 i hi
  have z : ∀ {C n d : String} {v : Value}, va_Z C n d v A s s.heap → va_Z C n d v (eA E) U U.heap := fun hz => by
    rw [hU]
    exact ((hz.kept hS.2.1).moved hW.alike).narrow hsub
  refine ⟨va_K.moved hW.alike h.1, ⟨h.2.1.1, fun i hi => ⟨i, hi, rfl⟩⟩, ?_, fun i hi => (h.2.2.2.1 i hi).warm hW, z h.2.2.2.2.1, h.2.2.2.2.2.elim (fun h => Or.inl (z h)) (fun h => Or.inr (z h))⟩
  rw [hU]
  exact ((h.2.2.1.kept hS.2.1).moved hW.alike).narrow hsub
def wts (st : List AV) : Nat := (st.map (fun v => (match v with | .inr (.inr (.inl _)) => 2 | _ => 1 : Nat))).sum
theorem wts_eq (st : List AV) : ((st.map (cval E)).map fun v => v.category).sum = wts st := by
  unfold wts
  rw [List.map_map]
  congr 1
  apply List.map_congr_left
  intro v hv
  rcases v with z | c | z | k | u <;> rfl
theorem callB_tb {mj : MI} {d d' n idx : Nat} (C : Okc mi G) (hR : Rm G d kc ns) (hlt : d' < d) (hO : MOK mj n) (hlink : Cond.methodLink mi.1.cls idx mj.1 ∈ TB) : CallB (gR G) (gs G) (ga G) mi.1.cls idx mj.1 mj.2.1 mj.2.2.1 mj.2.2.2 (wsM mj) (rmd d') 0 0 n :=
  callB_of (Ts := TB) (ws' := TB) n C.2.2.2.2.2.1 (wsM_good (mi := mj) (y := mj.1) (b := mj.2.1) (n := mj.2.2.1) (r := mj.2.2.2) hO.1) rfl rfl rfl (C.2.2.2.2.2.1 _ hO.2.1) (C.2.2.2.2.2.1 _ hlink) hO.2.2.1 ⟨Nat.le_trans (by show d' + 1 ≤ d; omega) hR.1, by
    have h1 := hR.2.1
    have h2 := hO.2.2.2
    show 8 + (mj.2.2.1 + 11) + 40 * d' ≤ _
    omega⟩
theorem A_ret {mj : MI} {l : Launch} {Post : AV → Mem → Prop} {A1 : Array Value} {rest st0 : List AV} {lsx : Array Slot} {H : Heap} {locs : List Loc} (C : Okc mi G) (hs : Sta E (gA G) (gs G)) (hS : va_S (gA G) (gs G).heap H locs)
    (hr : va_Run (gp G) (gl G) (ge G) (gR G) (gs G) (gm G) (ga G) (gb G) (gt G) (gc G) H locs kc ns 0 0 (F0 (gm G) pc lsx (st0.map (cval E))) (rest.map (cval E)) (qC E Post A1) (eA E))
    (kk : ∀ r M', okv r → okM M' → Post r M' → ∀ (H1 : Heap) (locs1 : List Loc), va_P (eD E) vwCl (WS E M') H1 → va_S (gA G) (gs G).heap H1 locs1 → W (gp G) (gl G) (ge G) (gR G) (gs G) (gm G) (ga G) (gb G) (gt G) (gc G) H1 locs1 kc ns (gQ G) (F0 (gm G) (pc + 3) lsx ((rout E r).toList ++ rest.map (cval E)))) :
    W (gp G) (gl G) (ge G) (gR G) (gs G) (gm G) (ga G) (gb G) (gt G) (gc G) H locs kc ns (gQ G) (F0 (gm G) pc lsx (st0.map (cval E))) := by
  intro T hT X
  obtain ⟨v, st₀, t, T', L1, h0, X', hL1, e1, e2, ⟨⟨r, M', hv, hok, hM', hp, hP'⟩, hz, hk⟩, stp⟩ := hr T hT X
  cases hv
  rw [h0] at hz hk
  have hsub : ∀ q, eA E q → gA G q := fun q ⟨i, hi, hq⟩ => by rw [hq]; exact hs.2.1.2 i hi
  obtain ⟨t2, a1, b1⟩ := kk r M' hok hM' hp T'.heap (locs ++ L1) (by rw [e1]; exact hP')
    ⟨Nat.le_trans hS.1 (by rw [e1]; exact hz), fun q h1 h2 => by rw [e1, hk q (Nat.lt_of_lt_of_le h1 hS.1) (fun z => h2 (hsub q z))]; exact hS.2.1 q h1 h2, fun q hq => by
      rcases List.mem_append.mp hq with h | h
      · exact hS.2.2 q h
      · exact hsub _ (hL1 q h)⟩ T' rfl X'
  exact ⟨t2, stp t2 a1, b1⟩
theorem A_vI0 {mj : MI} {d d' idx b ci : Nat}  {fs : List (Option (Option Nat))} {q : vw_C} {Q : Int → Mem → Prop} (hd : decode mi.2.1 pc = .ok (.invokevirtual idx, 3)) (hR : Rm G d kc ns) (hlt : d' < d) (hO : MOK mj 0) (hV : MV mj) (hlink : Cond.methodLink mi.1.cls idx mj.1 ∈ TB) (hb : At E b (.inl (ci, fs))) (hci : vwCl[ci]? = some q) (hq : q.1 = mj.1.cls) (hw : Nat.ble (wts st) 8 = true) (hc : Cn E (gl G) mj d' [vR b] M (fun r M1 => ∃ z, r = vI z ∧ Q z M1)) (kk : ∀ (z : Int) (M1 : Mem), rng z → okM M1 → Q z M1 → AW E mi G kc ns (pc + 3) L (vI z :: st) M1) : AW E mi G kc ns pc L (vR b :: st) M := by
  intro C hs hL hst hM H locs ls hP hS hl
  refine A_ret (mj := mj) (l := gl G) (st0 := vR b :: st) (rest := st) C hs hS (va_runV (n := 0) (As := []) (rest := st.map (cval E)) (Ts := TB) (own := mi.1.cls) (C := mj.1.cls) (nL := mi.2.2.1) ⟨C.1, C.2.1, C.2.2.1, C.2.2.2.2.1, C.2.2.2.2.2.1⟩ (hc (okc1 trivial (fun _ h => by cases h)) hM) ⟨callB_tb C hR hlt hO hlink, C.2.2.2.2.2.1 _ hV.1, C.2.2.2.2.2.1 _ hV.2⟩ ⟨pC_blind, by rw [← hq]; exact va_recv hs.1 hP hci hb.obj, fun U hU hW => ⟨rfl, by rw [hU]; exact hP, hs.moved hM hP hS hU hW⟩⟩ rfl rfl hl.1 rfl (by rw [wts_eq]; show 0 + wts st ≤ 8; have := Nat.le_of_ble_eq_true hw; omega) hd ⟨hR.2.2.1, hR.2.2.2⟩) (fun r M' hok hM' hp H1 locs1 hP1 hS1 => ?_)
  · obtain ⟨z, rfl, hq⟩ := hp
    exact kk z M' hok hM' hq C hs hL (okc1 hok (oktl hst)) hM' H1 locs1 ls hP1 hS1 hl
theorem A_vV0 {mj : MI} {d d' idx b ci : Nat}  {fs : List (Option (Option Nat))} {q : vw_C} {Q : Mem → Prop} (hd : decode mi.2.1 pc = .ok (.invokevirtual idx, 3)) (hR : Rm G d kc ns) (hlt : d' < d) (hO : MOK mj 0) (hV : MV mj) (hlink : Cond.methodLink mi.1.cls idx mj.1 ∈ TB) (hb : At E b (.inl (ci, fs))) (hci : vwCl[ci]? = some q) (hq : q.1 = mj.1.cls) (hw : Nat.ble (wts st) 8 = true) (hc : Cn E (gl G) mj d' [vR b] M (fun r M1 => r = vU ∧ Q M1)) (kk : ∀ (M1 : Mem), okM M1 → Q M1 → AW E mi G kc ns (pc + 3) L st M1) : AW E mi G kc ns pc L (vR b :: st) M := by
  intro C hs hL hst hM H locs ls hP hS hl
  refine A_ret (mj := mj) (l := gl G) (st0 := vR b :: st) (rest := st) C hs hS (va_runV (n := 0) (As := []) (rest := st.map (cval E)) (Ts := TB) (own := mi.1.cls) (C := mj.1.cls) (nL := mi.2.2.1) ⟨C.1, C.2.1, C.2.2.1, C.2.2.2.2.1, C.2.2.2.2.2.1⟩ (hc (okc1 trivial (fun _ h => by cases h)) hM) ⟨callB_tb C hR hlt hO hlink, C.2.2.2.2.2.1 _ hV.1, C.2.2.2.2.2.1 _ hV.2⟩ ⟨pC_blind, by rw [← hq]; exact va_recv hs.1 hP hci hb.obj, fun U hU hW => ⟨rfl, by rw [hU]; exact hP, hs.moved hM hP hS hU hW⟩⟩ rfl rfl hl.1 rfl (by rw [wts_eq]; show 0 + wts st ≤ 8; have := Nat.le_of_ble_eq_true hw; omega) hd ⟨hR.2.2.1, hR.2.2.2⟩) (fun r M' hok hM' hp H1 locs1 hP1 hS1 => ?_)
  · obtain ⟨rfl, hq⟩ := hp
    exact kk M' hM' hq C hs hL (oktl hst) hM' H1 locs1 ls hP1 hS1 hl
theorem A_vR0 {mj : MI} {d d' idx b ci : Nat}  {fs : List (Option (Option Nat))} {q : vw_C} {Q : Nat → Mem → Prop} (hd : decode mi.2.1 pc = .ok (.invokevirtual idx, 3)) (hR : Rm G d kc ns) (hlt : d' < d) (hO : MOK mj 0) (hV : MV mj) (hlink : Cond.methodLink mi.1.cls idx mj.1 ∈ TB) (hb : At E b (.inl (ci, fs))) (hci : vwCl[ci]? = some q) (hq : q.1 = mj.1.cls) (hw : Nat.ble (wts st) 8 = true) (hc : Cn E (gl G) mj d' [vR b] M (fun r M1 => ∃ j, r = vR j ∧ Q j M1)) (kk : ∀ (j : Nat) (M1 : Mem), okM M1 → Q j M1 → AW E mi G kc ns (pc + 3) L (vR j :: st) M1) : AW E mi G kc ns pc L (vR b :: st) M := by
  intro C hs hL hst hM H locs ls hP hS hl
  refine A_ret (mj := mj) (l := gl G) (st0 := vR b :: st) (rest := st) C hs hS (va_runV (n := 0) (As := []) (rest := st.map (cval E)) (Ts := TB) (own := mi.1.cls) (C := mj.1.cls) (nL := mi.2.2.1) ⟨C.1, C.2.1, C.2.2.1, C.2.2.2.2.1, C.2.2.2.2.2.1⟩ (hc (okc1 trivial (fun _ h => by cases h)) hM) ⟨callB_tb C hR hlt hO hlink, C.2.2.2.2.2.1 _ hV.1, C.2.2.2.2.2.1 _ hV.2⟩ ⟨pC_blind, by rw [← hq]; exact va_recv hs.1 hP hci hb.obj, fun U hU hW => ⟨rfl, by rw [hU]; exact hP, hs.moved hM hP hS hU hW⟩⟩ rfl rfl hl.1 rfl (by rw [wts_eq]; show 0 + wts st ≤ 8; have := Nat.le_of_ble_eq_true hw; omega) hd ⟨hR.2.2.1, hR.2.2.2⟩) (fun r M' hok hM' hp H1 locs1 hP1 hS1 => ?_)
  · obtain ⟨z, rfl, hq⟩ := hp
    exact kk z M' hM' hq C hs hL (okc1 trivial (oktl hst)) hM' H1 locs1 ls hP1 hS1 hl
theorem A_vI1 {mj : MI} {d d' idx b ci : Nat} {a1 : AV} {fs : List (Option (Option Nat))} {q : vw_C} {Q : Int → Mem → Prop} (hd : decode mi.2.1 pc = .ok (.invokevirtual idx, 3)) (hR : Rm G d kc ns) (hlt : d' < d) (hO : MOK mj 1) (hV : MV mj) (hlink : Cond.methodLink mi.1.cls idx mj.1 ∈ TB) (hb : At E b (.inl (ci, fs))) (hci : vwCl[ci]? = some q) (hq : q.1 = mj.1.cls) (hw : Nat.ble (wts st) 8 = true) (hc : Cn E (gl G) mj d' [vR b, a1] M (fun r M1 => ∃ z, r = vI z ∧ Q z M1)) (kk : ∀ (z : Int) (M1 : Mem), rng z → okM M1 → Q z M1 → AW E mi G kc ns (pc + 3) L (vI z :: st) M1) : AW E mi G kc ns pc L (a1 :: vR b :: st) M := by
  intro C hs hL hst hM H locs ls hP hS hl
  refine A_ret (mj := mj) (l := gl G) (st0 := a1 :: vR b :: st) (rest := st) C hs hS (va_runV (n := 1) (As := [cval E a1]) (rest := st.map (cval E)) (Ts := TB) (own := mi.1.cls) (C := mj.1.cls) (nL := mi.2.2.1) ⟨C.1, C.2.1, C.2.2.1, C.2.2.2.2.1, C.2.2.2.2.2.1⟩ (hc (okc1 trivial (okc1 (okhd hst) (fun _ h => by cases h))) hM) ⟨callB_tb C hR hlt hO hlink, C.2.2.2.2.2.1 _ hV.1, C.2.2.2.2.2.1 _ hV.2⟩ ⟨pC_blind, by rw [← hq]; exact va_recv hs.1 hP hci hb.obj, fun U hU hW => ⟨rfl, by rw [hU]; exact hP, hs.moved hM hP hS hU hW⟩⟩ rfl rfl hl.1 rfl (by rw [wts_eq]; show 0 + wts st ≤ 8; have := Nat.le_of_ble_eq_true hw; omega) hd ⟨hR.2.2.1, hR.2.2.2⟩) (fun r M' hok hM' hp H1 locs1 hP1 hS1 => ?_)
  · obtain ⟨z, rfl, hq⟩ := hp
    exact kk z M' hok hM' hq C hs hL (okc1 hok (oktl (oktl hst))) hM' H1 locs1 ls hP1 hS1 hl
theorem A_vV1 {mj : MI} {d d' idx b ci : Nat} {a1 : AV} {fs : List (Option (Option Nat))} {q : vw_C} {Q : Mem → Prop} (hd : decode mi.2.1 pc = .ok (.invokevirtual idx, 3)) (hR : Rm G d kc ns) (hlt : d' < d) (hO : MOK mj 1) (hV : MV mj) (hlink : Cond.methodLink mi.1.cls idx mj.1 ∈ TB) (hb : At E b (.inl (ci, fs))) (hci : vwCl[ci]? = some q) (hq : q.1 = mj.1.cls) (hw : Nat.ble (wts st) 8 = true) (hc : Cn E (gl G) mj d' [vR b, a1] M (fun r M1 => r = vU ∧ Q M1)) (kk : ∀ (M1 : Mem), okM M1 → Q M1 → AW E mi G kc ns (pc + 3) L st M1) : AW E mi G kc ns pc L (a1 :: vR b :: st) M := by
  intro C hs hL hst hM H locs ls hP hS hl
  refine A_ret (mj := mj) (l := gl G) (st0 := a1 :: vR b :: st) (rest := st) C hs hS (va_runV (n := 1) (As := [cval E a1]) (rest := st.map (cval E)) (Ts := TB) (own := mi.1.cls) (C := mj.1.cls) (nL := mi.2.2.1) ⟨C.1, C.2.1, C.2.2.1, C.2.2.2.2.1, C.2.2.2.2.2.1⟩ (hc (okc1 trivial (okc1 (okhd hst) (fun _ h => by cases h))) hM) ⟨callB_tb C hR hlt hO hlink, C.2.2.2.2.2.1 _ hV.1, C.2.2.2.2.2.1 _ hV.2⟩ ⟨pC_blind, by rw [← hq]; exact va_recv hs.1 hP hci hb.obj, fun U hU hW => ⟨rfl, by rw [hU]; exact hP, hs.moved hM hP hS hU hW⟩⟩ rfl rfl hl.1 rfl (by rw [wts_eq]; show 0 + wts st ≤ 8; have := Nat.le_of_ble_eq_true hw; omega) hd ⟨hR.2.2.1, hR.2.2.2⟩) (fun r M' hok hM' hp H1 locs1 hP1 hS1 => ?_)
  · obtain ⟨rfl, hq⟩ := hp
    exact kk M' hM' hq C hs hL (oktl (oktl hst)) hM' H1 locs1 ls hP1 hS1 hl
theorem A_vR1 {mj : MI} {d d' idx b ci : Nat} {a1 : AV} {fs : List (Option (Option Nat))} {q : vw_C} {Q : Nat → Mem → Prop} (hd : decode mi.2.1 pc = .ok (.invokevirtual idx, 3)) (hR : Rm G d kc ns) (hlt : d' < d) (hO : MOK mj 1) (hV : MV mj) (hlink : Cond.methodLink mi.1.cls idx mj.1 ∈ TB) (hb : At E b (.inl (ci, fs))) (hci : vwCl[ci]? = some q) (hq : q.1 = mj.1.cls) (hw : Nat.ble (wts st) 8 = true) (hc : Cn E (gl G) mj d' [vR b, a1] M (fun r M1 => ∃ j, r = vR j ∧ Q j M1)) (kk : ∀ (j : Nat) (M1 : Mem), okM M1 → Q j M1 → AW E mi G kc ns (pc + 3) L (vR j :: st) M1) : AW E mi G kc ns pc L (a1 :: vR b :: st) M := by
  intro C hs hL hst hM H locs ls hP hS hl
  refine A_ret (mj := mj) (l := gl G) (st0 := a1 :: vR b :: st) (rest := st) C hs hS (va_runV (n := 1) (As := [cval E a1]) (rest := st.map (cval E)) (Ts := TB) (own := mi.1.cls) (C := mj.1.cls) (nL := mi.2.2.1) ⟨C.1, C.2.1, C.2.2.1, C.2.2.2.2.1, C.2.2.2.2.2.1⟩ (hc (okc1 trivial (okc1 (okhd hst) (fun _ h => by cases h))) hM) ⟨callB_tb C hR hlt hO hlink, C.2.2.2.2.2.1 _ hV.1, C.2.2.2.2.2.1 _ hV.2⟩ ⟨pC_blind, by rw [← hq]; exact va_recv hs.1 hP hci hb.obj, fun U hU hW => ⟨rfl, by rw [hU]; exact hP, hs.moved hM hP hS hU hW⟩⟩ rfl rfl hl.1 rfl (by rw [wts_eq]; show 0 + wts st ≤ 8; have := Nat.le_of_ble_eq_true hw; omega) hd ⟨hR.2.2.1, hR.2.2.2⟩) (fun r M' hok hM' hp H1 locs1 hP1 hS1 => ?_)
  · obtain ⟨z, rfl, hq⟩ := hp
    exact kk z M' hM' hq C hs hL (okc1 trivial (oktl (oktl hst))) hM' H1 locs1 ls hP1 hS1 hl
theorem A_vI2 {mj : MI} {d d' idx b ci : Nat} {a1 a2 : AV} {fs : List (Option (Option Nat))} {q : vw_C} {Q : Int → Mem → Prop} (hd : decode mi.2.1 pc = .ok (.invokevirtual idx, 3)) (hR : Rm G d kc ns) (hlt : d' < d) (hO : MOK mj 2) (hV : MV mj) (hlink : Cond.methodLink mi.1.cls idx mj.1 ∈ TB) (hb : At E b (.inl (ci, fs))) (hci : vwCl[ci]? = some q) (hq : q.1 = mj.1.cls) (hw : Nat.ble (wts st) 8 = true) (hc : Cn E (gl G) mj d' [vR b, a1, a2] M (fun r M1 => ∃ z, r = vI z ∧ Q z M1)) (kk : ∀ (z : Int) (M1 : Mem), rng z → okM M1 → Q z M1 → AW E mi G kc ns (pc + 3) L (vI z :: st) M1) : AW E mi G kc ns pc L (a2 :: a1 :: vR b :: st) M := by
  intro C hs hL hst hM H locs ls hP hS hl
  refine A_ret (mj := mj) (l := gl G) (st0 := a2 :: a1 :: vR b :: st) (rest := st) C hs hS (va_runV (n := 2) (As := [cval E a1, cval E a2]) (rest := st.map (cval E)) (Ts := TB) (own := mi.1.cls) (C := mj.1.cls) (nL := mi.2.2.1) ⟨C.1, C.2.1, C.2.2.1, C.2.2.2.2.1, C.2.2.2.2.2.1⟩ (hc (okc1 trivial (okc1 (okhd (oktl hst)) (okc1 (okhd hst) (fun _ h => by cases h)))) hM) ⟨callB_tb C hR hlt hO hlink, C.2.2.2.2.2.1 _ hV.1, C.2.2.2.2.2.1 _ hV.2⟩ ⟨pC_blind, by rw [← hq]; exact va_recv hs.1 hP hci hb.obj, fun U hU hW => ⟨rfl, by rw [hU]; exact hP, hs.moved hM hP hS hU hW⟩⟩ rfl rfl hl.1 rfl (by rw [wts_eq]; show 0 + wts st ≤ 8; have := Nat.le_of_ble_eq_true hw; omega) hd ⟨hR.2.2.1, hR.2.2.2⟩) (fun r M' hok hM' hp H1 locs1 hP1 hS1 => ?_)
  · obtain ⟨z, rfl, hq⟩ := hp
    exact kk z M' hok hM' hq C hs hL (okc1 hok (oktl (oktl (oktl hst)))) hM' H1 locs1 ls hP1 hS1 hl
theorem A_vV2 {mj : MI} {d d' idx b ci : Nat} {a1 a2 : AV} {fs : List (Option (Option Nat))} {q : vw_C} {Q : Mem → Prop} (hd : decode mi.2.1 pc = .ok (.invokevirtual idx, 3)) (hR : Rm G d kc ns) (hlt : d' < d) (hO : MOK mj 2) (hV : MV mj) (hlink : Cond.methodLink mi.1.cls idx mj.1 ∈ TB) (hb : At E b (.inl (ci, fs))) (hci : vwCl[ci]? = some q) (hq : q.1 = mj.1.cls) (hw : Nat.ble (wts st) 8 = true) (hc : Cn E (gl G) mj d' [vR b, a1, a2] M (fun r M1 => r = vU ∧ Q M1)) (kk : ∀ (M1 : Mem), okM M1 → Q M1 → AW E mi G kc ns (pc + 3) L st M1) : AW E mi G kc ns pc L (a2 :: a1 :: vR b :: st) M := by
  intro C hs hL hst hM H locs ls hP hS hl
  refine A_ret (mj := mj) (l := gl G) (st0 := a2 :: a1 :: vR b :: st) (rest := st) C hs hS (va_runV (n := 2) (As := [cval E a1, cval E a2]) (rest := st.map (cval E)) (Ts := TB) (own := mi.1.cls) (C := mj.1.cls) (nL := mi.2.2.1) ⟨C.1, C.2.1, C.2.2.1, C.2.2.2.2.1, C.2.2.2.2.2.1⟩ (hc (okc1 trivial (okc1 (okhd (oktl hst)) (okc1 (okhd hst) (fun _ h => by cases h)))) hM) ⟨callB_tb C hR hlt hO hlink, C.2.2.2.2.2.1 _ hV.1, C.2.2.2.2.2.1 _ hV.2⟩ ⟨pC_blind, by rw [← hq]; exact va_recv hs.1 hP hci hb.obj, fun U hU hW => ⟨rfl, by rw [hU]; exact hP, hs.moved hM hP hS hU hW⟩⟩ rfl rfl hl.1 rfl (by rw [wts_eq]; show 0 + wts st ≤ 8; have := Nat.le_of_ble_eq_true hw; omega) hd ⟨hR.2.2.1, hR.2.2.2⟩) (fun r M' hok hM' hp H1 locs1 hP1 hS1 => ?_)
  · obtain ⟨rfl, hq⟩ := hp
    exact kk M' hM' hq C hs hL (oktl (oktl (oktl hst))) hM' H1 locs1 ls hP1 hS1 hl
theorem A_vI3 {mj : MI} {d d' idx b ci : Nat} {a1 a2 a3 : AV} {fs : List (Option (Option Nat))} {q : vw_C} {Q : Int → Mem → Prop} (hd : decode mi.2.1 pc = .ok (.invokevirtual idx, 3)) (hR : Rm G d kc ns) (hlt : d' < d) (hO : MOK mj 3) (hV : MV mj) (hlink : Cond.methodLink mi.1.cls idx mj.1 ∈ TB) (hb : At E b (.inl (ci, fs))) (hci : vwCl[ci]? = some q) (hq : q.1 = mj.1.cls) (hw : Nat.ble (wts st) 8 = true) (hc : Cn E (gl G) mj d' [vR b, a1, a2, a3] M (fun r M1 => ∃ z, r = vI z ∧ Q z M1)) (kk : ∀ (z : Int) (M1 : Mem), rng z → okM M1 → Q z M1 → AW E mi G kc ns (pc + 3) L (vI z :: st) M1) : AW E mi G kc ns pc L (a3 :: a2 :: a1 :: vR b :: st) M := by
  intro C hs hL hst hM H locs ls hP hS hl
  refine A_ret (mj := mj) (l := gl G) (st0 := a3 :: a2 :: a1 :: vR b :: st) (rest := st) C hs hS (va_runV (n := 3) (As := [cval E a1, cval E a2, cval E a3]) (rest := st.map (cval E)) (Ts := TB) (own := mi.1.cls) (C := mj.1.cls) (nL := mi.2.2.1) ⟨C.1, C.2.1, C.2.2.1, C.2.2.2.2.1, C.2.2.2.2.2.1⟩ (hc (okc1 trivial (okc1 (okhd (oktl (oktl hst))) (okc1 (okhd (oktl hst)) (okc1 (okhd hst) (fun _ h => by cases h))))) hM) ⟨callB_tb C hR hlt hO hlink, C.2.2.2.2.2.1 _ hV.1, C.2.2.2.2.2.1 _ hV.2⟩ ⟨pC_blind, by rw [← hq]; exact va_recv hs.1 hP hci hb.obj, fun U hU hW => ⟨rfl, by rw [hU]; exact hP, hs.moved hM hP hS hU hW⟩⟩ rfl rfl hl.1 rfl (by rw [wts_eq]; show 0 + wts st ≤ 8; have := Nat.le_of_ble_eq_true hw; omega) hd ⟨hR.2.2.1, hR.2.2.2⟩) (fun r M' hok hM' hp H1 locs1 hP1 hS1 => ?_)
  · obtain ⟨z, rfl, hq⟩ := hp
    exact kk z M' hok hM' hq C hs hL (okc1 hok (oktl (oktl (oktl (oktl hst))))) hM' H1 locs1 ls hP1 hS1 hl
theorem A_vV3 {mj : MI} {d d' idx b ci : Nat} {a1 a2 a3 : AV} {fs : List (Option (Option Nat))} {q : vw_C} {Q : Mem → Prop} (hd : decode mi.2.1 pc = .ok (.invokevirtual idx, 3)) (hR : Rm G d kc ns) (hlt : d' < d) (hO : MOK mj 3) (hV : MV mj) (hlink : Cond.methodLink mi.1.cls idx mj.1 ∈ TB) (hb : At E b (.inl (ci, fs))) (hci : vwCl[ci]? = some q) (hq : q.1 = mj.1.cls) (hw : Nat.ble (wts st) 8 = true) (hc : Cn E (gl G) mj d' [vR b, a1, a2, a3] M (fun r M1 => r = vU ∧ Q M1)) (kk : ∀ (M1 : Mem), okM M1 → Q M1 → AW E mi G kc ns (pc + 3) L st M1) : AW E mi G kc ns pc L (a3 :: a2 :: a1 :: vR b :: st) M := by
  intro C hs hL hst hM H locs ls hP hS hl
  refine A_ret (mj := mj) (l := gl G) (st0 := a3 :: a2 :: a1 :: vR b :: st) (rest := st) C hs hS (va_runV (n := 3) (As := [cval E a1, cval E a2, cval E a3]) (rest := st.map (cval E)) (Ts := TB) (own := mi.1.cls) (C := mj.1.cls) (nL := mi.2.2.1) ⟨C.1, C.2.1, C.2.2.1, C.2.2.2.2.1, C.2.2.2.2.2.1⟩ (hc (okc1 trivial (okc1 (okhd (oktl (oktl hst))) (okc1 (okhd (oktl hst)) (okc1 (okhd hst) (fun _ h => by cases h))))) hM) ⟨callB_tb C hR hlt hO hlink, C.2.2.2.2.2.1 _ hV.1, C.2.2.2.2.2.1 _ hV.2⟩ ⟨pC_blind, by rw [← hq]; exact va_recv hs.1 hP hci hb.obj, fun U hU hW => ⟨rfl, by rw [hU]; exact hP, hs.moved hM hP hS hU hW⟩⟩ rfl rfl hl.1 rfl (by rw [wts_eq]; show 0 + wts st ≤ 8; have := Nat.le_of_ble_eq_true hw; omega) hd ⟨hR.2.2.1, hR.2.2.2⟩) (fun r M' hok hM' hp H1 locs1 hP1 hS1 => ?_)
  · obtain ⟨rfl, hq⟩ := hp
    exact kk M' hM' hq C hs hL (oktl (oktl (oktl (oktl hst)))) hM' H1 locs1 ls hP1 hS1 hl
theorem A_vI4 {mj : MI} {d d' idx b ci : Nat} {a1 a2 a3 a4 : AV} {fs : List (Option (Option Nat))} {q : vw_C} {Q : Int → Mem → Prop} (hd : decode mi.2.1 pc = .ok (.invokevirtual idx, 3)) (hR : Rm G d kc ns) (hlt : d' < d) (hO : MOK mj 4) (hV : MV mj) (hlink : Cond.methodLink mi.1.cls idx mj.1 ∈ TB) (hb : At E b (.inl (ci, fs))) (hci : vwCl[ci]? = some q) (hq : q.1 = mj.1.cls) (hw : Nat.ble (wts st) 8 = true) (hc : Cn E (gl G) mj d' [vR b, a1, a2, a3, a4] M (fun r M1 => ∃ z, r = vI z ∧ Q z M1)) (kk : ∀ (z : Int) (M1 : Mem), rng z → okM M1 → Q z M1 → AW E mi G kc ns (pc + 3) L (vI z :: st) M1) : AW E mi G kc ns pc L (a4 :: a3 :: a2 :: a1 :: vR b :: st) M := by
  intro C hs hL hst hM H locs ls hP hS hl
  refine A_ret (mj := mj) (l := gl G) (st0 := a4 :: a3 :: a2 :: a1 :: vR b :: st) (rest := st) C hs hS (va_runV (n := 4) (As := [cval E a1, cval E a2, cval E a3, cval E a4]) (rest := st.map (cval E)) (Ts := TB) (own := mi.1.cls) (C := mj.1.cls) (nL := mi.2.2.1) ⟨C.1, C.2.1, C.2.2.1, C.2.2.2.2.1, C.2.2.2.2.2.1⟩ (hc (okc1 trivial (okc1 (okhd (oktl (oktl (oktl hst)))) (okc1 (okhd (oktl (oktl hst))) (okc1 (okhd (oktl hst)) (okc1 (okhd hst) (fun _ h => by cases h)))))) hM) ⟨callB_tb C hR hlt hO hlink, C.2.2.2.2.2.1 _ hV.1, C.2.2.2.2.2.1 _ hV.2⟩ ⟨pC_blind, by rw [← hq]; exact va_recv hs.1 hP hci hb.obj, fun U hU hW => ⟨rfl, by rw [hU]; exact hP, hs.moved hM hP hS hU hW⟩⟩ rfl rfl hl.1 rfl (by rw [wts_eq]; show 0 + wts st ≤ 8; have := Nat.le_of_ble_eq_true hw; omega) hd ⟨hR.2.2.1, hR.2.2.2⟩) (fun r M' hok hM' hp H1 locs1 hP1 hS1 => ?_)
  · obtain ⟨z, rfl, hq⟩ := hp
    exact kk z M' hok hM' hq C hs hL (okc1 hok (oktl (oktl (oktl (oktl (oktl hst)))))) hM' H1 locs1 ls hP1 hS1 hl
theorem A_vV4 {mj : MI} {d d' idx b ci : Nat} {a1 a2 a3 a4 : AV} {fs : List (Option (Option Nat))} {q : vw_C} {Q : Mem → Prop} (hd : decode mi.2.1 pc = .ok (.invokevirtual idx, 3)) (hR : Rm G d kc ns) (hlt : d' < d) (hO : MOK mj 4) (hV : MV mj) (hlink : Cond.methodLink mi.1.cls idx mj.1 ∈ TB) (hb : At E b (.inl (ci, fs))) (hci : vwCl[ci]? = some q) (hq : q.1 = mj.1.cls) (hw : Nat.ble (wts st) 8 = true) (hc : Cn E (gl G) mj d' [vR b, a1, a2, a3, a4] M (fun r M1 => r = vU ∧ Q M1)) (kk : ∀ (M1 : Mem), okM M1 → Q M1 → AW E mi G kc ns (pc + 3) L st M1) : AW E mi G kc ns pc L (a4 :: a3 :: a2 :: a1 :: vR b :: st) M := by
  intro C hs hL hst hM H locs ls hP hS hl
  refine A_ret (mj := mj) (l := gl G) (st0 := a4 :: a3 :: a2 :: a1 :: vR b :: st) (rest := st) C hs hS (va_runV (n := 4) (As := [cval E a1, cval E a2, cval E a3, cval E a4]) (rest := st.map (cval E)) (Ts := TB) (own := mi.1.cls) (C := mj.1.cls) (nL := mi.2.2.1) ⟨C.1, C.2.1, C.2.2.1, C.2.2.2.2.1, C.2.2.2.2.2.1⟩ (hc (okc1 trivial (okc1 (okhd (oktl (oktl (oktl hst)))) (okc1 (okhd (oktl (oktl hst))) (okc1 (okhd (oktl hst)) (okc1 (okhd hst) (fun _ h => by cases h)))))) hM) ⟨callB_tb C hR hlt hO hlink, C.2.2.2.2.2.1 _ hV.1, C.2.2.2.2.2.1 _ hV.2⟩ ⟨pC_blind, by rw [← hq]; exact va_recv hs.1 hP hci hb.obj, fun U hU hW => ⟨rfl, by rw [hU]; exact hP, hs.moved hM hP hS hU hW⟩⟩ rfl rfl hl.1 rfl (by rw [wts_eq]; show 0 + wts st ≤ 8; have := Nat.le_of_ble_eq_true hw; omega) hd ⟨hR.2.2.1, hR.2.2.2⟩) (fun r M' hok hM' hp H1 locs1 hP1 hS1 => ?_)
  · obtain ⟨rfl, hq⟩ := hp
    exact kk M' hM' hq C hs hL (oktl (oktl (oktl (oktl (oktl hst))))) hM' H1 locs1 ls hP1 hS1 hl
theorem A_vI5 {mj : MI} {d d' idx b ci : Nat} {a1 a2 a3 a4 a5 : AV} {fs : List (Option (Option Nat))} {q : vw_C} {Q : Int → Mem → Prop} (hd : decode mi.2.1 pc = .ok (.invokevirtual idx, 3)) (hR : Rm G d kc ns) (hlt : d' < d) (hO : MOK mj 5) (hV : MV mj) (hlink : Cond.methodLink mi.1.cls idx mj.1 ∈ TB) (hb : At E b (.inl (ci, fs))) (hci : vwCl[ci]? = some q) (hq : q.1 = mj.1.cls) (hw : Nat.ble (wts st) 8 = true) (hc : Cn E (gl G) mj d' [vR b, a1, a2, a3, a4, a5] M (fun r M1 => ∃ z, r = vI z ∧ Q z M1)) (kk : ∀ (z : Int) (M1 : Mem), rng z → okM M1 → Q z M1 → AW E mi G kc ns (pc + 3) L (vI z :: st) M1) : AW E mi G kc ns pc L (a5 :: a4 :: a3 :: a2 :: a1 :: vR b :: st) M := by
  intro C hs hL hst hM H locs ls hP hS hl
  refine A_ret (mj := mj) (l := gl G) (st0 := a5 :: a4 :: a3 :: a2 :: a1 :: vR b :: st) (rest := st) C hs hS (va_runV (n := 5) (As := [cval E a1, cval E a2, cval E a3, cval E a4, cval E a5]) (rest := st.map (cval E)) (Ts := TB) (own := mi.1.cls) (C := mj.1.cls) (nL := mi.2.2.1) ⟨C.1, C.2.1, C.2.2.1, C.2.2.2.2.1, C.2.2.2.2.2.1⟩ (hc (okc1 trivial (okc1 (okhd (oktl (oktl (oktl (oktl hst))))) (okc1 (okhd (oktl (oktl (oktl hst)))) (okc1 (okhd (oktl (oktl hst))) (okc1 (okhd (oktl hst)) (okc1 (okhd hst) (fun _ h => by cases h))))))) hM) ⟨callB_tb C hR hlt hO hlink, C.2.2.2.2.2.1 _ hV.1, C.2.2.2.2.2.1 _ hV.2⟩ ⟨pC_blind, by rw [← hq]; exact va_recv hs.1 hP hci hb.obj, fun U hU hW => ⟨rfl, by rw [hU]; exact hP, hs.moved hM hP hS hU hW⟩⟩ rfl rfl hl.1 rfl (by rw [wts_eq]; show 0 + wts st ≤ 8; have := Nat.le_of_ble_eq_true hw; omega) hd ⟨hR.2.2.1, hR.2.2.2⟩) (fun r M' hok hM' hp H1 locs1 hP1 hS1 => ?_)
  · obtain ⟨z, rfl, hq⟩ := hp
    exact kk z M' hok hM' hq C hs hL (okc1 hok (oktl (oktl (oktl (oktl (oktl (oktl hst))))))) hM' H1 locs1 ls hP1 hS1 hl
theorem A_vV5 {mj : MI} {d d' idx b ci : Nat} {a1 a2 a3 a4 a5 : AV} {fs : List (Option (Option Nat))} {q : vw_C} {Q : Mem → Prop} (hd : decode mi.2.1 pc = .ok (.invokevirtual idx, 3)) (hR : Rm G d kc ns) (hlt : d' < d) (hO : MOK mj 5) (hV : MV mj) (hlink : Cond.methodLink mi.1.cls idx mj.1 ∈ TB) (hb : At E b (.inl (ci, fs))) (hci : vwCl[ci]? = some q) (hq : q.1 = mj.1.cls) (hw : Nat.ble (wts st) 8 = true) (hc : Cn E (gl G) mj d' [vR b, a1, a2, a3, a4, a5] M (fun r M1 => r = vU ∧ Q M1)) (kk : ∀ (M1 : Mem), okM M1 → Q M1 → AW E mi G kc ns (pc + 3) L st M1) : AW E mi G kc ns pc L (a5 :: a4 :: a3 :: a2 :: a1 :: vR b :: st) M := by
  intro C hs hL hst hM H locs ls hP hS hl
  refine A_ret (mj := mj) (l := gl G) (st0 := a5 :: a4 :: a3 :: a2 :: a1 :: vR b :: st) (rest := st) C hs hS (va_runV (n := 5) (As := [cval E a1, cval E a2, cval E a3, cval E a4, cval E a5]) (rest := st.map (cval E)) (Ts := TB) (own := mi.1.cls) (C := mj.1.cls) (nL := mi.2.2.1) ⟨C.1, C.2.1, C.2.2.1, C.2.2.2.2.1, C.2.2.2.2.2.1⟩ (hc (okc1 trivial (okc1 (okhd (oktl (oktl (oktl (oktl hst))))) (okc1 (okhd (oktl (oktl (oktl hst)))) (okc1 (okhd (oktl (oktl hst))) (okc1 (okhd (oktl hst)) (okc1 (okhd hst) (fun _ h => by cases h))))))) hM) ⟨callB_tb C hR hlt hO hlink, C.2.2.2.2.2.1 _ hV.1, C.2.2.2.2.2.1 _ hV.2⟩ ⟨pC_blind, by rw [← hq]; exact va_recv hs.1 hP hci hb.obj, fun U hU hW => ⟨rfl, by rw [hU]; exact hP, hs.moved hM hP hS hU hW⟩⟩ rfl rfl hl.1 rfl (by rw [wts_eq]; show 0 + wts st ≤ 8; have := Nat.le_of_ble_eq_true hw; omega) hd ⟨hR.2.2.1, hR.2.2.2⟩) (fun r M' hok hM' hp H1 locs1 hP1 hS1 => ?_)
  · obtain ⟨rfl, hq⟩ := hp
    exact kk M' hM' hq C hs hL (oktl (oktl (oktl (oktl (oktl (oktl hst)))))) hM' H1 locs1 ls hP1 hS1 hl
theorem A_sI0 {mj : MI} {d d' idx : Nat}  {Q : Int → Mem → Prop} (hd : decode mi.2.1 pc = .ok (.invokestatic idx, 3)) (hR : Rm G d kc ns) (hlt : d' < d) (hO : MOK mj 0) (hV : Cond.static mj.1 ∈ TB) (hlink : Cond.methodLink mi.1.cls idx mj.1 ∈ TB) (hw : Nat.ble (wts st) 8 = true) (hc : Cn E (gl G) mj d' [] M (fun r M1 => ∃ z, r = vI z ∧ Q z M1)) (kk : ∀ (z : Int) (M1 : Mem), rng z → okM M1 → Q z M1 → AW E mi G kc ns (pc + 3) L (vI z :: st) M1) : AW E mi G kc ns pc L (st) M := by
  intro C hs hL hst hM H locs ls hP hS hl
  refine A_ret (mj := mj) (l := gl G) (st0 := st) (rest := st) C hs hS (va_runS (n := 0) (As := []) (rest := st.map (cval E)) (Ts := TB) (own := mi.1.cls) (nL := mi.2.2.1) ⟨C.1, C.2.1, C.2.2.1, C.2.2.2.2.1, C.2.2.2.2.2.1⟩ (hc (fun _ h => by cases h) hM) ⟨callB_tb C hR hlt hO hlink, C.2.2.2.2.2.1 _ hV⟩ ⟨pC_blind, fun U hU hW => ⟨rfl, by rw [hU]; exact hP, hs.moved hM hP hS hU hW⟩⟩ rfl rfl hl.1 rfl (by rw [wts_eq]; show 0 + wts st ≤ 8; have := Nat.le_of_ble_eq_true hw; omega) hd ⟨hR.2.2.1, hR.2.2.2⟩) (fun r M' hok hM' hp H1 locs1 hP1 hS1 => ?_)
  · obtain ⟨z, rfl, hq⟩ := hp
    exact kk z M' hok hM' hq C hs hL (okc1 hok hst) hM' H1 locs1 ls hP1 hS1 hl
theorem A_sV0 {mj : MI} {d d' idx : Nat}  {Q : Mem → Prop} (hd : decode mi.2.1 pc = .ok (.invokestatic idx, 3)) (hR : Rm G d kc ns) (hlt : d' < d) (hO : MOK mj 0) (hV : Cond.static mj.1 ∈ TB) (hlink : Cond.methodLink mi.1.cls idx mj.1 ∈ TB) (hw : Nat.ble (wts st) 8 = true) (hc : Cn E (gl G) mj d' [] M (fun r M1 => r = vU ∧ Q M1)) (kk : ∀ (M1 : Mem), okM M1 → Q M1 → AW E mi G kc ns (pc + 3) L st M1) : AW E mi G kc ns pc L (st) M := by
  intro C hs hL hst hM H locs ls hP hS hl
  refine A_ret (mj := mj) (l := gl G) (st0 := st) (rest := st) C hs hS (va_runS (n := 0) (As := []) (rest := st.map (cval E)) (Ts := TB) (own := mi.1.cls) (nL := mi.2.2.1) ⟨C.1, C.2.1, C.2.2.1, C.2.2.2.2.1, C.2.2.2.2.2.1⟩ (hc (fun _ h => by cases h) hM) ⟨callB_tb C hR hlt hO hlink, C.2.2.2.2.2.1 _ hV⟩ ⟨pC_blind, fun U hU hW => ⟨rfl, by rw [hU]; exact hP, hs.moved hM hP hS hU hW⟩⟩ rfl rfl hl.1 rfl (by rw [wts_eq]; show 0 + wts st ≤ 8; have := Nat.le_of_ble_eq_true hw; omega) hd ⟨hR.2.2.1, hR.2.2.2⟩) (fun r M' hok hM' hp H1 locs1 hP1 hS1 => ?_)
  · obtain ⟨rfl, hq⟩ := hp
    exact kk M' hM' hq C hs hL hst hM' H1 locs1 ls hP1 hS1 hl
theorem A_sI1 {mj : MI} {d d' idx : Nat} {a1 : AV} {Q : Int → Mem → Prop} (hd : decode mi.2.1 pc = .ok (.invokestatic idx, 3)) (hR : Rm G d kc ns) (hlt : d' < d) (hO : MOK mj 1) (hV : Cond.static mj.1 ∈ TB) (hlink : Cond.methodLink mi.1.cls idx mj.1 ∈ TB) (hw : Nat.ble (wts st) 8 = true) (hc : Cn E (gl G) mj d' [a1] M (fun r M1 => ∃ z, r = vI z ∧ Q z M1)) (kk : ∀ (z : Int) (M1 : Mem), rng z → okM M1 → Q z M1 → AW E mi G kc ns (pc + 3) L (vI z :: st) M1) : AW E mi G kc ns pc L (a1 :: st) M := by
  intro C hs hL hst hM H locs ls hP hS hl
  refine A_ret (mj := mj) (l := gl G) (st0 := a1 :: st) (rest := st) C hs hS (va_runS (n := 1) (As := [cval E a1]) (rest := st.map (cval E)) (Ts := TB) (own := mi.1.cls) (nL := mi.2.2.1) ⟨C.1, C.2.1, C.2.2.1, C.2.2.2.2.1, C.2.2.2.2.2.1⟩ (hc (okc1 (okhd hst) (fun _ h => by cases h)) hM) ⟨callB_tb C hR hlt hO hlink, C.2.2.2.2.2.1 _ hV⟩ ⟨pC_blind, fun U hU hW => ⟨rfl, by rw [hU]; exact hP, hs.moved hM hP hS hU hW⟩⟩ rfl rfl hl.1 rfl (by rw [wts_eq]; show 0 + wts st ≤ 8; have := Nat.le_of_ble_eq_true hw; omega) hd ⟨hR.2.2.1, hR.2.2.2⟩) (fun r M' hok hM' hp H1 locs1 hP1 hS1 => ?_)
  · obtain ⟨z, rfl, hq⟩ := hp
    exact kk z M' hok hM' hq C hs hL (okc1 hok (oktl hst)) hM' H1 locs1 ls hP1 hS1 hl
theorem A_sV1 {mj : MI} {d d' idx : Nat} {a1 : AV} {Q : Mem → Prop} (hd : decode mi.2.1 pc = .ok (.invokestatic idx, 3)) (hR : Rm G d kc ns) (hlt : d' < d) (hO : MOK mj 1) (hV : Cond.static mj.1 ∈ TB) (hlink : Cond.methodLink mi.1.cls idx mj.1 ∈ TB) (hw : Nat.ble (wts st) 8 = true) (hc : Cn E (gl G) mj d' [a1] M (fun r M1 => r = vU ∧ Q M1)) (kk : ∀ (M1 : Mem), okM M1 → Q M1 → AW E mi G kc ns (pc + 3) L st M1) : AW E mi G kc ns pc L (a1 :: st) M := by
  intro C hs hL hst hM H locs ls hP hS hl
  refine A_ret (mj := mj) (l := gl G) (st0 := a1 :: st) (rest := st) C hs hS (va_runS (n := 1) (As := [cval E a1]) (rest := st.map (cval E)) (Ts := TB) (own := mi.1.cls) (nL := mi.2.2.1) ⟨C.1, C.2.1, C.2.2.1, C.2.2.2.2.1, C.2.2.2.2.2.1⟩ (hc (okc1 (okhd hst) (fun _ h => by cases h)) hM) ⟨callB_tb C hR hlt hO hlink, C.2.2.2.2.2.1 _ hV⟩ ⟨pC_blind, fun U hU hW => ⟨rfl, by rw [hU]; exact hP, hs.moved hM hP hS hU hW⟩⟩ rfl rfl hl.1 rfl (by rw [wts_eq]; show 0 + wts st ≤ 8; have := Nat.le_of_ble_eq_true hw; omega) hd ⟨hR.2.2.1, hR.2.2.2⟩) (fun r M' hok hM' hp H1 locs1 hP1 hS1 => ?_)
  · obtain ⟨rfl, hq⟩ := hp
    exact kk M' hM' hq C hs hL (oktl hst) hM' H1 locs1 ls hP1 hS1 hl
theorem A_sI2 {mj : MI} {d d' idx : Nat} {a1 a2 : AV} {Q : Int → Mem → Prop} (hd : decode mi.2.1 pc = .ok (.invokestatic idx, 3)) (hR : Rm G d kc ns) (hlt : d' < d) (hO : MOK mj 2) (hV : Cond.static mj.1 ∈ TB) (hlink : Cond.methodLink mi.1.cls idx mj.1 ∈ TB) (hw : Nat.ble (wts st) 8 = true) (hc : Cn E (gl G) mj d' [a1, a2] M (fun r M1 => ∃ z, r = vI z ∧ Q z M1)) (kk : ∀ (z : Int) (M1 : Mem), rng z → okM M1 → Q z M1 → AW E mi G kc ns (pc + 3) L (vI z :: st) M1) : AW E mi G kc ns pc L (a2 :: a1 :: st) M := by
  intro C hs hL hst hM H locs ls hP hS hl
  refine A_ret (mj := mj) (l := gl G) (st0 := a2 :: a1 :: st) (rest := st) C hs hS (va_runS (n := 2) (As := [cval E a1, cval E a2]) (rest := st.map (cval E)) (Ts := TB) (own := mi.1.cls) (nL := mi.2.2.1) ⟨C.1, C.2.1, C.2.2.1, C.2.2.2.2.1, C.2.2.2.2.2.1⟩ (hc (okc1 (okhd (oktl hst)) (okc1 (okhd hst) (fun _ h => by cases h))) hM) ⟨callB_tb C hR hlt hO hlink, C.2.2.2.2.2.1 _ hV⟩ ⟨pC_blind, fun U hU hW => ⟨rfl, by rw [hU]; exact hP, hs.moved hM hP hS hU hW⟩⟩ rfl rfl hl.1 rfl (by rw [wts_eq]; show 0 + wts st ≤ 8; have := Nat.le_of_ble_eq_true hw; omega) hd ⟨hR.2.2.1, hR.2.2.2⟩) (fun r M' hok hM' hp H1 locs1 hP1 hS1 => ?_)
  · obtain ⟨z, rfl, hq⟩ := hp
    exact kk z M' hok hM' hq C hs hL (okc1 hok (oktl (oktl hst))) hM' H1 locs1 ls hP1 hS1 hl
theorem A_sV2 {mj : MI} {d d' idx : Nat} {a1 a2 : AV} {Q : Mem → Prop} (hd : decode mi.2.1 pc = .ok (.invokestatic idx, 3)) (hR : Rm G d kc ns) (hlt : d' < d) (hO : MOK mj 2) (hV : Cond.static mj.1 ∈ TB) (hlink : Cond.methodLink mi.1.cls idx mj.1 ∈ TB) (hw : Nat.ble (wts st) 8 = true) (hc : Cn E (gl G) mj d' [a1, a2] M (fun r M1 => r = vU ∧ Q M1)) (kk : ∀ (M1 : Mem), okM M1 → Q M1 → AW E mi G kc ns (pc + 3) L st M1) : AW E mi G kc ns pc L (a2 :: a1 :: st) M := by
  intro C hs hL hst hM H locs ls hP hS hl
  refine A_ret (mj := mj) (l := gl G) (st0 := a2 :: a1 :: st) (rest := st) C hs hS (va_runS (n := 2) (As := [cval E a1, cval E a2]) (rest := st.map (cval E)) (Ts := TB) (own := mi.1.cls) (nL := mi.2.2.1) ⟨C.1, C.2.1, C.2.2.1, C.2.2.2.2.1, C.2.2.2.2.2.1⟩ (hc (okc1 (okhd (oktl hst)) (okc1 (okhd hst) (fun _ h => by cases h))) hM) ⟨callB_tb C hR hlt hO hlink, C.2.2.2.2.2.1 _ hV⟩ ⟨pC_blind, fun U hU hW => ⟨rfl, by rw [hU]; exact hP, hs.moved hM hP hS hU hW⟩⟩ rfl rfl hl.1 rfl (by rw [wts_eq]; show 0 + wts st ≤ 8; have := Nat.le_of_ble_eq_true hw; omega) hd ⟨hR.2.2.1, hR.2.2.2⟩) (fun r M' hok hM' hp H1 locs1 hP1 hS1 => ?_)
  · obtain ⟨rfl, hq⟩ := hp
    exact kk M' hM' hq C hs hL (oktl (oktl hst)) hM' H1 locs1 ls hP1 hS1 hl
theorem A_sI3 {mj : MI} {d d' idx : Nat} {a1 a2 a3 : AV} {Q : Int → Mem → Prop} (hd : decode mi.2.1 pc = .ok (.invokestatic idx, 3)) (hR : Rm G d kc ns) (hlt : d' < d) (hO : MOK mj 3) (hV : Cond.static mj.1 ∈ TB) (hlink : Cond.methodLink mi.1.cls idx mj.1 ∈ TB) (hw : Nat.ble (wts st) 8 = true) (hc : Cn E (gl G) mj d' [a1, a2, a3] M (fun r M1 => ∃ z, r = vI z ∧ Q z M1)) (kk : ∀ (z : Int) (M1 : Mem), rng z → okM M1 → Q z M1 → AW E mi G kc ns (pc + 3) L (vI z :: st) M1) : AW E mi G kc ns pc L (a3 :: a2 :: a1 :: st) M := by
  intro C hs hL hst hM H locs ls hP hS hl
  refine A_ret (mj := mj) (l := gl G) (st0 := a3 :: a2 :: a1 :: st) (rest := st) C hs hS (va_runS (n := 3) (As := [cval E a1, cval E a2, cval E a3]) (rest := st.map (cval E)) (Ts := TB) (own := mi.1.cls) (nL := mi.2.2.1) ⟨C.1, C.2.1, C.2.2.1, C.2.2.2.2.1, C.2.2.2.2.2.1⟩ (hc (okc1 (okhd (oktl (oktl hst))) (okc1 (okhd (oktl hst)) (okc1 (okhd hst) (fun _ h => by cases h)))) hM) ⟨callB_tb C hR hlt hO hlink, C.2.2.2.2.2.1 _ hV⟩ ⟨pC_blind, fun U hU hW => ⟨rfl, by rw [hU]; exact hP, hs.moved hM hP hS hU hW⟩⟩ rfl rfl hl.1 rfl (by rw [wts_eq]; show 0 + wts st ≤ 8; have := Nat.le_of_ble_eq_true hw; omega) hd ⟨hR.2.2.1, hR.2.2.2⟩) (fun r M' hok hM' hp H1 locs1 hP1 hS1 => ?_)
  · obtain ⟨z, rfl, hq⟩ := hp
    exact kk z M' hok hM' hq C hs hL (okc1 hok (oktl (oktl (oktl hst)))) hM' H1 locs1 ls hP1 hS1 hl
theorem A_sV3 {mj : MI} {d d' idx : Nat} {a1 a2 a3 : AV} {Q : Mem → Prop} (hd : decode mi.2.1 pc = .ok (.invokestatic idx, 3)) (hR : Rm G d kc ns) (hlt : d' < d) (hO : MOK mj 3) (hV : Cond.static mj.1 ∈ TB) (hlink : Cond.methodLink mi.1.cls idx mj.1 ∈ TB) (hw : Nat.ble (wts st) 8 = true) (hc : Cn E (gl G) mj d' [a1, a2, a3] M (fun r M1 => r = vU ∧ Q M1)) (kk : ∀ (M1 : Mem), okM M1 → Q M1 → AW E mi G kc ns (pc + 3) L st M1) : AW E mi G kc ns pc L (a3 :: a2 :: a1 :: st) M := by
  intro C hs hL hst hM H locs ls hP hS hl
  refine A_ret (mj := mj) (l := gl G) (st0 := a3 :: a2 :: a1 :: st) (rest := st) C hs hS (va_runS (n := 3) (As := [cval E a1, cval E a2, cval E a3]) (rest := st.map (cval E)) (Ts := TB) (own := mi.1.cls) (nL := mi.2.2.1) ⟨C.1, C.2.1, C.2.2.1, C.2.2.2.2.1, C.2.2.2.2.2.1⟩ (hc (okc1 (okhd (oktl (oktl hst))) (okc1 (okhd (oktl hst)) (okc1 (okhd hst) (fun _ h => by cases h)))) hM) ⟨callB_tb C hR hlt hO hlink, C.2.2.2.2.2.1 _ hV⟩ ⟨pC_blind, fun U hU hW => ⟨rfl, by rw [hU]; exact hP, hs.moved hM hP hS hU hW⟩⟩ rfl rfl hl.1 rfl (by rw [wts_eq]; show 0 + wts st ≤ 8; have := Nat.le_of_ble_eq_true hw; omega) hd ⟨hR.2.2.1, hR.2.2.2⟩) (fun r M' hok hM' hp H1 locs1 hP1 hS1 => ?_)
  · obtain ⟨rfl, hq⟩ := hp
    exact kk M' hM' hq C hs hL (oktl (oktl (oktl hst))) hM' H1 locs1 ls hP1 hS1 hl
theorem A_sI4 {mj : MI} {d d' idx : Nat} {a1 a2 a3 a4 : AV} {Q : Int → Mem → Prop} (hd : decode mi.2.1 pc = .ok (.invokestatic idx, 3)) (hR : Rm G d kc ns) (hlt : d' < d) (hO : MOK mj 4) (hV : Cond.static mj.1 ∈ TB) (hlink : Cond.methodLink mi.1.cls idx mj.1 ∈ TB) (hw : Nat.ble (wts st) 8 = true) (hc : Cn E (gl G) mj d' [a1, a2, a3, a4] M (fun r M1 => ∃ z, r = vI z ∧ Q z M1)) (kk : ∀ (z : Int) (M1 : Mem), rng z → okM M1 → Q z M1 → AW E mi G kc ns (pc + 3) L (vI z :: st) M1) : AW E mi G kc ns pc L (a4 :: a3 :: a2 :: a1 :: st) M := by
  intro C hs hL hst hM H locs ls hP hS hl
  refine A_ret (mj := mj) (l := gl G) (st0 := a4 :: a3 :: a2 :: a1 :: st) (rest := st) C hs hS (va_runS (n := 4) (As := [cval E a1, cval E a2, cval E a3, cval E a4]) (rest := st.map (cval E)) (Ts := TB) (own := mi.1.cls) (nL := mi.2.2.1) ⟨C.1, C.2.1, C.2.2.1, C.2.2.2.2.1, C.2.2.2.2.2.1⟩ (hc (okc1 (okhd (oktl (oktl (oktl hst)))) (okc1 (okhd (oktl (oktl hst))) (okc1 (okhd (oktl hst)) (okc1 (okhd hst) (fun _ h => by cases h))))) hM) ⟨callB_tb C hR hlt hO hlink, C.2.2.2.2.2.1 _ hV⟩ ⟨pC_blind, fun U hU hW => ⟨rfl, by rw [hU]; exact hP, hs.moved hM hP hS hU hW⟩⟩ rfl rfl hl.1 rfl (by rw [wts_eq]; show 0 + wts st ≤ 8; have := Nat.le_of_ble_eq_true hw; omega) hd ⟨hR.2.2.1, hR.2.2.2⟩) (fun r M' hok hM' hp H1 locs1 hP1 hS1 => ?_)
  · obtain ⟨z, rfl, hq⟩ := hp
    exact kk z M' hok hM' hq C hs hL (okc1 hok (oktl (oktl (oktl (oktl hst))))) hM' H1 locs1 ls hP1 hS1 hl
theorem A_sV4 {mj : MI} {d d' idx : Nat} {a1 a2 a3 a4 : AV} {Q : Mem → Prop} (hd : decode mi.2.1 pc = .ok (.invokestatic idx, 3)) (hR : Rm G d kc ns) (hlt : d' < d) (hO : MOK mj 4) (hV : Cond.static mj.1 ∈ TB) (hlink : Cond.methodLink mi.1.cls idx mj.1 ∈ TB) (hw : Nat.ble (wts st) 8 = true) (hc : Cn E (gl G) mj d' [a1, a2, a3, a4] M (fun r M1 => r = vU ∧ Q M1)) (kk : ∀ (M1 : Mem), okM M1 → Q M1 → AW E mi G kc ns (pc + 3) L st M1) : AW E mi G kc ns pc L (a4 :: a3 :: a2 :: a1 :: st) M := by
  intro C hs hL hst hM H locs ls hP hS hl
  refine A_ret (mj := mj) (l := gl G) (st0 := a4 :: a3 :: a2 :: a1 :: st) (rest := st) C hs hS (va_runS (n := 4) (As := [cval E a1, cval E a2, cval E a3, cval E a4]) (rest := st.map (cval E)) (Ts := TB) (own := mi.1.cls) (nL := mi.2.2.1) ⟨C.1, C.2.1, C.2.2.1, C.2.2.2.2.1, C.2.2.2.2.2.1⟩ (hc (okc1 (okhd (oktl (oktl (oktl hst)))) (okc1 (okhd (oktl (oktl hst))) (okc1 (okhd (oktl hst)) (okc1 (okhd hst) (fun _ h => by cases h))))) hM) ⟨callB_tb C hR hlt hO hlink, C.2.2.2.2.2.1 _ hV⟩ ⟨pC_blind, fun U hU hW => ⟨rfl, by rw [hU]; exact hP, hs.moved hM hP hS hU hW⟩⟩ rfl rfl hl.1 rfl (by rw [wts_eq]; show 0 + wts st ≤ 8; have := Nat.le_of_ble_eq_true hw; omega) hd ⟨hR.2.2.1, hR.2.2.2⟩) (fun r M' hok hM' hp H1 locs1 hP1 hS1 => ?_)
  · obtain ⟨rfl, hq⟩ := hp
    exact kk M' hM' hq C hs hL (oktl (oktl (oktl (oktl hst)))) hM' H1 locs1 ls hP1 hS1 hl
end ROWS2
end
section
/-! constants, and the library members that are used -/
theorem bp_m5 : (Int8.ofInt (-5)).toInt32 = i32 (-5) := by decide +kernel
theorem bp_m4 : (Int8.ofInt (-4)).toInt32 = i32 (-4) := by decide +kernel
theorem bp_m3 : (Int8.ofInt (-3)).toInt32 = i32 (-3) := by decide +kernel
theorem bp_m2 : (Int8.ofInt (-2)).toInt32 = i32 (-2) := by decide +kernel
theorem bp_6 : (Int8.ofInt 6).toInt32 = i32 6 := by decide +kernel
theorem bp_7 : (Int8.ofInt 7).toInt32 = i32 7 := by decide +kernel
theorem bp_8 : (Int8.ofInt 8).toInt32 = i32 8 := by decide +kernel
theorem bp_9 : (Int8.ofInt 9).toInt32 = i32 9 := by decide +kernel
theorem bp_10 : (Int8.ofInt 10).toInt32 = i32 10 := by decide +kernel
theorem bp_12 : (Int8.ofInt 12).toInt32 = i32 12 := by decide +kernel
theorem bp_15 : (Int8.ofInt 15).toInt32 = i32 15 := by decide +kernel
theorem bp_18 : (Int8.ofInt 18).toInt32 = i32 18 := by decide +kernel
theorem bp_21 : (Int8.ofInt 21).toInt32 = i32 21 := by decide +kernel
theorem bp_27 : (Int8.ofInt 27).toInt32 = i32 27 := by decide +kernel
theorem bp_31 : (Int8.ofInt 31).toInt32 = i32 31 := by decide +kernel
theorem bp_32 : (Int8.ofInt 32).toInt32 = i32 32 := by decide +kernel
theorem bp_33 : (Int8.ofInt 33).toInt32 = i32 33 := by decide +kernel
theorem bp_39 : (Int8.ofInt 39).toInt32 = i32 39 := by decide +kernel
theorem bp_48 : (Int8.ofInt 48).toInt32 = i32 48 := by decide +kernel
theorem bp_57 : (Int8.ofInt 57).toInt32 = i32 57 := by decide +kernel
theorem bp_59 : (Int8.ofInt 59).toInt32 = i32 59 := by decide +kernel
theorem bp_60 : (Int8.ofInt 60).toInt32 = i32 60 := by decide +kernel
theorem bp_96 : (Int8.ofInt 96).toInt32 = i32 96 := by decide +kernel
theorem bp_97 : (Int8.ofInt 97).toInt32 = i32 97 := by decide +kernel
theorem bp_99 : (Int8.ofInt 99).toInt32 = i32 99 := by decide +kernel
theorem bp_100 : (Int8.ofInt 100).toInt32 = i32 100 := by decide +kernel
theorem bp_117 : (Int8.ofInt 117).toInt32 = i32 117 := by decide +kernel
theorem bp_119 : (Int8.ofInt 119).toInt32 = i32 119 := by decide +kernel
theorem bp_120 : (Int8.ofInt 120).toInt32 = i32 120 := by decide +kernel
theorem bp_122 : (Int8.ofInt 122).toInt32 = i32 122 := by decide +kernel
theorem sp_156 : (Int16.ofInt 156).toInt32 = i32 156 := by decide +kernel
theorem sp_157 : (Int16.ofInt 157).toInt32 = i32 157 := by decide +kernel
theorem sp_195 : (Int16.ofInt 195).toInt32 = i32 195 := by decide +kernel
theorem sp_200 : (Int16.ofInt 200).toInt32 = i32 200 := by decide +kernel
theorem sp_255 : (Int16.ofInt 255).toInt32 = i32 255 := by decide +kernel
theorem sp_9999 : (Int16.ofInt 9999).toInt32 = i32 9999 := by decide +kernel
theorem kc_RX7_78 : Cond.constantLong RX7 78 (i64 255) ∈ TB := tb_t 315 (by decide +kernel) (by decide +kernel)
theorem kc_RJ6_265 : Cond.constant RJ6 265 (i32 1431655765) ∈ TB := tb_t 653 (by decide +kernel) (by decide +kernel)
theorem kc_RJ6_266 : Cond.constant RJ6 266 (i32 858993459) ∈ TB := tb_t 654 (by decide +kernel) (by decide +kernel)
theorem kc_RJ6_267 : Cond.constant RJ6 267 (i32 252645135) ∈ TB := tb_t 655 (by decide +kernel) (by decide +kernel)
theorem kc_RX8_71 : Cond.constantLong RX8 71 (i64 8) ∈ TB := tb_t 871 (by decide +kernel) (by decide +kernel)
theorem kc_RX8_80 : Cond.constantLong RX8 80 (i64 255) ∈ TB := tb_t 875 (by decide +kernel) (by decide +kernel)
theorem kc_RX8_95 : Cond.constant RX8 95 (i32 14976400) ∈ TB := tb_t 903 (by decide +kernel) (by decide +kernel)
theorem kc_RX8_100 : Cond.constant RX8 100 (i32 20286764) ∈ TB := tb_t 908 (by decide +kernel) (by decide +kernel)
theorem kc_RX8_101 : Cond.constant RX8 101 (i32 654739091) ∈ TB := tb_t 909 (by decide +kernel) (by decide +kernel)
theorem kc_RX8_102 : Cond.constant RX8 102 (i32 605434019) ∈ TB := tb_t 910 (by decide +kernel) (by decide +kernel)
theorem kc_RX8_107 : Cond.constant RX8 107 (i32 171219151) ∈ TB := tb_t 911 (by decide +kernel) (by decide +kernel)
theorem kc_RX8_108 : Cond.constant RX8 108 (i32 12879444) ∈ TB := tb_t 912 (by decide +kernel) (by decide +kernel)
theorem kc_RX8_109 : Cond.constant RX8 109 (i32 176422) ∈ TB := tb_t 913 (by decide +kernel) (by decide +kernel)
theorem kc_RX8_110 : Cond.constant RX8 110 (i32 167974) ∈ TB := tb_t 914 (by decide +kernel) (by decide +kernel)
theorem kc_RX8_111 : Cond.constant RX8 111 (i32 609892663) ∈ TB := tb_t 915 (by decide +kernel) (by decide +kernel)
theorem kc_RX8_163 : Cond.constantLong RX8 163 (i64 4) ∈ TB := tb_t 965 (by decide +kernel) (by decide +kernel)
theorem kc_RX8_183 : Cond.constantLong RX8 183 (i64 99) ∈ TB := tb_t 974 (by decide +kernel) (by decide +kernel)
theorem kc_RX8_188 : Cond.constantLong RX8 188 (i64 9) ∈ TB := tb_t 1007 (by decide +kernel) (by decide +kernel)
theorem kc_RX8_190 : Cond.constantLong RX8 190 (i64 2) ∈ TB := tb_t 1028 (by decide +kernel) (by decide +kernel)
theorem kc_RX8_210 : Cond.constantLong RX8 210 (i64 60) ∈ TB := tb_t 1049 (by decide +kernel) (by decide +kernel)
theorem kc_RX8_215 : Cond.constant RX8 215 (i32 268435456) ∈ TB := tb_t 1071 (by decide +kernel) (by decide +kernel)
theorem kc_RL_13 : Cond.constantLong RL 13 (i64 4294967295) ∈ TB := tb_t 1120 (by decide +kernel) (by decide +kernel)
theorem mx_s_max : Cond.static Lib.Math.max.name ∈ TB := tb_t 529 (by decide +kernel) (by decide +kernel)
theorem mx_c_max : Cond.code Lib.Math.max.name Lib.Math.max.code 2 (some .int) ∈ TB := tb_t 530 (by decide +kernel) (by decide +kernel)
theorem mx_s_min : Cond.static Lib.Math.min.name ∈ TB := tb_t 532 (by decide +kernel) (by decide +kernel)
theorem mx_c_min : Cond.code Lib.Math.min.name Lib.Math.min.code 2 (some .int) ∈ TB := tb_t 533 (by decide +kernel) (by decide +kernel)
theorem mx_i : Cond.initialized "java/lang/Math" ∈ TB := tb_t 16 (by decide +kernel) (by decide +kernel)
theorem ac_n : Cond.native arraycopyName ∈ TB := tb_t 216 (by decide +kernel) (by decide +kernel)
theorem ac_s : Cond.static arraycopyName ∈ TB := tb_t 215 (by decide +kernel) (by decide +kernel)
theorem ac_i : Cond.initialized "java/lang/System" ∈ TB := tb_t 7 (by decide +kernel) (by decide +kernel)
theorem ml_RX0_50 : Cond.methodLink RX0 50 arraycopyName ∈ TB := tb_t 214 (by decide +kernel) (by decide +kernel)
theorem ml_RX6_59 : Cond.methodLink RX6 59 arraycopyName ∈ TB := tb_t 340 (by decide +kernel) (by decide +kernel)
section ROWS3
variable {E : EN} {mi : MI} {G : CX} {kc ns pc : Nat} {L st : List AV} {M : Mem}
theorem A_mmax {x y : Int} {idx d : Nat} (hd : decode mi.2.1 pc = .ok (.invokestatic idx, 3)) (hR : Rm G d kc ns) (h1 : 1 ≤ d) (hlink : Cond.methodLink mi.1.cls idx Lib.Math.max.name ∈ TB) (hw : Nat.ble (wts st) 8 = true) (kk : AW E mi G kc ns (pc + 3) L (vI (max x y) :: st) M) : AW E mi G kc ns pc L (vI y :: vI x :: st) M := by
  intro C hs hL hst hM H locs ls hP hS hl
  have hy : rng y := okhd hst
  have hx : rng x := okhd (oktl hst)
  have hr : rng (max x y) := ⟨by have := hy.1; have := hx.1; omega, by have := hy.2; have := hx.2; omega⟩
  have w := kk C hs hL (okc1 hr (oktl (oktl hst))) hM H locs ls hP hS hl
  refine va_mmax (x := i32 x) (y := i32 y) (own := mi.1.cls) C.1 C.2.1 (C.2.2.1.trans hl.1.symm) C.2.2.2.2.1 (C.2.2.2.2.2.1 _ hlink) (C.2.2.2.2.2.1 _ mx_s_max) (C.2.2.2.2.2.1 _ mx_i) (C.2.2.2.2.2.1 _ mx_c_max) (Nat.le_trans h1 hR.1) ?_ hR.2.2.1 hR.2.2.2 hd ?_
  · rw [wts_eq]; have := Nat.le_of_ble_eq_true hw; have := hR.2.1; omega
  · have e : (if i32 x < i32 y then i32 y else i32 x) = i32 (max x y) := by
      split
      · rename_i h
        rw [i32_lt hx hy] at h
        congr 1; omega
      · rename_i h
        rw [i32_lt hx hy] at h
        congr 1; omega
    rw [e]
    exact w
theorem A_mmin {x y : Int} {idx d : Nat} (hd : decode mi.2.1 pc = .ok (.invokestatic idx, 3)) (hR : Rm G d kc ns) (h1 : 1 ≤ d) (hlink : Cond.methodLink mi.1.cls idx Lib.Math.min.name ∈ TB) (hw : Nat.ble (wts st) 8 = true) (kk : AW E mi G kc ns (pc + 3) L (vI (min x y) :: st) M) : AW E mi G kc ns pc L (vI y :: vI x :: st) M := by
  intro C hs hL hst hM H locs ls hP hS hl
  have hy : rng y := okhd hst
  have hx : rng x := okhd (oktl hst)
  have hr : rng (min x y) := ⟨by have := hy.1; have := hx.1; omega, by have := hy.2; have := hx.2; omega⟩
  have w := kk C hs hL (okc1 hr (oktl (oktl hst))) hM H locs ls hP hS hl
  refine va_mmin (x := i32 x) (y := i32 y) (own := mi.1.cls) C.1 C.2.1 (C.2.2.1.trans hl.1.symm) C.2.2.2.2.1 (C.2.2.2.2.2.1 _ hlink) (C.2.2.2.2.2.1 _ mx_s_min) (C.2.2.2.2.2.1 _ mx_i) (C.2.2.2.2.2.1 _ mx_c_min) (Nat.le_trans h1 hR.1) ?_ hR.2.2.1 hR.2.2.2 hd ?_
  · rw [wts_eq]; have := Nat.le_of_ble_eq_true hw; have := hR.2.1; omega
  · have e : (if i32 y < i32 x then i32 y else i32 x) = i32 (min x y) := by
      split
      · rename_i h
        rw [i32_lt hy hx] at h
        congr 1; omega
      · rename_i h
        rw [i32_lt hy hx] at h
        congr 1; omega
    rw [e]
    exact w
theorem WS_set' {E : EN} {M M1 : Mem} {c : Nat} {x : va_E} (hc : c < eN E) (hx : x = ccell E M1 c) (ho : ∀ i, i ≠ c → M1 i = M i) : (WS E M).set c (eAd E c, x) = WS E M1 := by
  subst hx
  apply List.ext_getElem?
  intro i
  by_cases hi : i < eN E
  · rw [WS_at hi, List.getElem?_set]
    by_cases hci : c = i
    · subst hci
      simp [WS, hc]
    · rw [if_neg hci, WS_at hi]
      have : ccell E M1 i = ccell E M i := by
        unfold ccell fval
        rw [ho i (fun h => hci h.symm)]
      rw [this]
  · rw [List.getElem?_eq_none (by simp [WS]; omega), List.getElem?_eq_none (by simp [WS]; omega)]
/-- n places of a row from another one -/
def cpm (M : Mem) (s t : Nat) (n : Int) : Mem := fun c k => if c = t ∧ 0 ≤ k ∧ k < n then M s k else M c k
theorem A_acopy {s t n1 n2 idx d : Nat} {n : Int} {g1 g2 : Nat → Option Nat} (hd : decode mi.2.1 pc = .ok (.invokestatic idx, 3)) (hR : Rm G d kc ns) (h1 : 1 ≤ d) (hlink : Cond.methodLink mi.1.cls idx arraycopyName ∈ TB) (hw : Nat.ble (wts st) 8 = true) (ha : At E s (aI n1 g1)) (hb : At E t (aI n2 g2)) (h0 : 0 ≤ n) (hn1 : n ≤ n1) (hn2 : n ≤ n2) (kk : ∀ M1 : Mem, M1 = cpm M s t n → okM M1 → AW E mi G kc ns (pc + 3) L st M1) : AW E mi G kc ns pc L (vI n :: vI 0 :: vR t :: vI 0 :: vR s :: st) M := by
  intro C hs hL hst hM H locs ls hP hS hl
  have hr : rng n := okhd hst
  have hM1 : okM (cpm M s t n) := fun c k => by
    unfold cpm
    split <;> exact hM _ _
  have z0 : (i32 0).toNatClampNeg = 0 := i32_clamp (by omega) ⟨by omega, by omega⟩
  have zn : (i32 n).toNatClampNeg = n.toNat := i32_clamp h0 hr
  have hnew : (Sum.inl ((eCs E).1, n2, Sum.inl (va_cpy (fun k : Nat => i32 (M s k)) (fun k : Nat => i32 (M t k)) 0 0 n.toNat)) : va_E) = ccell E (cpm M s t n) t := by
    unfold ccell; rw [hb.2]
    refine congrArg _ (congrArg _ (congrArg _ (congrArg _ ?_)))
    funext k
    unfold va_cpy cpm
    by_cases hk : k < n.toNat
    · rw [if_pos ⟨by omega, by omega⟩, if_pos ⟨rfl, by omega, by omega⟩]
      rw [show 0 + (k - 0) = k by omega]
    · rw [if_neg (by omega), if_neg (by omega)]
  refine va_copyi (sp := i32 0) (dp := i32 0) (n := i32 n) (own := mi.1.cls) C.1 C.2.1 (C.2.2.1.trans hl.1.symm) C.2.2.2.2.1 (C.2.2.2.2.2.1 _ hlink) (C.2.2.2.2.2.1 _ ac_n) (C.2.2.2.2.2.1 _ ac_s) (C.2.2.2.2.2.1 _ ac_i) hs.1 hP (hs.2.1.D M) hS s t 0 0 ha.ai hb.ai rfl rfl rfl (i32_nn (by omega) ⟨by omega, by omega⟩) (i32_nn (by omega) ⟨by omega, by omega⟩) (i32_nn h0 hr) (by rw [z0, zn]; omega) (by rw [z0, zn]; omega) (fun i hi => rfl) (Nat.le_trans h1 hR.1) ?_ hd (fun H1 locs1 hP1 hD1 hS1 => ?_)
  · rw [wts_eq]
    have := Nat.le_of_ble_eq_true hw; have := hR.2.1
    have e : nativeFrameWords "java/lang/System" "arraycopy" 5 + 11 ≤ 30 := by decide
    omega
  · rw [z0, zn, WS_set' hb.1 hnew (fun i hi => by funext k; unfold cpm; rw [if_neg (fun q => hi q.1)])] at hP1
    exact kk _ rfl hM1 C hs hL (oktl (oktl (oktl (oktl (oktl hst))))) hM1 H1 locs1 ls hP1 hS1 hl
theorem A_iushr {x y z : Int} (hd : decode mi.2.1 pc = .ok (.iushr, 1)) (he : ((i32 x).toUInt32 >>> ((i32 y).toUInt32 &&& Int32.toUInt32 31)).toInt32 = i32 z) (hr : rng z) (kk : AW E mi G kc ns (pc + 1) L (vI z :: st) M) : AW E mi G kc ns pc L (vI y :: vI x :: st) M := by
  intro C hs hL hst hM H locs ls hP hS hl
  exact lv_iushr (x := i32 x) (y := i32 y) C.1 C.2.1 hd he (kk C hs hL (okc1 hr (oktl (oktl hst))) hM H locs ls hP hS hl)
theorem A_ldcw {index : Nat} {n : Int} (hd : decode mi.2.1 pc = .ok (.ldc_w index, 3)) (hw : Cond.constant mi.1.cls index (i32 n) ∈ TB) (hr : rng n) (kk : AW E mi G kc ns (pc + 3) L (vI n :: st) M) : AW E mi G kc ns pc L st M := by
  intro C hs hL hst hM H locs ls hP hS hl
  exact lv_ldcw (own := mi.1.cls) (v := i32 n) C.1 C.2.1 C.2.2.2.2.1 (C.2.2.2.2.2.1 _ hw) hd (kk C hs hL (okc1 hr hst) hM H locs ls hP hS hl)
end ROWS3
/-- n places of a row all alike -/
def flm (M : Mem) (c : Nat) (n v : Int) : Mem := fun c' k => if c' = c ∧ 0 ≤ k ∧ k < n then v else M c' k
theorem flm_o {M : Mem} {c c' : Nat} {n v : Int} (h : c' ≠ c) : flm M c n v c' = M c' := by funext k; unfold flm; rw [if_neg (fun q => h q.1)]
theorem flm_i {M : Mem} {c : Nat} {n v k : Int} (h0 : 0 ≤ k) (h : k < n) : flm M c n v c k = v := by unfold flm; rw [if_pos ⟨rfl, h0, h⟩]
theorem cpm_o {M : Mem} {s t c' : Nat} {n : Int} (h : c' ≠ t) : cpm M s t n c' = M c' := by funext k; unfold cpm; rw [if_neg (fun q => h q.1)]
theorem cpm_i {M : Mem} {s t : Nat} {n k : Int} (h0 : 0 ≤ k) (h : k < n) : cpm M s t n t k = M s k := by unfold cpm; rw [if_pos ⟨rfl, h0, h⟩]
set_option maxRecDepth 100000 in
set_option maxHeartbeats 4000000 in
theorem c_fill {E : EN} {l : Launch} {M : Mem} {c n : Nat} {v : Int} {g : Nat → Option Nat} (ha : At E c (aI n g)) (hn : n < 2147483648) : Cn E l mJ7_fill_53178 0 [vR c, vI v] M (fun r M1 => r = vU ∧ M1 = flm M c n v) := by
  refine Cn.of (by decide) rfl (Nat.le_of_ble_eq_true rfl) 2 rfl (fun oka okm G hR => ?_)
  refine A_iconst dJ7_fill_53178_0 (by decide) ?_
  refine A_istore_n dJ7_fill_53178_1 (by decide) rfl ?_
  refine A_aload_n dJ7_fill_53178_2 rfl ?_
  refine A_alen dJ7_fill_53178_3 (by assumption) (by omega) ?_
  refine A_istore_n dJ7_fill_53178_4 (by decide) rfl ?_
  have lp : ∀ (k : Nat) (i : Int) (M1 : Mem), ((n : Int) - i).toNat = k → 0 ≤ i → i ≤ n → M1 = flm M c i v → AW E mJ7_fill_53178 G 0 0 5 [vR c, vI v, vI i, vI n] [] M1 := by
    intro k
    induction k using Nat.strongRecOn with
    | ind k ih =>
      intro i M1 hk h0 h1 hM
      refine A_iload_n dJ7_fill_53178_5 rfl ?_
      refine A_iload_n dJ7_fill_53178_6 rfl ?_
      refine A_icmp_ge (tgt := 20) dJ7_fill_53178_7 (by decide) (fun h7 => ?_) (fun h7 => ?_)
      · skip
        have hi : i = n := by omega
        subst hi
        exact A_vret hR dJ7_fill_53178_20 rfl ⟨rfl, hM⟩
      · skip
        refine A_aload_n dJ7_fill_53178_10 rfl ?_
        refine A_iload_n dJ7_fill_53178_11 rfl ?_
        refine A_iload_n dJ7_fill_53178_12 rfl ?_
        refine A_iast dJ7_fill_53178_13 (by assumption) (by omega) (by omega) (fun M13 e13 k13 => ?_)
        refine A_iinc dJ7_fill_53178_14 (by decide) rfl rfl ⟨by omega, by omega⟩ ?_
        refine A_goto (tgt := 5) dJ7_fill_53178_17 (by decide) ?_
        refine ih _ ?_ (i + 1) M13 rfl (by omega) (by omega) ?_
        · omega
        · rw [e13, hM]
          funext c' k'
          unfold upm flm
          by_cases hc : c' = c
          · by_cases hk' : k' = i
            · subst hk'; rw [if_pos ⟨hc, rfl⟩, if_pos ⟨hc, by omega, by omega⟩]
            · rw [if_neg (fun q => hk' q.2)]
              by_cases h5 : 0 ≤ k' ∧ k' < i
              · rw [if_pos ⟨hc, h5.1, h5.2⟩, if_pos ⟨hc, h5.1, by omega⟩]
              · rw [if_neg (fun q => h5 q.2), if_neg (fun q => h5 ⟨q.2.1, by omega⟩)]
          · rw [if_neg (fun q => hc q.1), if_neg (fun q => hc q.1), if_neg (fun q => hc q.1)]
  exact lp _ 0 M rfl (by omega) (by omega) (by funext c' k; unfold flm; rw [if_neg (by omega)])
end
section
/-! TOLD: the class's picture, and its methods -/
abbrev nG : Nat → Option Nat := fun _ => none
abbrev rf (j : Nat) : Option (Option Nat) := some (some j)
def isTold (E : EN) (t : Nat) : Prop := At E t (.inl (6, [none, none, none, none, none, rf (t + 1), rf (t + 2), rf (t + 3), rf (t + 4), rf (t + 5), rf (t + 6), rf (t + 7)])) ∧ At E (t + 1) (aI 8 nG) ∧ At E (t + 2) (aI 12 nG) ∧ At E (t + 3) (aI 12 nG) ∧ At E (t + 4) (aI 12 nG) ∧ At E (t + 5) (aI 6 nG) ∧ At E (t + 6) (aI 6 nG) ∧ At E (t + 7) (aI 6 nG)
theorem upm_x {M : Mem} {c c' : Nat} {k k' v : Int} : upm M c k v c' k' = if c' = c ∧ k' = k then v else M c' k' := rfl
theorem cpm_x {M : Mem} {s t c' : Nat} {n k' : Int} : cpm M s t n c' k' = if c' = t ∧ 0 ≤ k' ∧ k' < n then M s k' else M c' k' := rfl
theorem flm_x {M : Mem} {c c' : Nat} {n v k' : Int} : flm M c n v c' k' = if c' = c ∧ 0 ≤ k' ∧ k' < n then v else M c' k' := rfl
set_option maxRecDepth 100000 in
set_option maxHeartbeats 4000000 in
theorem c_isOf {E : EN} {l : Launch} {M : Mem} {t : Nat} {j d : Int} (hT : isTold E t) (h0 : 0 ≤ j) (h1 : j < 12) : Cn E l mX6_isOf 0 [vR t, vI j, vI d] M (fun r M1 => ∃ z, r = vI z ∧ (M1 = M ∧ (z = 0 ∨ z = 1) ∧ (z = 1 ↔ (M (t + 2) j = d ∨ M (t + 3) j = d)))) := by
  refine Cn.of (by decide) rfl (Nat.le_of_ble_eq_true rfl) 0 rfl (fun oka okm G hR => ?_)
  obtain ⟨aT0, aT1, aT2, aT3, aT4, aT5, aT6, aT7⟩ := hT
  refine A_aload_n dX6_isOf_0 rfl ?_
  refine A_getR dX6_isOf_1 fl_RX6_15 (by assumption) (by rfl) ?_
  refine A_iload_n dX6_isOf_4 rfl ?_
  refine A_iald dX6_isOf_5 (by assumption) (by omega) (by omega) ?_
  refine A_iload_n dX6_isOf_6 rfl ?_
  refine A_icmp_eq (tgt := 20) dX6_isOf_7 (by decide) (fun h7 => ?_) (fun h7 => ?_)
  · skip
    refine A_iconst dX6_isOf_20 (by decide) ?_
    refine A_goto (tgt := 25) dX6_isOf_21 (by decide) ?_
    exact A_zret hR dX6_isOf_25 rfl (by first | exact Or.inl rfl | exact Or.inr rfl | omega) ⟨_, rfl, rfl, by omega, by omega⟩
  · skip
    refine A_aload_n dX6_isOf_10 rfl ?_
    refine A_getR dX6_isOf_11 fl_RX6_18 (by assumption) (by rfl) ?_
    refine A_iload_n dX6_isOf_14 rfl ?_
    refine A_iald dX6_isOf_15 (by assumption) (by omega) (by omega) ?_
    refine A_iload_n dX6_isOf_16 rfl ?_
    refine A_icmp_ne (tgt := 24) dX6_isOf_17 (by decide) (fun h17 => ?_) (fun h17 => ?_)
    · skip
      refine A_iconst dX6_isOf_24 (by decide) ?_
      exact A_zret hR dX6_isOf_25 rfl (by first | exact Or.inl rfl | exact Or.inr rfl | omega) ⟨_, rfl, rfl, by omega, by omega⟩
    · skip
      refine A_iconst dX6_isOf_20 (by decide) ?_
      refine A_goto (tgt := 25) dX6_isOf_21 (by decide) ?_
      exact A_zret hR dX6_isOf_25 rfl (by first | exact Or.inl rfl | exact Or.inr rfl | omega) ⟨_, rfl, rfl, by omega, by omega⟩

/-- how many of the first trails are of a desk -/
def trN (A B : Int → Int) (d : Int) : Nat → Int
  | 0 => 0
  | n + 1 => if A n = d ∨ B n = d then trN A B d n + 1 else trN A B d n
theorem trN_r (A B : Int → Int) (d : Int) : ∀ n : Nat, 0 ≤ trN A B d n ∧ trN A B d n ≤ n
  | 0 => ⟨by unfold trN; omega, by unfold trN; omega⟩
  | n + 1 => by
    have := trN_r A B d n
    unfold trN
    split <;> omega
set_option maxRecDepth 100000 in
set_option maxHeartbeats 4000000 in
theorem c_trailsOf {E : EN} {l : Launch} {M : Mem} {t n : Nat} {d : Int} (hT : isTold E t) (hn : M t 1 = n) (h1 : n ≤ 12) : Cn E l mX6_trailsOf 1 [vR t, vI d] M (fun r M1 => ∃ z, r = vI z ∧ (M1 = M ∧ z = trN (M (t + 2)) (M (t + 3)) d n)) := by
  refine Cn.of (by decide) rfl (Nat.le_of_ble_eq_true rfl) 2 rfl (fun oka okm G hR => ?_)
  obtain ⟨aT0, aT1, aT2, aT3, aT4, aT5, aT6, aT7⟩ := hT
  refine A_iconst dX6_trailsOf_0 (by decide) ?_
  refine A_istore_n dX6_trailsOf_1 (by decide) rfl ?_
  refine A_iconst dX6_trailsOf_2 (by decide) ?_
  refine A_istore_n dX6_trailsOf_3 (by decide) rfl ?_
  have lp : ∀ (k : Nat) (i : Nat) (x : Int), n - i = k → (i ≤ n) → (x = trN (M (t + 2)) (M (t + 3)) d i) → AW E mX6_trailsOf G 0 0 4 [vR t, vI d, vI x, vI i] [] M := by
    intro k
    induction k using Nat.strongRecOn with
    | ind k ih =>
      intro i x hk h0 hx
      refine A_iload_n dX6_trailsOf_4 rfl ?_
      refine A_aload_n dX6_trailsOf_5 rfl ?_
      refine A_getI (ki := 1) dX6_trailsOf_6 fl_RX6_41 (by assumption) (by rfl) rfl ?_
      refine A_icmp_ge (tgt := 30) dX6_trailsOf_9 (by decide) (fun h9 => ?_) (fun h9 => ?_)
      · skip
        have hi : i = n := by omega
        subst hi
        refine A_iload_n dX6_trailsOf_30 rfl ?_
        exact A_iret hR dX6_trailsOf_31 rfl ⟨_, rfl, rfl, hx⟩
      · skip
        refine A_aload_n dX6_trailsOf_12 rfl ?_
        refine A_iload_n dX6_trailsOf_13 rfl ?_
        refine A_iload_n dX6_trailsOf_14 rfl ?_
        refine A_vI2 (mj := mX6_isOf) dX6_trailsOf_15 hR.rm (by decide) ok_X6_isOf mv_X6_isOf ml_RX6_65 (by assumption) rfl rfl rfl (c_isOf (t := t) (by exact ⟨aT0, aT1, aT2, aT3, aT4, aT5, aT6, aT7⟩) (by omega) (by omega)) (fun z15 M15 g15 k15 q15 => ?_)
        obtain ⟨e15, q15a, q15b⟩ := q15
        subst M15
        refine A_if_eq (tgt := 24) dX6_trailsOf_18 (by decide) (fun h18 => ?_) (fun h18 => ?_)
        · skip
          refine A_iinc dX6_trailsOf_24 (by decide) rfl rfl ⟨by omega, by omega⟩ ?_
          refine A_goto (tgt := 4) dX6_trailsOf_27 (by decide) ?_
          refine ih _ ?_ (i + 1) _ rfl (by omega) ?_
          · omega
          · unfold trN
            first | rw [if_pos (by omega)]; omega | rw [if_neg (by omega)]; omega
        · skip
          have hb := trN_r (M (t + 2)) (M (t + 3)) d i
          refine A_iinc dX6_trailsOf_21 (by decide) rfl rfl ⟨by omega, by omega⟩ ?_
          refine A_iinc dX6_trailsOf_24 (by decide) rfl rfl ⟨by omega, by omega⟩ ?_
          refine A_goto (tgt := 4) dX6_trailsOf_27 (by decide) ?_
          refine ih _ ?_ (i + 1) _ rfl (by omega) ?_
          · omega
          · unfold trN
            first | rw [if_pos (by omega)]; omega | rw [if_neg (by omega)]; omega
  exact lp _ 0 0 rfl (by omega) rfl

set_option maxRecDepth 100000 in
set_option maxHeartbeats 4000000 in
theorem c_across {E : EN} {l : Launch} {M : Mem} {t : Nat} {j d : Int} (hT : isTold E t) (h0 : 0 ≤ j) (h1 : j < 12) : Cn E l mX6_across 0 [vR t, vI j, vI d] M (fun r M1 => ∃ z, r = vI z ∧ (M1 = M ∧ z = if M (t + 2) j = d then M (t + 3) j else M (t + 2) j)) := by
  refine Cn.of (by decide) rfl (Nat.le_of_ble_eq_true rfl) 0 rfl (fun oka okm G hR => ?_)
  obtain ⟨aT0, aT1, aT2, aT3, aT4, aT5, aT6, aT7⟩ := hT
  refine A_aload_n dX6_across_0 rfl ?_
  refine A_getR dX6_across_1 fl_RX6_15 (by assumption) (by rfl) ?_
  refine A_iload_n dX6_across_4 rfl ?_
  refine A_iald dX6_across_5 (by assumption) (by omega) (by omega) ?_
  refine A_iload_n dX6_across_6 rfl ?_
  refine A_icmp_ne (tgt := 19) dX6_across_7 (by decide) (fun h7 => ?_) (fun h7 => ?_)
  · skip
    refine A_aload_n dX6_across_19 rfl ?_
    refine A_getR dX6_across_20 fl_RX6_15 (by assumption) (by rfl) ?_
    refine A_iload_n dX6_across_23 rfl ?_
    refine A_iald dX6_across_24 (by assumption) (by omega) (by omega) ?_
    exact A_iret hR dX6_across_25 rfl ⟨_, rfl, rfl, by simp_all⟩
  · skip
    refine A_aload_n dX6_across_10 rfl ?_
    refine A_getR dX6_across_11 fl_RX6_18 (by assumption) (by rfl) ?_
    refine A_iload_n dX6_across_14 rfl ?_
    refine A_iald dX6_across_15 (by assumption) (by omega) (by omega) ?_
    refine A_goto (tgt := 25) dX6_across_16 (by decide) ?_
    exact A_iret hR dX6_across_25 rfl ⟨_, rfl, rfl, by simp_all⟩

set_option maxRecDepth 100000 in
set_option maxHeartbeats 4000000 in
theorem c_isA {E : EN} {l : Launch} {M : Mem} {t : Nat} {d a : Int} (hT : isTold E t) (h0 : 0 ≤ d) (h1 : d < 8) : Cn E l mX6_isA 0 [vR t, vI d, vI a] M (fun r M1 => ∃ z, r = vI z ∧ (M1 = M ∧ (z = 0 ∨ z = 1) ∧ (z = 1 ↔ (a = 0 ∨ a = 1 ∧ M (t + 1) d ≠ 3 ∨ a = 2 ∧ M (t + 1) d = 1 ∨ a = 3 ∧ M (t + 1) d = 2 ∨ a = 4 ∧ M (t + 1) d = 3)))) := by
  refine Cn.of (by decide) rfl (Nat.le_of_ble_eq_true rfl) 0 rfl (fun oka okm G hR => ?_)
  obtain ⟨aT0, aT1, aT2, aT3, aT4, aT5, aT6, aT7⟩ := hT
  refine A_iload_n dX6_isA_0 rfl ?_
  rcases (show a = 0 ∨ a = 1 ∨ a = 2 ∨ a = 3 ∨ a = 4 ∨ (a < 0 ∨ 4 < a) by omega) with h1 | h1 | h1 | h1 | h1 | h1
  · refine A_tsIn (tgt := 36) dX6_isA_1 0 (by omega) (by omega) rfl (by decide) ?_
    refine A_iconst dX6_isA_36 (by decide) ?_
    exact A_zret hR dX6_isA_37 rfl (by first | exact Or.inl rfl | exact Or.inr rfl | omega) ⟨_, rfl, rfl, by omega, by omega⟩
  · refine A_tsIn (tgt := 38) dX6_isA_1 1 (by omega) (by omega) rfl (by decide) ?_
    refine A_aload_n dX6_isA_38 rfl ?_
    refine A_getR dX6_isA_39 fl_RX6_9 (by assumption) (by rfl) ?_
    refine A_iload_n dX6_isA_42 rfl ?_
    refine A_iald dX6_isA_43 (by assumption) (by omega) (by omega) ?_
    refine A_iconst dX6_isA_44 (by decide) ?_
    refine A_icmp_eq (tgt := 52) dX6_isA_45 (by decide) (fun h45 => ?_) (fun h45 => ?_)
    · skip
      refine A_iconst dX6_isA_52 (by decide) ?_
      exact A_zret hR dX6_isA_53 rfl (by first | exact Or.inl rfl | exact Or.inr rfl | omega) ⟨_, rfl, rfl, by omega, by omega⟩
    · skip
      refine A_iconst dX6_isA_48 (by decide) ?_
      refine A_goto (tgt := 53) dX6_isA_49 (by decide) ?_
      exact A_zret hR dX6_isA_53 rfl (by first | exact Or.inl rfl | exact Or.inr rfl | omega) ⟨_, rfl, rfl, by omega, by omega⟩
  · refine A_tsIn (tgt := 54) dX6_isA_1 2 (by omega) (by omega) rfl (by decide) ?_
    refine A_aload_n dX6_isA_54 rfl ?_
    refine A_getR dX6_isA_55 fl_RX6_9 (by assumption) (by rfl) ?_
    refine A_iload_n dX6_isA_58 rfl ?_
    refine A_iald dX6_isA_59 (by assumption) (by omega) (by omega) ?_
    refine A_iconst dX6_isA_60 (by decide) ?_
    refine A_icmp_ne (tgt := 68) dX6_isA_61 (by decide) (fun h61 => ?_) (fun h61 => ?_)
    · skip
      refine A_iconst dX6_isA_68 (by decide) ?_
      exact A_zret hR dX6_isA_69 rfl (by first | exact Or.inl rfl | exact Or.inr rfl | omega) ⟨_, rfl, rfl, by omega, by omega⟩
    · skip
      refine A_iconst dX6_isA_64 (by decide) ?_
      refine A_goto (tgt := 69) dX6_isA_65 (by decide) ?_
      exact A_zret hR dX6_isA_69 rfl (by first | exact Or.inl rfl | exact Or.inr rfl | omega) ⟨_, rfl, rfl, by omega, by omega⟩
  · refine A_tsIn (tgt := 70) dX6_isA_1 3 (by omega) (by omega) rfl (by decide) ?_
    refine A_aload_n dX6_isA_70 rfl ?_
    refine A_getR dX6_isA_71 fl_RX6_9 (by assumption) (by rfl) ?_
    refine A_iload_n dX6_isA_74 rfl ?_
    refine A_iald dX6_isA_75 (by assumption) (by omega) (by omega) ?_
    refine A_iconst dX6_isA_76 (by decide) ?_
    refine A_icmp_ne (tgt := 84) dX6_isA_77 (by decide) (fun h77 => ?_) (fun h77 => ?_)
    · skip
      refine A_iconst dX6_isA_84 (by decide) ?_
      exact A_zret hR dX6_isA_85 rfl (by first | exact Or.inl rfl | exact Or.inr rfl | omega) ⟨_, rfl, rfl, by omega, by omega⟩
    · skip
      refine A_iconst dX6_isA_80 (by decide) ?_
      refine A_goto (tgt := 85) dX6_isA_81 (by decide) ?_
      exact A_zret hR dX6_isA_85 rfl (by first | exact Or.inl rfl | exact Or.inr rfl | omega) ⟨_, rfl, rfl, by omega, by omega⟩
  · refine A_tsIn (tgt := 86) dX6_isA_1 4 (by omega) (by omega) rfl (by decide) ?_
    refine A_aload_n dX6_isA_86 rfl ?_
    refine A_getR dX6_isA_87 fl_RX6_9 (by assumption) (by rfl) ?_
    refine A_iload_n dX6_isA_90 rfl ?_
    refine A_iald dX6_isA_91 (by assumption) (by omega) (by omega) ?_
    refine A_iconst dX6_isA_92 (by decide) ?_
    refine A_icmp_ne (tgt := 100) dX6_isA_93 (by decide) (fun h93 => ?_) (fun h93 => ?_)
    · skip
      refine A_iconst dX6_isA_100 (by decide) ?_
      exact A_zret hR dX6_isA_101 rfl (by first | exact Or.inl rfl | exact Or.inr rfl | omega) ⟨_, rfl, rfl, by omega, by omega⟩
    · skip
      refine A_iconst dX6_isA_96 (by decide) ?_
      refine A_goto (tgt := 101) dX6_isA_97 (by decide) ?_
      exact A_zret hR dX6_isA_101 rfl (by first | exact Or.inl rfl | exact Or.inr rfl | omega) ⟨_, rfl, rfl, by omega, by omega⟩
  · refine A_tsOut (tgt := 102) dX6_isA_1 (by omega) (by decide) ?_
    refine A_iconst dX6_isA_102 (by decide) ?_
    exact A_zret hR dX6_isA_103 rfl (by first | exact Or.inl rfl | exact Or.inr rfl | omega) ⟨_, rfl, rfl, by omega, by omega⟩

/-- what a sweetness becomes at a desk of a kind -/
def swb (k v : Int) : Int := if k = 1 then max 0 (v - 1) else if k = 2 then min 9 (v + 1) else v
set_option maxRecDepth 100000 in
set_option maxHeartbeats 4000000 in
theorem c_swb {E : EN} {l : Launch} {M : Mem} {t : Nat} {d v : Int} (hT : isTold E t) (h0 : 0 ≤ d) (h1 : d < 8) (h2 : 0 ≤ v) (h3 : v ≤ 9) : Cn E l mX6_sweetnessBehind 1 [vR t, vI d, vI v] M (fun r M1 => ∃ z, r = vI z ∧ (M1 = M ∧ z = swb (M (t + 1) d) v)) := by
  refine Cn.of (by decide) rfl (Nat.le_of_ble_eq_true rfl) 0 rfl (fun oka okm G hR => ?_)
  obtain ⟨aT0, aT1, aT2, aT3, aT4, aT5, aT6, aT7⟩ := hT
  refine A_aload_n dX6_sweetnessBehind_0 rfl ?_
  refine A_getR dX6_sweetnessBehind_1 fl_RX6_9 (by assumption) (by rfl) ?_
  refine A_iload_n dX6_sweetnessBehind_4 rfl ?_
  refine A_iald dX6_sweetnessBehind_5 (by assumption) (by omega) (by omega) ?_
  rcases (show M (t + 1) d = 1 ∨ M (t + 1) d = 2 ∨ (M (t + 1) d ≠ 1 ∧ M (t + 1) d ≠ 2) by omega) with h6 | h6 | h6
  · refine A_ls (tgt := 32) (off := 26) dX6_sweetnessBehind_6 (by decide) (by rw [h6]; rfl) (by decide) ?_
    refine A_iconst dX6_sweetnessBehind_32 (by decide) ?_
    refine A_iload_n dX6_sweetnessBehind_33 rfl ?_
    refine A_iconst dX6_sweetnessBehind_34 (by decide) ?_
    refine A_isub dX6_sweetnessBehind_35 ⟨by omega, by omega⟩ ?_
    refine A_mmax (d := 1) dX6_sweetnessBehind_36 hR.rm (by decide) ml_RX6_69 rfl ?_
    exact A_iret hR dX6_sweetnessBehind_39 rfl ⟨_, rfl, rfl, by unfold swb; first | rw [if_pos (by assumption)] | rw [if_neg (by omega), if_pos (by assumption)] | rw [if_neg (by omega), if_neg (by omega)]⟩
  · refine A_ls (tgt := 40) (off := 34) dX6_sweetnessBehind_6 (by decide) (by rw [h6]; rfl) (by decide) ?_
    refine A_bipush dX6_sweetnessBehind_40 bp_9 (by decide) ?_
    refine A_iload_n dX6_sweetnessBehind_42 rfl ?_
    refine A_iconst dX6_sweetnessBehind_43 (by decide) ?_
    refine A_iadd dX6_sweetnessBehind_44 ⟨by omega, by omega⟩ ?_
    refine A_mmin (d := 1) dX6_sweetnessBehind_45 hR.rm (by decide) ml_RX6_75 rfl ?_
    exact A_iret hR dX6_sweetnessBehind_48 rfl ⟨_, rfl, rfl, by unfold swb; first | rw [if_pos (by assumption)] | rw [if_neg (by omega), if_pos (by assumption)] | rw [if_neg (by omega), if_neg (by omega)]⟩
  · refine A_ls (tgt := 49) (off := 43) dX6_sweetnessBehind_6 (by decide) (by rw [Op.lookupswitch.offset_cons, if_neg (fun q => by omega), Op.lookupswitch.offset_cons, if_neg (fun q => by omega)]; rfl) (by decide) ?_
    refine A_iload_n dX6_sweetnessBehind_49 rfl ?_
    exact A_iret hR dX6_sweetnessBehind_50 rfl ⟨_, rfl, rfl, by unfold swb; first | rw [if_pos (by assumption)] | rw [if_neg (by omega), if_pos (by assumption)] | rw [if_neg (by omega), if_neg (by omega)]⟩

set_option maxRecDepth 100000 in
set_option maxHeartbeats 4000000 in
theorem c_addTrail {E : EN} {l : Launch} {M : Mem} {t : Nat} {a b s : Int} (hT : isTold E t) (h0 : 0 ≤ M t 1) (h1 : M t 1 < 12) : Cn E l mX6_addTrail 0 [vR t, vI a, vI b, vI s] M (fun r M1 => r = vU ∧ M1 = upm (upm (upm (upm M (t + 2) (M t 1) a) (t + 3) (M t 1) b) (t + 4) (M t 1) s) t 1 (M t 1 + 1)) := by
  refine Cn.of (by decide) rfl (Nat.le_of_ble_eq_true rfl) 0 rfl (fun oka okm G hR => ?_)
  obtain ⟨aT0, aT1, aT2, aT3, aT4, aT5, aT6, aT7⟩ := hT
  refine A_aload_n dX6_addTrail_0 rfl ?_
  refine A_getI (ki := 1) dX6_addTrail_1 fl_RX6_41 (by assumption) (by rfl) rfl ?_
  refine A_bipush dX6_addTrail_4 bp_12 (by decide) ?_
  refine A_icmp_lt (tgt := 10) dX6_addTrail_6 (by decide) (fun h6 => ?_) (fun h6 => ?_)
  · skip
    refine A_aload_n dX6_addTrail_10 rfl ?_
    refine A_getR dX6_addTrail_11 fl_RX6_15 (by assumption) (by rfl) ?_
    refine A_aload_n dX6_addTrail_14 rfl ?_
    refine A_getI (ki := 1) dX6_addTrail_15 fl_RX6_41 (by assumption) (by rfl) rfl ?_
    refine A_iload_n dX6_addTrail_18 rfl ?_
    refine A_iast dX6_addTrail_19 (by assumption) (by omega) (by omega) (fun M19 e19 k19 => ?_)
    refine A_aload_n dX6_addTrail_20 rfl ?_
    refine A_getR dX6_addTrail_21 fl_RX6_18 (by assumption) (by rfl) ?_
    have w19 : M19 t = M t := by rw [e19]; exact upm_c (by omega)
    refine A_aload_n dX6_addTrail_24 rfl ?_
    skip
    refine A_getI (ki := 1) dX6_addTrail_25 fl_RX6_41 (by assumption) (by rfl) rfl ?_
    rw [w19]
    refine A_iload_n dX6_addTrail_28 rfl ?_
    refine A_iast dX6_addTrail_29 (by assumption) (by omega) (by omega) (fun M29 e29 k29 => ?_)
    refine A_aload_n dX6_addTrail_30 rfl ?_
    refine A_getR dX6_addTrail_31 fl_RX6_21 (by assumption) (by rfl) ?_
    have w29 : M29 t = M t := by rw [e29, upm_c (by omega)]; exact w19
    refine A_aload_n dX6_addTrail_34 rfl ?_
    refine A_getI (ki := 1) dX6_addTrail_35 fl_RX6_41 (by assumption) (by rfl) rfl ?_
    rw [w29]
    refine A_iload_n dX6_addTrail_38 rfl ?_
    refine A_iast dX6_addTrail_39 (by assumption) (by omega) (by omega) (fun M39 e39 k39 => ?_)
    have w39 : M39 t = M t := by rw [e39, upm_c (by omega)]; exact w29
    refine A_aload_n dX6_addTrail_40 rfl ?_
    refine A_dup dX6_addTrail_41 rfl ?_
    refine A_getI (ki := 1) dX6_addTrail_42 fl_RX6_41 (by assumption) (by rfl) rfl ?_
    rw [w39]
    refine A_iconst dX6_addTrail_45 (by decide) ?_
    refine A_iadd dX6_addTrail_46 ⟨by omega, by omega⟩ ?_
    refine A_putI (ki := 1) dX6_addTrail_47 fl_RX6_41 fi6_1 (by assumption) (by rfl) rfl (fun M47 e47 k47 => ?_)
    skip
    exact A_vret hR dX6_addTrail_50 rfl ⟨rfl, by rw [e47, e39, e29, e19]⟩
  · skip
    omega

set_option maxRecDepth 100000 in
set_option maxHeartbeats 4000000 in
theorem c_becomeNew {E : EN} {l : Launch} {M : Mem} {t : Nat} {n : Int} (hT : isTold E t) : Cn E l mX6_becomeNew 1 [vR t, vI n] M (fun r M1 => r = vU ∧ M1 = flm (upm (upm (upm (upm (upm M t 0 n) t 1 0) t 2 0) t 3 1) t 4 0) (t + 1) 8 0) := by
  refine Cn.of (by decide) rfl (Nat.le_of_ble_eq_true rfl) 0 rfl (fun oka okm G hR => ?_)
  obtain ⟨aT0, aT1, aT2, aT3, aT4, aT5, aT6, aT7⟩ := hT
  refine A_aload_n dX6_becomeNew_0 rfl ?_
  refine A_iload_n dX6_becomeNew_1 rfl ?_
  refine A_putI (ki := 0) dX6_becomeNew_2 fl_RX6_37 fi6_0 (by assumption) (by rfl) rfl (fun M2 e2 k2 => ?_)
  refine A_aload_n dX6_becomeNew_5 rfl ?_
  refine A_iconst dX6_becomeNew_6 (by decide) ?_
  refine A_putI (ki := 1) dX6_becomeNew_7 fl_RX6_41 fi6_1 (by assumption) (by rfl) rfl (fun M7 e7 k7 => ?_)
  refine A_aload_n dX6_becomeNew_10 rfl ?_
  refine A_iconst dX6_becomeNew_11 (by decide) ?_
  refine A_putI (ki := 2) dX6_becomeNew_12 fl_RX6_44 fi6_2 (by assumption) (by rfl) rfl (fun M12 e12 k12 => ?_)
  refine A_aload_n dX6_becomeNew_15 rfl ?_
  refine A_iconst dX6_becomeNew_16 (by decide) ?_
  refine A_putI (ki := 3) dX6_becomeNew_17 fl_RX6_47 fi6_3 (by assumption) (by rfl) rfl (fun M17 e17 k17 => ?_)
  refine A_aload_n dX6_becomeNew_20 rfl ?_
  refine A_iconst dX6_becomeNew_21 (by decide) ?_
  refine A_putI (ki := 4) dX6_becomeNew_22 fl_RX6_50 fi6_4 (by assumption) (by rfl) rfl (fun M22 e22 k22 => ?_)
  refine A_aload_n dX6_becomeNew_25 rfl ?_
  refine A_getR dX6_becomeNew_26 fl_RX6_9 (by assumption) (by rfl) ?_
  refine A_iconst dX6_becomeNew_29 (by decide) ?_
  refine A_sV2 (mj := mJ7_fill_53178) dX6_becomeNew_30 hR.rm (by decide) ok_J7_fill_53178 st_J7_fill_53178 ml_RX6_53 rfl (c_fill (n := 8) aT1 (by omega)) (fun M30 k30 q30 => ?_)
  subst q30
  exact A_vret hR dX6_becomeNew_33 rfl ⟨rfl, by rw [e22, e17, e12, e7, e2]; rfl⟩
end
section
/-! WHAT AN OFFICE IS, in numbers: what was told (T), how it stands (C); a minute -/
abbrev Fn : Type := Int → Int
/-- desks, trails, files, fade, winter, kinds, trails' desks, scents, files' starts, ends, sweetness -/
abbrev TD : Type := Nat × Nat × Nat × Int × Int × Fn × Fn × Fn × Fn × Fn × Fn × Fn
abbrev oD (T : TD) : Nat := T.1
abbrev oT (T : TD) : Nat := T.2.1
abbrev oF (T : TD) : Nat := T.2.2.1
abbrev oFa (T : TD) : Int := T.2.2.2.1
abbrev oW (T : TD) : Int := T.2.2.2.2.1
abbrev oK (T : TD) : Fn := T.2.2.2.2.2.1
abbrev oA (T : TD) : Fn := T.2.2.2.2.2.2.1
abbrev oB (T : TD) : Fn := T.2.2.2.2.2.2.2.1
abbrev oS (T : TD) : Fn := T.2.2.2.2.2.2.2.2.1
abbrev oSt (T : TD) : Fn := T.2.2.2.2.2.2.2.2.2.1
abbrev oE (T : TD) : Fn := T.2.2.2.2.2.2.2.2.2.2.1
abbrev oSw (T : TD) : Fn := T.2.2.2.2.2.2.2.2.2.2.2
/-- winter, minutes gone, queen, scents, where files are, sweetness, came by, filed in -/
abbrev CS : Type := Int × Int × Int × Fn × Fn × Fn × Fn × Fn
abbrev csW (C : CS) : Int := C.1
abbrev csG (C : CS) : Int := C.2.1
abbrev csQ (C : CS) : Int := C.2.2.1
abbrev csS (C : CS) : Fn := C.2.2.2.1
abbrev csA (C : CS) : Fn := C.2.2.2.2.1
abbrev csSw (C : CS) : Fn := C.2.2.2.2.2.1
abbrev csC (C : CS) : Fn := C.2.2.2.2.2.2.1
abbrev csF (C : CS) : Fn := C.2.2.2.2.2.2.2
abbrev onT (T : TD) (j d : Int) : Prop := oA T j = d ∨ oB T j = d
/-- well told -/
def wT (T : TD) : Prop := (2 ≤ oD T ∧ oD T ≤ 8 ∧ oT T ≤ 12 ∧ oF T ≤ 6 ∧ 0 ≤ oFa T ∧ oFa T ≤ 9 ∧ 0 ≤ oW T ∧ oW T ≤ 99) ∧ (∀ k : Int, 0 ≤ k → k < 8 → 0 ≤ oK T k ∧ oK T k ≤ 3) ∧
  (∀ k : Int, 0 ≤ k → k < oT T → 0 ≤ oA T k ∧ oA T k < oD T ∧ 0 ≤ oB T k ∧ oB T k < oD T ∧ oA T k ≠ oB T k ∧ 0 ≤ oS T k ∧ oS T k ≤ 99) ∧
  (∀ k : Int, 0 ≤ k → k < oF T → 0 ≤ oSt T k ∧ oSt T k < oD T ∧ 0 ≤ oE T k ∧ oE T k < oD T ∧ oSt T k ≠ oE T k ∧ 0 ≤ oSw T k ∧ oSw T k ≤ 9)
/-- well standing -/
def wC (T : TD) (C : CS) : Prop := (0 ≤ csW C ∧ csW C ≤ 99 ∧ 0 ≤ csG C ∧ -1 ≤ csQ C ∧ csQ C < oD T) ∧ (∀ k : Int, 0 ≤ k → k < oT T → 0 ≤ csS C k ∧ csS C k ≤ 99) ∧
  (∀ k : Int, 0 ≤ k → k < oF T → 0 ≤ csA C k ∧ csA C k < oD T ∧ 0 ≤ csSw C k ∧ csSw C k ≤ 9 ∧ -1 ≤ csC C k ∧ csC C k < oT T ∧ (csC C k ≠ -1 → onT T (csC C k) (csA C k)) ∧ -1 ≤ csF C k ∧ csF C k < csG C)
/-- the sweetest file at a desk among the first; -1 -/
def swN (C : CS) (d : Int) : Nat → Int
  | 0 => -1
  | n + 1 => if csA C n = d ∧ csF C n = -1 ∧ 0 < csSw C n ∧ (swN C d n = -1 ∨ csSw C (swN C d n) < csSw C n) then n else swN C d n
/-- the trail of a desk that smells most among the first, but one; -1 -/
def wyN (T : TD) (C : CS) (d but : Int) : Nat → Int
  | 0 => -1
  | n + 1 => if onT T n d ∧ (n : Int) ≠ but ∧ (wyN T C d but n = -1 ∨ csS C (wyN T C d but n) < csS C n) then n else wyN T C d but n
/-- the way from a desk -/
def way (T : TD) (C : CS) (d but : Int) : Int := if wyN T C d but (oT T) = -1 then but else wyN T C d but (oT T)
/-- the trail by which a file is carried in the minute that comes; -1 -/
def crd (T : TD) (C : CS) (f : Int) : Int := if 0 < csW C ∨ oK T (csA C f) = 3 ∨ csQ C = csA C f ∨ swN C (csA C f) (oF T) ≠ f then -1 else way T C (csA C f) (csC C f)
/-- a trail's scent, with what the first files leave -/
def scN (C : CS) (cr : Fn) (j : Int) : Nat → Int
  | 0 => csS C j
  | n + 1 => if cr n = j then min 99 (scN C cr j n + csSw C n) else scN C cr j n
def acr (T : TD) (j d : Int) : Int := if oA T j = d then oB T j else oA T j
/-- where a file is behind a minute -/
def atN (T : TD) (C : CS) (cr : Fn) (f : Int) : Int := if cr f = -1 then csA C f else acr T (cr f) (csA C f)
/-- a minute, by what is carried -/
def mnB (T : TD) (C : CS) (cr : Fn) : CS := (if 0 < csW C then csW C - 1 else csW C, csG C + 1, csQ C, fun j => max 0 (scN C cr j (oF T) - oFa T), atN T C cr, fun f => if cr f = -1 then csSw C f else swb (oK T (atN T C cr f)) (csSw C f), fun f => if cr f = -1 then csC C f else cr f, fun f => if cr f ≠ -1 ∧ atN T C cr f = oE T f then csG C else csF C f)
def mnC (T : TD) (C : CS) : CS := mnB T C (crd T C)
/-- files that are filed, by bits -/
def fsN (F : Fn) : Nat → Nat
  | 0 => 0
  | n + 1 => if F n = -1 then fsN F n else fsN F n + 2 ^ n
def atB (A : Fn) (d : Int) : Nat → Nat
  | 0 => 0
  | n + 1 => if A n = d then atB A d n + 2 ^ n else atB A d n
/-- how it is told as a start -/
def bgC (T : TD) : CS := (oW T, 0, -1, oS T, oSt T, oSw T, fun _ => -1, fun _ => -1)
/-! facts -/
theorem swN_r (C : CS) (d : Int) : ∀ n : Nat, -1 ≤ swN C d n ∧ swN C d n < n
  | 0 => by unfold swN; omega
  | n + 1 => by
    have := swN_r C d n
    unfold swN
    split <;> omega
theorem swN_p (C : CS) (d : Int) : ∀ n : Nat, swN C d n ≠ -1 → csA C (swN C d n) = d ∧ csF C (swN C d n) = -1 ∧ 0 < csSw C (swN C d n)
  | 0 => fun h => by unfold swN at h; omega
  | n + 1 => fun h => by
    have ih := swN_p C d n
    unfold swN at h ⊢
    split
    · rename_i q; exact ⟨q.1, q.2.1, q.2.2.1⟩
    · rename_i q; rw [if_neg q] at h; exact ih h
theorem wyN_r (T : TD) (C : CS) (d but : Int) : ∀ n : Nat, -1 ≤ wyN T C d but n ∧ wyN T C d but n < n
  | 0 => by unfold wyN; omega
  | n + 1 => by
    have := wyN_r T C d but n
    unfold wyN
    split <;> omega
theorem wyN_p (T : TD) (C : CS) (d but : Int) : ∀ n : Nat, wyN T C d but n ≠ -1 → onT T (wyN T C d but n) d
  | 0 => fun h => by unfold wyN at h; omega
  | n + 1 => fun h => by
    have ih := wyN_p T C d but n
    unfold wyN at h ⊢
    split
    · rename_i q; exact q.1
    · rename_i q; rw [if_neg q] at h; exact ih h
theorem way_p {T : TD} {C : CS} {d but : Int} (h1 : -1 ≤ but) (h2 : but < oT T) (h3 : but ≠ -1 → onT T but d) : -1 ≤ way T C d but ∧ way T C d but < oT T ∧ (way T C d but ≠ -1 → onT T (way T C d but) d) := by
  have := wyN_r T C d but (oT T)
  have q := wyN_p T C d but (oT T)
  unfold way
  split
  · exact ⟨h1, h2, h3⟩
  · rename_i h; exact ⟨by omega, by omega, fun _ => q h⟩
theorem crd_p {T : TD} {C : CS} (hC : wC T C) {f : Int} (h0 : 0 ≤ f) (h1 : f < oF T) : -1 ≤ crd T C f ∧ crd T C f < oT T ∧ (crd T C f ≠ -1 → onT T (crd T C f) (csA C f)) := by
  obtain ⟨-, -, hf⟩ := hC
  have h := hf f h0 h1
  unfold crd
  split
  · exact ⟨by omega, by omega, fun q => absurd rfl q⟩
  · exact way_p h.2.2.2.2.1 h.2.2.2.2.2.1 h.2.2.2.2.2.2.1
theorem swb_r {k v : Int} (h0 : 0 ≤ v) (h1 : v ≤ 9) : 0 ≤ swb k v ∧ swb k v ≤ 9 := by
  unfold swb
  split
  · omega
  · split <;> omega
theorem acr_r {T : TD} (hT : wT T) {j d : Int} (h0 : 0 ≤ j) (h1 : j < oT T) (hd : onT T j d) : 0 ≤ acr T j d ∧ acr T j d < oD T ∧ onT T j (acr T j d) := by
  have h := hT.2.2.1 j h0 h1
  unfold acr
  split
  · exact ⟨h.2.2.1, h.2.2.2.1, Or.inr rfl⟩
  · exact ⟨h.1, h.2.1, Or.inl rfl⟩
theorem scN_r {C : CS} {cr : Fn} {j : Int} (h0 : 0 ≤ csS C j) (h1 : csS C j ≤ 99) : ∀ n : Nat, (∀ f : Int, 0 ≤ f → f < n → 0 ≤ csSw C f ∧ csSw C f ≤ 9) → 0 ≤ scN C cr j n ∧ scN C cr j n ≤ 99
  | 0, _ => ⟨h0, h1⟩
  | n + 1, hs => by
    have ih := scN_r (cr := cr) h0 h1 n (fun f a b => hs f a (by omega))
    have := hs n (by omega) (by omega)
    unfold scN
    split <;> omega
theorem mnC_w {T : TD} {C : CS} (hT : wT T) (hC : wC T C) : wC T (mnC T C) := by
  have hc := hC
  obtain ⟨h1, h2, h3⟩ := hC
  refine ⟨?_, fun k a b => ?_, fun k a b => ?_⟩
  · show 0 ≤ (if 0 < csW C then csW C - 1 else csW C) ∧ (if 0 < csW C then csW C - 1 else csW C) ≤ 99 ∧ 0 ≤ csG C + 1 ∧ -1 ≤ csQ C ∧ csQ C < oD T
    split <;> omega
  · have q := scN_r (cr := crd T C) (h2 k a b).1 (h2 k a b).2 (oF T) (fun f x y => ⟨(h3 f x y).2.2.1, (h3 f x y).2.2.2.1⟩)
    have w := hT.1
    show 0 ≤ max 0 (scN C (crd T C) k (oF T) - oFa T) ∧ max 0 (scN C (crd T C) k (oF T) - oFa T) ≤ 99
    omega
  · have q := h3 k a b
    obtain ⟨c1, c2, c3⟩ := crd_p hc a b
    show 0 ≤ atN T C (crd T C) k ∧ atN T C (crd T C) k < oD T ∧ 0 ≤ (if crd T C k = -1 then csSw C k else swb (oK T (atN T C (crd T C) k)) (csSw C k)) ∧ (if crd T C k = -1 then csSw C k else swb (oK T (atN T C (crd T C) k)) (csSw C k)) ≤ 9 ∧ -1 ≤ (if crd T C k = -1 then csC C k else crd T C k) ∧ (if crd T C k = -1 then csC C k else crd T C k) < oT T ∧ ((if crd T C k = -1 then csC C k else crd T C k) ≠ -1 → onT T (if crd T C k = -1 then csC C k else crd T C k) (atN T C (crd T C) k)) ∧ -1 ≤ (if crd T C k ≠ -1 ∧ atN T C (crd T C) k = oE T k then csG C else csF C k) ∧ (if crd T C k ≠ -1 ∧ atN T C (crd T C) k = oE T k then csG C else csF C k) < csG C + 1
    unfold atN
    by_cases hk : crd T C k = -1
    · simp only [if_pos hk]
      exact ⟨q.1, q.2.1, q.2.2.1, q.2.2.2.1, q.2.2.2.2.1, q.2.2.2.2.2.1, q.2.2.2.2.2.2.1, by rw [if_neg (by omega)]; omega, by rw [if_neg (by omega)]; omega⟩
    · simp only [if_neg hk]
      obtain ⟨d1, d2, d3⟩ := acr_r hT (by omega) c2 (c3 hk)
      obtain ⟨e1, e2⟩ := swb_r (k := oK T (acr T (crd T C k) (csA C k))) q.2.2.1 q.2.2.2.1
      exact ⟨d1, d2, e1, e2, c1, c2, fun _ => d3, by split <;> omega, by split <;> omega⟩
theorem fsN_bit (F : Fn) : ∀ n : Nat, fsN F n < 2 ^ n ∧ ∀ i : Nat, (fsN F n).testBit i = decide (i < n ∧ F i ≠ -1)
  | 0 => ⟨by unfold fsN; omega, fun i => by unfold fsN; simp⟩
  | n + 1 => by
    obtain ⟨h1, h2⟩ := fsN_bit F n
    have e2 : 2 ^ (n + 1) = 2 ^ n + 2 ^ n := by rw [Nat.pow_succ]; omega
    unfold fsN
    by_cases hF : F n = -1
    · rw [if_pos hF]
      refine ⟨by omega, fun i => ?_⟩
      rw [h2]
      by_cases hi : i = n
      · subst hi; simp [hF]
      · have : i < n + 1 ↔ i < n := by omega
        simp [this]
    · rw [if_neg hF]
      refine ⟨by omega, fun i => ?_⟩
      rw [Nat.add_comm]
      rcases Nat.lt_trichotomy i n with h | h | h
      · rw [Nat.testBit_two_pow_add_gt h, h2]
        have e : i < n + 1 := by omega
        simp [h, e]
      · subst h
        rw [Nat.testBit_two_pow_add_eq, Nat.testBit_lt_two_pow h1]
        simp [hF]
      · have hlt : 2 ^ n + fsN F n < 2 ^ i := Nat.lt_of_lt_of_le (by omega : 2 ^ n + fsN F n < 2 ^ (n + 1)) (Nat.pow_le_pow_right (by omega) (by omega))
        rw [Nat.testBit_lt_two_pow hlt]
        have e : ¬ i < n + 1 := by omega
        simp [e]
theorem b_nI (n : Nat) : i32 (n : Int) = nI n := rfl
theorem b_shl : ∀ f : Nat, f < 30 → i32 1 <<< (i32 (f : Int) &&& 31) = i32 ((2 ^ f : Nat) : Int) := by decide +kernel
theorem b_or (a b : Nat) : i32 (a : Int) ||| i32 (b : Int) = i32 ((a ||| b : Nat) : Int) := by
  rw [b_nI, b_nI, b_nI]
  apply Int32.toBitVec_inj.mp
  simp [nI]
theorem b_and (a b : Nat) : i32 (a : Int) &&& i32 (b : Int) = i32 ((a &&& b : Nat) : Int) := by
  rw [b_nI, b_nI, b_nI]
  apply Int32.toBitVec_inj.mp
  simp [nI]
/-- a bit set is added -/
theorem b_add {x n : Nat} (h : x < 2 ^ n) : x ||| 2 ^ n = x + 2 ^ n := by
  have h' := Nat.two_pow_add_eq_or_of_lt h 1
  rw [Nat.mul_one] at h'
  rw [Nat.or_comm, ← h', Nat.add_comm]
theorem atB_lt (A : Fn) (d : Int) : ∀ n : Nat, atB A d n < 2 ^ n
  | 0 => by unfold atB; omega
  | n + 1 => by
    have := atB_lt A d n
    have e2 : 2 ^ (n + 1) = 2 ^ n + 2 ^ n := by rw [Nat.pow_succ]; omega
    unfold atB
    split <;> omega
theorem p2_le {i n : Nat} (h : i ≤ n) : 2 ^ i ≤ 2 ^ n := Nat.pow_le_pow_right (by omega) h
theorem sw_same {C : CS} {d : Int} {i : Nat} (h : ¬ (csA C i = d ∧ csF C i = -1 ∧ 0 < csSw C i ∧ (swN C d i = -1 ∨ csSw C (swN C d i) < csSw C i))) : swN C d (i + 1) = swN C d i := by rw [swN, if_neg h]
theorem sw_new {C : CS} {d : Int} {i : Nat} (h : csA C i = d ∧ csF C i = -1 ∧ 0 < csSw C i ∧ (swN C d i = -1 ∨ csSw C (swN C d i) < csSw C i)) : swN C d (i + 1) = i := by rw [swN, if_pos h]
theorem fsN_ext {F F' : Fn} : ∀ n : Nat, (∀ k : Nat, k < n → (F k = -1 ↔ F' k = -1)) → fsN F n = fsN F' n
  | 0, _ => rfl
  | n + 1, h => by
    have ih := fsN_ext n (fun k hk => h k (by omega))
    have q := h n (by omega)
    unfold fsN
    by_cases e : F n = -1
    · rw [if_pos e, if_pos (q.mp e), ih]
    · rw [if_neg e, if_neg (fun z => e (q.mpr z)), ih]
theorem fsN_set {F F' : Fn} {i n : Nat} (hi : i < n) (h1 : F' i ≠ -1) (h2 : ∀ k : Nat, k < n → k ≠ i → (F' k = -1 ↔ F k = -1)) : fsN F n ||| 2 ^ i = fsN F' n := by
  apply Nat.eq_of_testBit_eq
  intro j
  rw [Nat.testBit_or, (fsN_bit F n).2, (fsN_bit F' n).2, Nat.testBit_two_pow]
  by_cases hj : j = i
  · subst hj; simp [hi, h1]
  · have e : ¬ i = j := fun q => hj q.symm
    by_cases hn : j < n
    · have := h2 j hn hj
      simp [hn, e, this]
    · simp [hn, e]
end
section
/-! COURSE: the class's picture, and its methods -/
def isCrs (E : EN) (c : Nat) : Prop := At E c (.inl (0, [none, none, none, none, rf (c + 1), rf (c + 2), rf (c + 3), rf (c + 4), rf (c + 5), rf (c + 6), rf (c + 7)])) ∧ At E (c + 1) (aI 12 nG) ∧ At E (c + 2) (aI 6 nG) ∧ At E (c + 3) (aI 6 nG) ∧ At E (c + 4) (aI 6 nG) ∧ At E (c + 5) (aI 6 nG) ∧ At E (c + 6) (aI 6 nG) ∧ At E (c + 7) (aI 8 nG)
def rT (M : Mem) (t : Nat) (T : TD) : Prop := (M t 0 = oD T ∧ M t 1 = oT T ∧ M t 2 = oF T ∧ M t 3 = oFa T ∧ M t 4 = oW T) ∧ (∀ k : Int, 0 ≤ k → k < 8 → M (t + 1) k = oK T k) ∧ (∀ k : Int, 0 ≤ k → k < oT T → M (t + 2) k = oA T k ∧ M (t + 3) k = oB T k ∧ M (t + 4) k = oS T k) ∧ (∀ k : Int, 0 ≤ k → k < oF T → M (t + 5) k = oSt T k ∧ M (t + 6) k = oE T k ∧ M (t + 7) k = oSw T k)
def rC (M : Mem) (c : Nat) (T : TD) (C : CS) : Prop := (M c 0 = csW C ∧ M c 1 = csG C ∧ M c 2 = csQ C ∧ M c 3 = fsN (csF C) (oF T)) ∧ (∀ k : Int, 0 ≤ k → k < oT T → M (c + 1) k = csS C k) ∧ (∀ k : Int, 0 ≤ k → k < oF T → M (c + 2) k = csA C k ∧ M (c + 3) k = csSw C k ∧ M (c + 4) k = csC C k ∧ M (c + 5) k = csF C k)
/-- nothing but n cells from c on is changed -/
def fr (M M1 : Mem) (c n : Nat) : Prop := ∀ x, (x < c ∨ c + n ≤ x) → M1 x = M x
theorem rT_fr {M M1 : Mem} {t c n : Nat} {T : TD} (h : rT M t T) (hf : fr M M1 c n) (hd : t + 8 ≤ c ∨ c + n ≤ t) : rT M1 t T := by
  unfold rT
  rw [hf t (by omega), hf (t + 1) (by omega), hf (t + 2) (by omega), hf (t + 3) (by omega), hf (t + 4) (by omega), hf (t + 5) (by omega), hf (t + 6) (by omega), hf (t + 7) (by omega)]
  exact h
theorem rC_fr {M M1 : Mem} {t c n : Nat} {T : TD} {C : CS} (h : rC M t T C) (hf : fr M M1 c n) (hd : t + 8 ≤ c ∨ c + n ≤ t) : rC M1 t T C := by
  unfold rC
  rw [hf t (by omega), hf (t + 1) (by omega), hf (t + 2) (by omega), hf (t + 3) (by omega), hf (t + 4) (by omega), hf (t + 5) (by omega)]
  exact h
theorem fr_t {M M1 M2 : Mem} {c n : Nat} (h1 : fr M M1 c n) (h2 : fr M1 M2 c n) : fr M M2 c n := fun x hx => (h2 x hx).trans (h1 x hx)
theorem fr_r {M : Mem} {c n : Nat} : fr M M c n := fun _ _ => rfl
set_option maxRecDepth 100000 in
set_option maxHeartbeats 4000000 in
theorem c_isFiled {E : EN} {l : Launch} {M : Mem} {c : Nat} {f : Int} (hC : isCrs E c) (h0 : 0 ≤ f) (h1 : f < 6) : Cn E l mX0_isFiled 0 [vR c, vI f] M (fun r M1 => ∃ z, r = vI z ∧ (M1 = M ∧ (z = 0 ∨ z = 1) ∧ (z = 1 ↔ M (c + 5) f ≠ -1))) := by
  refine Cn.of (by decide) rfl (Nat.le_of_ble_eq_true rfl) 0 rfl (fun oka okm G hR => ?_)
  obtain ⟨aC0, aC1, aC2, aC3, aC4, aC5, aC6, aC7⟩ := id hC
  refine A_aload_n dX0_isFiled_0 rfl ?_
  refine A_getR dX0_isFiled_1 fl_RX0_24 (by assumption) (by rfl) ?_
  refine A_iload_n dX0_isFiled_4 rfl ?_
  refine A_iald dX0_isFiled_5 (by assumption) (by omega) (by omega) ?_
  refine A_iconst dX0_isFiled_6 (by decide) ?_
  refine A_icmp_eq (tgt := 14) dX0_isFiled_7 (by decide) (fun h7 => ?_) (fun h7 => ?_)
  · skip
    refine A_iconst dX0_isFiled_14 (by decide) ?_
    exact A_zret hR dX0_isFiled_15 rfl (by first | exact Or.inl rfl | exact Or.inr rfl | omega) ⟨_, rfl, rfl, by omega, by omega⟩
  · skip
    refine A_iconst dX0_isFiled_10 (by decide) ?_
    refine A_goto (tgt := 15) dX0_isFiled_11 (by decide) ?_
    exact A_zret hR dX0_isFiled_15 rfl (by first | exact Or.inl rfl | exact Or.inr rfl | omega) ⟨_, rfl, rfl, by omega, by omega⟩

set_option maxRecDepth 100000 in
set_option maxHeartbeats 4000000 in
theorem c_letsGo {E : EN} {l : Launch} {M : Mem} {c t : Nat} {d : Int} (hC : isCrs E c) (hT : isTold E t) (h0 : 0 ≤ d) (h1 : d < 8) : Cn E l mX0_letsGo 0 [vR c, vI d, vR t] M (fun r M1 => ∃ z, r = vI z ∧ (M1 = M ∧ (z = 0 ∨ z = 1) ∧ (z = 1 ↔ d ≠ M c 2 ∧ M (t + 1) d ≠ 3))) := by
  refine Cn.of (by decide) rfl (Nat.le_of_ble_eq_true rfl) 0 rfl (fun oka okm G hR => ?_)
  obtain ⟨aC0, aC1, aC2, aC3, aC4, aC5, aC6, aC7⟩ := id hC
  obtain ⟨aT0, aT1, aT2, aT3, aT4, aT5, aT6, aT7⟩ := id hT
  refine A_iload_n dX0_letsGo_0 rfl ?_
  refine A_aload_n dX0_letsGo_1 rfl ?_
  refine A_getI (ki := 2) dX0_letsGo_2 fl_RX0_43 (by assumption) (by rfl) rfl ?_
  refine A_icmp_eq (tgt := 22) dX0_letsGo_5 (by decide) (fun h5 => ?_) (fun h5 => ?_)
  · skip
    refine A_iconst dX0_letsGo_22 (by decide) ?_
    exact A_zret hR dX0_letsGo_23 rfl (by first | exact Or.inl rfl | exact Or.inr rfl | omega) ⟨_, rfl, rfl, by omega, by omega⟩
  · skip
    refine A_aload_n dX0_letsGo_8 rfl ?_
    refine A_getR dX0_letsGo_9 fl_RX0_97 (by assumption) (by rfl) ?_
    refine A_iload_n dX0_letsGo_12 rfl ?_
    refine A_iald dX0_letsGo_13 (by assumption) (by omega) (by omega) ?_
    refine A_iconst dX0_letsGo_14 (by decide) ?_
    refine A_icmp_eq (tgt := 22) dX0_letsGo_15 (by decide) (fun h15 => ?_) (fun h15 => ?_)
    · skip
      refine A_iconst dX0_letsGo_22 (by decide) ?_
      exact A_zret hR dX0_letsGo_23 rfl (by first | exact Or.inl rfl | exact Or.inr rfl | omega) ⟨_, rfl, rfl, by omega, by omega⟩
    · skip
      refine A_iconst dX0_letsGo_18 (by decide) ?_
      refine A_goto (tgt := 23) dX0_letsGo_19 (by decide) ?_
      exact A_zret hR dX0_letsGo_23 rfl (by first | exact Or.inl rfl | exact Or.inr rfl | omega) ⟨_, rfl, rfl, by omega, by omega⟩

set_option maxRecDepth 100000 in
set_option maxHeartbeats 4000000 in
theorem c_filesAt {E : EN} {l : Launch} {M : Mem} {c n : Nat} {d : Int} (hC : isCrs E c) (hn : n ≤ 6) : Cn E l mX0_filesAt 0 [vR c, vI d, vI n] M (fun r M1 => ∃ z, r = vI z ∧ (M1 = M ∧ z = atB (M (c + 2)) d n)) := by
  refine Cn.of (by decide) rfl (Nat.le_of_ble_eq_true rfl) 2 rfl (fun oka okm G hR => ?_)
  obtain ⟨aC0, aC1, aC2, aC3, aC4, aC5, aC6, aC7⟩ := id hC
  refine A_iconst dX0_filesAt_0 (by decide) ?_
  refine A_istore_n dX0_filesAt_1 (by decide) rfl ?_
  refine A_iconst dX0_filesAt_2 (by decide) ?_
  refine A_istore dX0_filesAt_3 (by decide) rfl ?_
  have lp : ∀ (k : Nat) (i : Nat) (x : Int), n - i = k → (i ≤ n) → (x = atB (M (c + 2)) d i) → AW E mX0_filesAt G 0 0 5 [vR c, vI d, vI n, vI x, vI i] [] M := by
    intro k
    induction k using Nat.strongRecOn with
    | ind k ih =>
      intro i x hk h0 hx
      refine A_iload dX0_filesAt_5 rfl ?_
      refine A_iload_n dX0_filesAt_7 rfl ?_
      refine A_icmp_ge (tgt := 35) dX0_filesAt_8 (by decide) (fun h8 => ?_) (fun h8 => ?_)
      · skip
        have hi : i = n := by omega
        subst hi
        refine A_iload_n dX0_filesAt_35 rfl ?_
        exact A_iret hR dX0_filesAt_36 rfl ⟨_, rfl, rfl, hx⟩
      · skip
        refine A_aload_n dX0_filesAt_11 rfl ?_
        refine A_getR dX0_filesAt_12 fl_RX0_15 (by assumption) (by rfl) ?_
        refine A_iload dX0_filesAt_15 rfl ?_
        refine A_iald dX0_filesAt_17 (by assumption) (by omega) (by omega) ?_
        refine A_iload_n dX0_filesAt_18 rfl ?_
        refine A_icmp_ne (tgt := 29) dX0_filesAt_19 (by decide) (fun h19 => ?_) (fun h19 => ?_)
        · skip
          refine A_iinc dX0_filesAt_29 (by decide) rfl rfl ⟨by omega, by omega⟩ ?_
          refine A_goto (tgt := 5) dX0_filesAt_32 (by decide) ?_
          refine ih _ ?_ (i + 1) _ rfl (by omega) ?_
          · omega
          · rw [atB]
            first | rw [if_pos (by assumption)] | (rw [if_neg (by assumption)]; exact hx)
        · skip
          have hA := atB_lt (M (c + 2)) d i
          have hp : 2 ^ i ≤ 2 ^ 5 := p2_le (by omega)
          refine A_iload_n dX0_filesAt_22 rfl ?_
          refine A_iconst dX0_filesAt_23 (by decide) ?_
          refine A_iload dX0_filesAt_24 rfl ?_
          refine A_ishl (z := ((2 ^ i : Nat) : Int)) dX0_filesAt_26 (b_shl i (by omega)) ⟨by omega, by omega⟩ ?_
          refine A_ior (z := ((atB (M (c + 2)) d i + 2 ^ i : Nat) : Int)) dX0_filesAt_27 (by rw [hx, b_or, b_add hA]) ⟨by omega, by omega⟩ ?_
          refine A_istore_n dX0_filesAt_28 (by decide) rfl ?_
          refine A_iinc dX0_filesAt_29 (by decide) rfl rfl ⟨by omega, by omega⟩ ?_
          refine A_goto (tgt := 5) dX0_filesAt_32 (by decide) ?_
          refine ih _ ?_ (i + 1) _ rfl (by omega) ?_
          · omega
          · rw [atB]
            first | rw [if_pos (by assumption)] | (rw [if_neg (by assumption)]; exact hx)
  exact lp _ 0 0 rfl (by omega) rfl

/-- how many of the first scents are one yet behind the rain -/
def hvN (S : Fn) : Nat → Int
  | 0 => 0
  | n + 1 => if 0 < S n / 2 then hvN S n + 1 else hvN S n
theorem hvN_r (S : Fn) : ∀ n : Nat, 0 ≤ hvN S n ∧ hvN S n ≤ n
  | 0 => ⟨by unfold hvN; omega, by unfold hvN; omega⟩
  | n + 1 => by
    have := hvN_r S n
    unfold hvN
    split <;> omega
set_option maxRecDepth 100000 in
set_option maxHeartbeats 4000000 in
theorem c_halve {E : EN} {l : Launch} {M : Mem} {c n : Nat} {S : Fn} (hC : isCrs E c) (hn : n ≤ 12) (hS : ∀ k : Int, 0 ≤ k → k < n → M (c + 1) k = S k ∧ 0 ≤ S k ∧ S k ≤ 99) : Cn E l mX0_halveScents 0 [vR c, vI n] M (fun r M1 => ∃ z, r = vI z ∧ (z = hvN S n ∧ (∀ x, x ≠ c + 1 → M1 x = M x) ∧ ∀ k : Int, 0 ≤ k → k < n → M1 (c + 1) k = S k / 2)) := by
  refine Cn.of (by decide) rfl (Nat.le_of_ble_eq_true rfl) 2 rfl (fun oka okm G hR => ?_)
  obtain ⟨aC0, aC1, aC2, aC3, aC4, aC5, aC6, aC7⟩ := id hC
  refine A_iconst dX0_halveScents_0 (by decide) ?_
  refine A_istore_n dX0_halveScents_1 (by decide) rfl ?_
  refine A_iconst dX0_halveScents_2 (by decide) ?_
  refine A_istore_n dX0_halveScents_3 (by decide) rfl ?_
  have lp : ∀ (k : Nat) (i : Nat) (x : Int) (M1 : Mem), n - i = k → (i ≤ n) → (x = hvN S i) → (∀ y, y ≠ c + 1 → M1 y = M y) → (∀ k : Int, 0 ≤ k → k < n → M1 (c + 1) k = if k < i then S k / 2 else S k) → AW E mX0_halveScents G 0 0 4 [vR c, vI n, vI x, vI i] [] M1 := by
    intro k
    induction k using Nat.strongRecOn with
    | ind k ih =>
      intro i x M1 hk h0 hx hf hc
      refine A_iload_n dX0_halveScents_4 rfl ?_
      refine A_iload_n dX0_halveScents_5 rfl ?_
      refine A_icmp_ge (tgt := 37) dX0_halveScents_6 (by decide) (fun h6 => ?_) (fun h6 => ?_)
      · skip
        have hi : i = n := by omega
        subst hi
        refine A_iload_n dX0_halveScents_37 rfl ?_
        exact A_iret hR dX0_halveScents_38 rfl ⟨_, rfl, hx, hf, fun k a b => by rw [hc k a b, if_pos b]⟩
      · skip
        have hi := hS i (by omega) (by omega)
        have hv : M1 (c + 1) i = S i := by rw [hc i (by omega) (by omega), if_neg (by omega)]
        have hr := hvN_r S i
        refine A_aload_n dX0_halveScents_9 rfl ?_
        refine A_getR dX0_halveScents_10 fl_RX0_9 (by assumption) (by rfl) ?_
        refine A_iload_n dX0_halveScents_13 rfl ?_
        refine A_dup2 dX0_halveScents_14 rfl rfl ?_
        refine A_iald dX0_halveScents_15 (by assumption) (by omega) (by omega) ?_
        rw [hv]
        refine A_iconst dX0_halveScents_16 (by decide) ?_
        refine A_idiv  dX0_halveScents_17 (by omega) (by rw [Int.tdiv_eq_ediv_of_nonneg hi.2.1]; exact ⟨by omega, by omega⟩) ?_
        rw [Int.tdiv_eq_ediv_of_nonneg hi.2.1]
        refine A_iast dX0_halveScents_18 (by assumption) (by omega) (by omega) (fun M18 e18 k18 => ?_)
        refine A_aload_n dX0_halveScents_19 rfl ?_
        refine A_getR dX0_halveScents_20 fl_RX0_9 (by assumption) (by rfl) ?_
        refine A_iload_n dX0_halveScents_23 rfl ?_
        refine A_iald dX0_halveScents_24 (by assumption) (by omega) (by omega) ?_
        rw [show M18 (c + 1) i = S i / 2 by rw [e18, upm_s]]
        refine A_if_le (tgt := 31) dX0_halveScents_25 (by decide) (fun h25 => ?_) (fun h25 => ?_)
        · skip
          refine A_iinc dX0_halveScents_31 (by decide) rfl rfl ⟨by omega, by omega⟩ ?_
          refine A_goto (tgt := 4) dX0_halveScents_34 (by decide) ?_
          refine ih _ ?_ (i + 1) _ M18 rfl (by omega) ?_ (fun y hy => by rw [e18, upm_c hy]; exact hf y hy) (fun k a b => ?_)
          · omega
          · rw [hvN]
            first | (rw [if_pos (by omega)]; omega) | (rw [if_neg (by omega)]; omega)
          · rw [e18, upm_x]
            by_cases hk : k = i
            · subst hk; rw [if_pos ⟨rfl, rfl⟩, if_pos (by omega)]
            · rw [if_neg (fun q => hk q.2), hc k a b]
              by_cases q : k < i
              · rw [if_pos q, if_pos (by omega)]
              · rw [if_neg q, if_neg (by omega)]
        · skip
          refine A_iinc dX0_halveScents_28 (by decide) rfl rfl ⟨by omega, by omega⟩ ?_
          refine A_iinc dX0_halveScents_31 (by decide) rfl rfl ⟨by omega, by omega⟩ ?_
          refine A_goto (tgt := 4) dX0_halveScents_34 (by decide) ?_
          refine ih _ ?_ (i + 1) _ M18 rfl (by omega) ?_ (fun y hy => by rw [e18, upm_c hy]; exact hf y hy) (fun k a b => ?_)
          · omega
          · rw [hvN]
            first | (rw [if_pos (by omega)]; omega) | (rw [if_neg (by omega)]; omega)
          · rw [e18, upm_x]
            by_cases hk : k = i
            · subst hk; rw [if_pos ⟨rfl, rfl⟩, if_pos (by omega)]
            · rw [if_neg (fun q => hk q.2), hc k a b]
              by_cases q : k < i
              · rw [if_pos q, if_pos (by omega)]
              · rw [if_neg q, if_neg (by omega)]
  exact lp _ 0 0 M rfl (by omega) rfl (fun _ _ => rfl) (fun k a b => by rw [if_neg (by omega)]; exact (hS k a b).1)

set_option maxRecDepth 100000 in
set_option maxHeartbeats 4000000 in
theorem c_findSweetest {E : EN} {l : Launch} {M : Mem} {c t : Nat} {T : TD} {C : CS}(hC : isCrs E c) (hT : isTold E t) (hd : t + 8 ≤ c ∨ c + 8 ≤ t) (hrT : rT M t T) (hrC : rC M c T C) (hwT : wT T) (hwC : wC T C) : Cn E l mX0_findSweetest 1 [vR c, vR t] M (fun r M1 => r = vU ∧ ((∀ x, x ≠ c + 7 → M1 x = M x) ∧ ∀ d : Int, 0 ≤ d → d < 8 → M1 (c + 7) d = swN C d (oF T))) := by
  refine Cn.of (by decide) rfl (Nat.le_of_ble_eq_true rfl) 2 rfl (fun oka okm G hR => ?_)
  obtain ⟨aC0, aC1, aC2, aC3, aC4, aC5, aC6, aC7⟩ := id hC
  obtain ⟨aT0, aT1, aT2, aT3, aT4, aT5, aT6, aT7⟩ := id hT
  obtain ⟨⟨t0, t1, t2, t3, t4⟩, tk, tt, tf⟩ := id hrT
  obtain ⟨⟨c0, c1, c2, c3⟩, cs, cf⟩ := id hrC
  obtain ⟨wt0, wtk, wtt, wtf⟩ := id hwT
  obtain ⟨wc0, wcs, wcf⟩ := id hwC
  refine A_aload_n dX0_findSweetest_0 rfl ?_
  refine A_getR dX0_findSweetest_1 fl_RX0_30 (by assumption) (by rfl) ?_
  refine A_iconst dX0_findSweetest_4 (by decide) ?_
  refine A_sV2 (mj := mJ7_fill_53178) dX0_findSweetest_5 hR.rm (by decide) ok_J7_fill_53178 st_J7_fill_53178 ml_RX0_60 rfl (c_fill (n := 8) aC7 (by omega)) (fun M5 k5 q5 => ?_)
  refine A_iconst dX0_findSweetest_8 (by decide) ?_
  refine A_istore_n dX0_findSweetest_9 (by decide) rfl ?_
  have lp : ∀ (k : Nat) (i : Nat) (M1 : Mem) (x3 : AV), oF T - i = k → (i ≤ oF T) → (∀ y, y ≠ c + 7 → M1 y = M y) → (∀ d : Int, 0 ≤ d → d < 8 → M1 (c + 7) d = swN C d i) → AW E mX0_findSweetest G 0 0 10 [vR c, vR t, vI i, x3] [] M1 := by
    intro k
    induction k using Nat.strongRecOn with
    | ind k ih =>
      intro i M1 x3 hk h0 hf hc
      have w2 : M1 (c + 2) = M (c + 2) := hf _ (by omega)
      have w3 : M1 (c + 3) = M (c + 3) := hf _ (by omega)
      have w5 : M1 (c + 5) = M (c + 5) := hf _ (by omega)
      have wt : M1 t = M t := hf _ (by omega)
      refine A_iload_n dX0_findSweetest_10 rfl ?_
      refine A_aload_n dX0_findSweetest_11 rfl ?_
      refine A_getI (ki := 2) dX0_findSweetest_12 fl_RX0_100 (by assumption) (by rfl) rfl ?_
      rw [wt, t2]
      refine A_icmp_ge (tgt := 88) dX0_findSweetest_15 (by decide) (fun h15 => ?_) (fun h15 => ?_)
      · skip
        have hi : i = oF T := by omega
        subst hi
        exact A_vret hR dX0_findSweetest_88 rfl ⟨rfl, hf, hc⟩
      · skip
        have f1 := cf i (by omega) (by omega)
        have f2 := wcf i (by omega) (by omega)
        refine A_aload_n dX0_findSweetest_18 rfl ?_
        refine A_iload_n dX0_findSweetest_19 rfl ?_
        refine A_vI1 (mj := mX0_isFiled) dX0_findSweetest_20 hR.rm (by decide) ok_X0_isFiled mv_X0_isFiled ml_RX0_103 (by assumption) rfl rfl rfl (c_isFiled (by exact ⟨aC0, aC1, aC2, aC3, aC4, aC5, aC6, aC7⟩) (by omega) (by omega)) (fun z20 M20 g20 k20 q20 => ?_)
        obtain ⟨e20, q20a, q20b⟩ := q20
        subst M20
        rw [w5, (cf i (by omega) (by omega)).2.2.2] at q20b
        refine A_if_ne (tgt := 82) dX0_findSweetest_23 (by decide) (fun h23 => ?_) (fun h23 => ?_)
        · skip
          refine A_iinc dX0_findSweetest_82 (by decide) rfl rfl ⟨by omega, by omega⟩ ?_
          refine A_goto (tgt := 10) dX0_findSweetest_85 (by decide) ?_
          refine ih _ ?_ (i + 1) M1 _ rfl (by omega) hf (fun d a b => ?_)
          · omega
          · rw [sw_same (fun q => ?_)]
            · exact hc d a b
            · obtain ⟨q1, q2, q3, q4⟩ := q
              first | omega | (subst q1; omega)
        · skip
          refine A_aload_n dX0_findSweetest_26 rfl ?_
          refine A_getR dX0_findSweetest_27 fl_RX0_18 (by assumption) (by rfl) ?_
          refine A_iload_n dX0_findSweetest_30 rfl ?_
          refine A_iald dX0_findSweetest_31 (by assumption) (by omega) (by omega) ?_
          rw [w3, f1.2.1]
          refine A_if_ne (tgt := 38) dX0_findSweetest_32 (by decide) (fun h32 => ?_) (fun h32 => ?_)
          · skip
            refine A_aload_n dX0_findSweetest_38 rfl ?_
            refine A_getR dX0_findSweetest_39 fl_RX0_30 (by assumption) (by rfl) ?_
            refine A_aload_n dX0_findSweetest_42 rfl ?_
            refine A_getR dX0_findSweetest_43 fl_RX0_15 (by assumption) (by rfl) ?_
            refine A_iload_n dX0_findSweetest_46 rfl ?_
            refine A_iald dX0_findSweetest_47 (by assumption) (by omega) (by omega) ?_
            rw [w2, f1.1]
            refine A_iald dX0_findSweetest_48 (by assumption) (by omega) (by omega) ?_
            rw [hc _ (by omega) (by omega)]
            have sr := swN_r C (csA C i) i
            refine A_istore_n dX0_findSweetest_49 (by decide) rfl ?_
            refine A_iload_n dX0_findSweetest_50 rfl ?_
            refine A_iconst dX0_findSweetest_51 (by decide) ?_
            refine A_icmp_eq (tgt := 70) dX0_findSweetest_52 (by decide) (fun h52 => ?_) (fun h52 => ?_)
            · skip
              refine A_aload_n dX0_findSweetest_70 rfl ?_
              refine A_getR dX0_findSweetest_71 fl_RX0_30 (by assumption) (by rfl) ?_
              refine A_aload_n dX0_findSweetest_74 rfl ?_
              refine A_getR dX0_findSweetest_75 fl_RX0_15 (by assumption) (by rfl) ?_
              refine A_iload_n dX0_findSweetest_78 rfl ?_
              refine A_iald dX0_findSweetest_79 (by assumption) (by omega) (by omega) ?_
              rw [w2, f1.1]
              refine A_iload_n dX0_findSweetest_80 rfl ?_
              refine A_iast dX0_findSweetest_81 (by assumption) (by omega) (by omega) (fun M81 e81 k81 => ?_)
              refine A_iinc dX0_findSweetest_82 (by decide) rfl rfl ⟨by omega, by omega⟩ ?_
              refine A_goto (tgt := 10) dX0_findSweetest_85 (by decide) ?_
              refine ih _ ?_ (i + 1) M81 _ rfl (by omega) (fun y hy => by rw [e81, upm_c hy]; exact hf y hy) (fun d a b => ?_)
              · omega
              · rw [e81, upm_x]
                by_cases hd : d = csA C i
                · subst hd
                  rw [if_pos ⟨rfl, rfl⟩, sw_new ⟨rfl, by omega, by omega, by omega⟩]
                · rw [if_neg (fun q => hd q.2), sw_same (fun q => hd q.1.symm)]
                  exact hc d a b
            · skip
              refine A_aload_n dX0_findSweetest_55 rfl ?_
              refine A_getR dX0_findSweetest_56 fl_RX0_18 (by assumption) (by rfl) ?_
              refine A_iload_n dX0_findSweetest_59 rfl ?_
              refine A_iald dX0_findSweetest_60 (by assumption) (by omega) (by omega) ?_
              rw [w3, f1.2.1]
              refine A_aload_n dX0_findSweetest_61 rfl ?_
              refine A_getR dX0_findSweetest_62 fl_RX0_18 (by assumption) (by rfl) ?_
              refine A_iload_n dX0_findSweetest_65 rfl ?_
              refine A_iald dX0_findSweetest_66 (by assumption) (by omega) (by omega) ?_
              rw [w3, (cf _ (by omega) (by omega)).2.1]
              refine A_icmp_le (tgt := 82) dX0_findSweetest_67 (by decide) (fun h67 => ?_) (fun h67 => ?_)
              · skip
                refine A_iinc dX0_findSweetest_82 (by decide) rfl rfl ⟨by omega, by omega⟩ ?_
                refine A_goto (tgt := 10) dX0_findSweetest_85 (by decide) ?_
                refine ih _ ?_ (i + 1) M1 _ rfl (by omega) hf (fun d a b => ?_)
                · omega
                · rw [sw_same (fun q => ?_)]
                  · exact hc d a b
                  · obtain ⟨q1, q2, q3, q4⟩ := q
                    first | omega | (subst q1; omega)
              · skip
                refine A_aload_n dX0_findSweetest_70 rfl ?_
                refine A_getR dX0_findSweetest_71 fl_RX0_30 (by assumption) (by rfl) ?_
                refine A_aload_n dX0_findSweetest_74 rfl ?_
                refine A_getR dX0_findSweetest_75 fl_RX0_15 (by assumption) (by rfl) ?_
                refine A_iload_n dX0_findSweetest_78 rfl ?_
                refine A_iald dX0_findSweetest_79 (by assumption) (by omega) (by omega) ?_
                rw [w2, f1.1]
                refine A_iload_n dX0_findSweetest_80 rfl ?_
                refine A_iast dX0_findSweetest_81 (by assumption) (by omega) (by omega) (fun M81 e81 k81 => ?_)
                refine A_iinc dX0_findSweetest_82 (by decide) rfl rfl ⟨by omega, by omega⟩ ?_
                refine A_goto (tgt := 10) dX0_findSweetest_85 (by decide) ?_
                refine ih _ ?_ (i + 1) M81 _ rfl (by omega) (fun y hy => by rw [e81, upm_c hy]; exact hf y hy) (fun d a b => ?_)
                · omega
                · rw [e81, upm_x]
                  by_cases hd : d = csA C i
                  · subst hd
                    rw [if_pos ⟨rfl, rfl⟩, sw_new ⟨rfl, by omega, by omega, by omega⟩]
                  · rw [if_neg (fun q => hd q.2), sw_same (fun q => hd q.1.symm)]
                    exact hc d a b
          · skip
            refine A_goto (tgt := 82) dX0_findSweetest_35 (by decide) ?_
            refine A_iinc dX0_findSweetest_82 (by decide) rfl rfl ⟨by omega, by omega⟩ ?_
            refine A_goto (tgt := 10) dX0_findSweetest_85 (by decide) ?_
            refine ih _ ?_ (i + 1) M1 _ rfl (by omega) hf (fun d a b => ?_)
            · omega
            · rw [sw_same (fun q => ?_)]
              · exact hc d a b
              · obtain ⟨q1, q2, q3, q4⟩ := q
                first | omega | (subst q1; omega)
  exact lp _ 0 M5 vU rfl (by omega) (fun y hy => by rw [q5, flm_o hy]) (fun d a b => by rw [q5, flm_i a (by omega)]; rfl)

set_option maxRecDepth 100000 in
set_option maxHeartbeats 4000000 in
theorem c_wayFrom {E : EN} {l : Launch} {M : Mem} {c t : Nat} {T : TD} {C : CS}{d but : Int}(hC : isCrs E c) (hT : isTold E t) (hd : t + 8 ≤ c ∨ c + 8 ≤ t) (hrT : rT M t T) (hrC : rC M c T C) (hwT : wT T) (hwC : wC T C)(hb1 : -1 ≤ but) (hb2 : but < oT T) : Cn E l mX0_wayFrom 1 [vR c, vI d, vI but, vR t] M (fun r M1 => ∃ z, r = vI z ∧ (M1 = M ∧ z = way T C d but)) := by
  refine Cn.of (by decide) rfl (Nat.le_of_ble_eq_true rfl) 2 rfl (fun oka okm G hR => ?_)
  obtain ⟨aC0, aC1, aC2, aC3, aC4, aC5, aC6, aC7⟩ := id hC
  obtain ⟨aT0, aT1, aT2, aT3, aT4, aT5, aT6, aT7⟩ := id hT
  obtain ⟨⟨t0, t1, t2, t3, t4⟩, tk, tt, tf⟩ := id hrT
  obtain ⟨⟨c0, c1, c2, c3⟩, cs, cf⟩ := id hrC
  obtain ⟨wt0, wtk, wtt, wtf⟩ := id hwT
  obtain ⟨wc0, wcs, wcf⟩ := id hwC
  refine A_iconst dX0_wayFrom_0 (by decide) ?_
  refine A_istore dX0_wayFrom_1 (by decide) rfl ?_
  refine A_iconst dX0_wayFrom_3 (by decide) ?_
  refine A_istore dX0_wayFrom_4 (by decide) rfl ?_
  have lp : ∀ (k : Nat) (i : Nat) (x : Int), oT T - i = k → (i ≤ oT T) → (x = wyN T C d but i) → AW E mX0_wayFrom G 0 0 6 [vR c, vI d, vI but, vR t, vI x, vI i] [] M := by
    intro k
    induction k using Nat.strongRecOn with
    | ind k ih =>
      intro i x hk h0 hx
      refine A_iload dX0_wayFrom_6 rfl ?_
      refine A_aload_n dX0_wayFrom_8 rfl ?_
      refine A_getI (ki := 1) dX0_wayFrom_9 fl_RX0_107 (by assumption) (by rfl) rfl ?_
      rw [t1]
      refine A_icmp_ge (tgt := 67) dX0_wayFrom_12 (by decide) (fun h12 => ?_) (fun h12 => ?_)
      · skip
        have hi : i = oT T := by omega
        subst hi
        refine A_iload dX0_wayFrom_67 rfl ?_
        refine A_iconst dX0_wayFrom_69 (by decide) ?_
        refine A_icmp_ne (tgt := 77) dX0_wayFrom_70 (by decide) (fun h70 => ?_) (fun h70 => ?_)
        · skip
          refine A_iload dX0_wayFrom_77 rfl ?_
          exact A_iret hR dX0_wayFrom_79 rfl ⟨_, rfl, rfl, by unfold way; first | (rw [if_pos (by omega)]) | (rw [if_neg (by omega)]; exact hx)⟩
        · skip
          refine A_iload_n dX0_wayFrom_73 rfl ?_
          refine A_goto (tgt := 79) dX0_wayFrom_74 (by decide) ?_
          exact A_iret hR dX0_wayFrom_79 rfl ⟨_, rfl, rfl, by unfold way; first | (rw [if_pos (by omega)]) | (rw [if_neg (by omega)]; exact hx)⟩
      · skip
        have g1 := tt i (by omega) (by omega)
        have g2 := cs i (by omega) (by omega)
        have sr := wyN_r T C d but i
        refine A_iload dX0_wayFrom_15 rfl ?_
        refine A_iload_n dX0_wayFrom_17 rfl ?_
        refine A_icmp_eq (tgt := 61) dX0_wayFrom_18 (by decide) (fun h18 => ?_) (fun h18 => ?_)
        · skip
          refine A_iinc dX0_wayFrom_61 (by decide) rfl rfl ⟨by omega, by omega⟩ ?_
          refine A_goto (tgt := 6) dX0_wayFrom_64 (by decide) ?_
          refine ih _ ?_ (i + 1) _ rfl (by omega) ?_
          · omega
          · rw [wyN]
            first | rw [if_pos ⟨by omega, by omega, by omega⟩] | (rw [if_neg (fun q => by omega)]; try exact hx)
        · skip
          refine A_aload_n dX0_wayFrom_21 rfl ?_
          refine A_iload dX0_wayFrom_22 rfl ?_
          refine A_iload_n dX0_wayFrom_24 rfl ?_
          refine A_vI2 (mj := mX6_isOf) dX0_wayFrom_25 hR.rm (by decide) ok_X6_isOf mv_X6_isOf ml_RX0_110 (by assumption) rfl rfl rfl (c_isOf (by exact ⟨aT0, aT1, aT2, aT3, aT4, aT5, aT6, aT7⟩) (by omega) (by omega)) (fun z25 M25 g25 k25 q25 => ?_)
          obtain ⟨e25, q25a, q25b⟩ := q25
          subst M25
          rw [g1.1, g1.2.1] at q25b
          refine A_if_ne (tgt := 34) dX0_wayFrom_28 (by decide) (fun h28 => ?_) (fun h28 => ?_)
          · skip
            refine A_iload dX0_wayFrom_34 rfl ?_
            refine A_iconst dX0_wayFrom_36 (by decide) ?_
            refine A_icmp_eq (tgt := 57) dX0_wayFrom_37 (by decide) (fun h37 => ?_) (fun h37 => ?_)
            · skip
              refine A_iload dX0_wayFrom_57 rfl ?_
              refine A_istore dX0_wayFrom_59 (by decide) rfl ?_
              refine A_iinc dX0_wayFrom_61 (by decide) rfl rfl ⟨by omega, by omega⟩ ?_
              refine A_goto (tgt := 6) dX0_wayFrom_64 (by decide) ?_
              refine ih _ ?_ (i + 1) _ rfl (by omega) ?_
              · omega
              · rw [wyN]
                first | rw [if_pos ⟨by omega, by omega, by omega⟩] | (rw [if_neg (fun q => by omega)]; try exact hx)
            · skip
              refine A_aload_n dX0_wayFrom_40 rfl ?_
              refine A_getR dX0_wayFrom_41 fl_RX0_9 (by assumption) (by rfl) ?_
              refine A_iload dX0_wayFrom_44 rfl ?_
              refine A_iald dX0_wayFrom_46 (by assumption) (by omega) (by omega) ?_
              rw [g2]
              refine A_aload_n dX0_wayFrom_47 rfl ?_
              refine A_getR dX0_wayFrom_48 fl_RX0_9 (by assumption) (by rfl) ?_
              refine A_iload dX0_wayFrom_51 rfl ?_
              refine A_iald dX0_wayFrom_53 (by assumption) (by omega) (by omega) ?_
              rw [cs x (by omega) (by omega), hx]
              refine A_icmp_le (tgt := 61) dX0_wayFrom_54 (by decide) (fun h54 => ?_) (fun h54 => ?_)
              · skip
                refine A_iinc dX0_wayFrom_61 (by decide) rfl rfl ⟨by omega, by omega⟩ ?_
                refine A_goto (tgt := 6) dX0_wayFrom_64 (by decide) ?_
                refine ih _ ?_ (i + 1) _ rfl (by omega) ?_
                · omega
                · rw [wyN]
                  first | rw [if_pos ⟨by omega, by omega, by omega⟩] | (rw [if_neg (fun q => by omega)]; try exact hx)
              · skip
                refine A_iload dX0_wayFrom_57 rfl ?_
                refine A_istore dX0_wayFrom_59 (by decide) rfl ?_
                refine A_iinc dX0_wayFrom_61 (by decide) rfl rfl ⟨by omega, by omega⟩ ?_
                refine A_goto (tgt := 6) dX0_wayFrom_64 (by decide) ?_
                refine ih _ ?_ (i + 1) _ rfl (by omega) ?_
                · omega
                · rw [wyN]
                  first | rw [if_pos ⟨by omega, by omega, by omega⟩] | (rw [if_neg (fun q => by omega)]; try exact hx)
          · skip
            refine A_goto (tgt := 61) dX0_wayFrom_31 (by decide) ?_
            refine A_iinc dX0_wayFrom_61 (by decide) rfl rfl ⟨by omega, by omega⟩ ?_
            refine A_goto (tgt := 6) dX0_wayFrom_64 (by decide) ?_
            refine ih _ ?_ (i + 1) _ rfl (by omega) ?_
            · omega
            · rw [wyN]
              first | rw [if_pos ⟨by omega, by omega, by omega⟩] | (rw [if_neg (fun q => by omega)]; try exact hx)
  exact lp _ 0 (-1) rfl (by omega) rfl

set_option maxRecDepth 100000 in
set_option maxHeartbeats 4000000 in
theorem c_leaveScent {E : EN} {l : Launch} {M : Mem} {c t : Nat} {T : TD} {C : CS}{cr : Fn}(hC : isCrs E c) (hT : isTold E t) (hd : t + 8 ≤ c ∨ c + 8 ≤ t) (hrT : rT M t T) (hwT : wT T) (hwC : wC T C) (hs : ∀ k : Int, 0 ≤ k → k < oT T → M (c + 1) k = csS C k) (hw : ∀ k : Int, 0 ≤ k → k < oF T → M (c + 3) k = csSw C k) (hcr : ∀ k : Int, 0 ≤ k → k < oF T → M (c + 6) k = cr k ∧ -1 ≤ cr k ∧ cr k < oT T) : Cn E l mX0_leaveScent 1 [vR c, vR t] M (fun r M1 => r = vU ∧ ((∀ x, x ≠ c + 1 → M1 x = M x) ∧ ∀ j : Int, 0 ≤ j → j < oT T → M1 (c + 1) j = scN C cr j (oF T))) := by
  refine Cn.of (by decide) rfl (Nat.le_of_ble_eq_true rfl) 2 rfl (fun oka okm G hR => ?_)
  obtain ⟨aC0, aC1, aC2, aC3, aC4, aC5, aC6, aC7⟩ := id hC
  obtain ⟨aT0, aT1, aT2, aT3, aT4, aT5, aT6, aT7⟩ := id hT
  obtain ⟨⟨t0, t1, t2, t3, t4⟩, tk, tt, tf⟩ := id hrT
  obtain ⟨wt0, wtk, wtt, wtf⟩ := id hwT
  obtain ⟨wc0, wcs, wcf⟩ := id hwC
  refine A_iconst dX0_leaveScent_0 (by decide) ?_
  refine A_istore_n dX0_leaveScent_1 (by decide) rfl ?_
  have lp : ∀ (k : Nat) (i : Nat) (M1 : Mem) (x3 : AV), oF T - i = k → (i ≤ oF T) → (∀ y, y ≠ c + 1 → M1 y = M y) → (∀ j : Int, 0 ≤ j → j < oT T → M1 (c + 1) j = scN C cr j i) → AW E mX0_leaveScent G 0 0 2 [vR c, vR t, vI i, x3] [] M1 := by
    intro k
    induction k using Nat.strongRecOn with
    | ind k ih =>
      intro i M1 x3 hk h0 hf hc
      have w3 : M1 (c + 3) = M (c + 3) := hf _ (by omega)
      have w6 : M1 (c + 6) = M (c + 6) := hf _ (by omega)
      have wt : M1 t = M t := hf _ (by omega)
      refine A_iload_n dX0_leaveScent_2 rfl ?_
      refine A_aload_n dX0_leaveScent_3 rfl ?_
      refine A_getI (ki := 2) dX0_leaveScent_4 fl_RX0_100 (by assumption) (by rfl) rfl ?_
      rw [wt, t2]
      refine A_icmp_ge (tgt := 52) dX0_leaveScent_7 (by decide) (fun h7 => ?_) (fun h7 => ?_)
      · skip
        have hi : i = oF T := by omega
        subst hi
        exact A_vret hR dX0_leaveScent_52 rfl ⟨rfl, hf, hc⟩
      · skip
        have f1 := hcr i (by omega) (by omega)
        have f2 := wcf i (by omega) (by omega)
        refine A_aload_n dX0_leaveScent_10 rfl ?_
        refine A_getR dX0_leaveScent_11 fl_RX0_27 (by assumption) (by rfl) ?_
        refine A_iload_n dX0_leaveScent_14 rfl ?_
        refine A_iald dX0_leaveScent_15 (by assumption) (by omega) (by omega) ?_
        rw [w6, f1.1]
        refine A_istore_n dX0_leaveScent_16 (by decide) rfl ?_
        refine A_iload_n dX0_leaveScent_17 rfl ?_
        refine A_iconst dX0_leaveScent_18 (by decide) ?_
        refine A_icmp_eq (tgt := 46) dX0_leaveScent_19 (by decide) (fun h19 => ?_) (fun h19 => ?_)
        · skip
          refine A_iinc dX0_leaveScent_46 (by decide) rfl rfl ⟨by omega, by omega⟩ ?_
          refine A_goto (tgt := 2) dX0_leaveScent_49 (by decide) ?_
          refine ih _ ?_ (i + 1) M1 _ rfl (by omega) hf (fun j a b => ?_)
          · omega
          · rw [scN, if_neg (by omega)]; exact hc j a b
        · skip
          refine A_aload_n dX0_leaveScent_22 rfl ?_
          refine A_getR dX0_leaveScent_23 fl_RX0_9 (by assumption) (by rfl) ?_
          refine A_iload_n dX0_leaveScent_26 rfl ?_
          refine A_bipush dX0_leaveScent_27 bp_99 (by decide) ?_
          refine A_aload_n dX0_leaveScent_29 rfl ?_
          refine A_getR dX0_leaveScent_30 fl_RX0_9 (by assumption) (by rfl) ?_
          refine A_iload_n dX0_leaveScent_33 rfl ?_
          refine A_iald dX0_leaveScent_34 (by assumption) (by omega) (by omega) ?_
          rw [hc (cr i) (by omega) (by omega)]
          have sr := scN_r (cr := cr) (wcs (cr i) (by omega) (by omega)).1 (wcs (cr i) (by omega) (by omega)).2 i (fun f x y => ⟨(wcf f x (by omega)).2.2.1, (wcf f x (by omega)).2.2.2.1⟩)
          refine A_aload_n dX0_leaveScent_35 rfl ?_
          refine A_getR dX0_leaveScent_36 fl_RX0_18 (by assumption) (by rfl) ?_
          refine A_iload_n dX0_leaveScent_39 rfl ?_
          refine A_iald dX0_leaveScent_40 (by assumption) (by omega) (by omega) ?_
          rw [w3, hw i (by omega) (by omega)]
          refine A_iadd dX0_leaveScent_41 ⟨by omega, by omega⟩ ?_
          refine A_mmin (d := 1) dX0_leaveScent_42 hR.rm (by decide) ml_RX0_114 rfl ?_
          refine A_iast dX0_leaveScent_45 (by assumption) (by omega) (by omega) (fun M45 e45 k45 => ?_)
          refine A_iinc dX0_leaveScent_46 (by decide) rfl rfl ⟨by omega, by omega⟩ ?_
          refine A_goto (tgt := 2) dX0_leaveScent_49 (by decide) ?_
          refine ih _ ?_ (i + 1) M45 _ rfl (by omega) (fun y hy => by rw [e45, upm_c hy]; exact hf y hy) (fun j a b => ?_)
          · omega
          · rw [e45, upm_x]
            by_cases hj : j = cr i
            · subst hj
              rw [if_pos ⟨rfl, rfl⟩, scN, if_pos rfl]
            · rw [if_neg (fun q => hj q.2), scN, if_neg (fun q => hj q.symm)]
              exact hc j a b
  exact lp _ 0 M vU rfl (by omega) (fun y hy => rfl) (fun d a b => hs d a b)

set_option maxRecDepth 100000 in
set_option maxHeartbeats 4000000 in
theorem c_fadeScents {E : EN} {l : Launch} {M : Mem} {c t : Nat} {T : TD} {C : CS}{S : Fn}(hC : isCrs E c) (hT : isTold E t) (hd : t + 8 ≤ c ∨ c + 8 ≤ t) (hrT : rT M t T) (hwT : wT T) (hs : ∀ k : Int, 0 ≤ k → k < oT T → M (c + 1) k = S k ∧ 0 ≤ S k ∧ S k ≤ 99) : Cn E l mX0_fadeScents 1 [vR c, vR t] M (fun r M1 => r = vU ∧ ((∀ x, x ≠ c + 1 → M1 x = M x) ∧ ∀ j : Int, 0 ≤ j → j < oT T → M1 (c + 1) j = max 0 (S j - oFa T))) := by
  refine Cn.of (by decide) rfl (Nat.le_of_ble_eq_true rfl) 1 rfl (fun oka okm G hR => ?_)
  obtain ⟨aC0, aC1, aC2, aC3, aC4, aC5, aC6, aC7⟩ := id hC
  obtain ⟨aT0, aT1, aT2, aT3, aT4, aT5, aT6, aT7⟩ := id hT
  obtain ⟨⟨t0, t1, t2, t3, t4⟩, tk, tt, tf⟩ := id hrT
  obtain ⟨wt0, wtk, wtt, wtf⟩ := id hwT
  refine A_iconst dX0_fadeScents_0 (by decide) ?_
  refine A_istore_n dX0_fadeScents_1 (by decide) rfl ?_
  have lp : ∀ (k : Nat) (i : Nat) (M1 : Mem), oT T - i = k → (i ≤ oT T) → (∀ y, y ≠ c + 1 → M1 y = M y) → (∀ j : Int, 0 ≤ j → j < oT T → M1 (c + 1) j = if j < i then max 0 (S j - oFa T) else S j) → AW E mX0_fadeScents G 0 0 2 [vR c, vR t, vI i] [] M1 := by
    intro k
    induction k using Nat.strongRecOn with
    | ind k ih =>
      intro i M1 hk h0 hf hc
      have wt : M1 t = M t := hf _ (by omega)
      refine A_iload_n dX0_fadeScents_2 rfl ?_
      refine A_aload_n dX0_fadeScents_3 rfl ?_
      refine A_getI (ki := 1) dX0_fadeScents_4 fl_RX0_107 (by assumption) (by rfl) rfl ?_
      rw [wt, t1]
      refine A_icmp_ge (tgt := 37) dX0_fadeScents_7 (by decide) (fun h7 => ?_) (fun h7 => ?_)
      · skip
        have hi : i = oT T := by omega
        subst hi
        exact A_vret hR dX0_fadeScents_37 rfl ⟨rfl, hf, fun j a b => by rw [hc j a b, if_pos b]⟩
      · skip
        have f1 := hs i (by omega) (by omega)
        refine A_aload_n dX0_fadeScents_10 rfl ?_
        refine A_getR dX0_fadeScents_11 fl_RX0_9 (by assumption) (by rfl) ?_
        refine A_iload_n dX0_fadeScents_14 rfl ?_
        refine A_iconst dX0_fadeScents_15 (by decide) ?_
        refine A_aload_n dX0_fadeScents_16 rfl ?_
        refine A_getR dX0_fadeScents_17 fl_RX0_9 (by assumption) (by rfl) ?_
        refine A_iload_n dX0_fadeScents_20 rfl ?_
        refine A_iald dX0_fadeScents_21 (by assumption) (by omega) (by omega) ?_
        rw [hc i (by omega) (by omega), if_neg (by omega)]
        refine A_aload_n dX0_fadeScents_22 rfl ?_
        refine A_getI (ki := 3) dX0_fadeScents_23 fl_RX0_120 (by assumption) (by rfl) rfl ?_
        rw [wt, t3]
        refine A_isub dX0_fadeScents_26 ⟨by omega, by omega⟩ ?_
        refine A_mmax (d := 1) dX0_fadeScents_27 hR.rm (by decide) ml_RX0_123 rfl ?_
        refine A_iast dX0_fadeScents_30 (by assumption) (by omega) (by omega) (fun M30 e30 k30 => ?_)
        refine A_iinc dX0_fadeScents_31 (by decide) rfl rfl ⟨by omega, by omega⟩ ?_
        refine A_goto (tgt := 2) dX0_fadeScents_34 (by decide) ?_
        refine ih _ ?_ (i + 1) M30 rfl (by omega) (fun y hy => by rw [e30, upm_c hy]; exact hf y hy) (fun j a b => ?_)
        · omega
        · rw [e30, upm_x]
          by_cases hj : j = i
          · subst hj
            rw [if_pos ⟨rfl, rfl⟩, if_pos (by omega)]
          · rw [if_neg (fun q => hj q.2), hc j a b]
            by_cases q : j < i
            · rw [if_pos q, if_pos (by omega)]
            · rw [if_neg q, if_neg (by omega)]
  exact lp _ 0 M rfl (by omega) (fun y hy => rfl) (fun d a b => by rw [if_neg (by omega)]; exact (hs d a b).1)
end
section
/-! COURSE: a minute -/
/-- a file is carried in the minute that comes -/
def carr (T : TD) (C : CS) : Prop := ∃ k : Int, 0 ≤ k ∧ k < oF T ∧ crd T C k ≠ -1
theorem rng_p2 {i : Nat} (h : i < 30) : rng ((2 ^ i : Nat) : Int) := ⟨Int.le_trans (by decide) (Int.natCast_nonneg _), by have : 2 ^ i ≤ 2 ^ 29 := p2_le (by omega); exact Int.le_trans (Int.ofNat_le.mpr this) (by decide)⟩
theorem rC_in {M M1 : Mem} {c : Nat} {T : TD} {C : CS} (h : rC M c T C) (hf : ∀ x, c ≤ x → x ≤ c + 5 → M1 x = M x) : rC M1 c T C := by
  unfold rC
  rw [hf c (by omega) (by omega), hf (c + 1) (by omega) (by omega), hf (c + 2) (by omega) (by omega), hf (c + 3) (by omega) (by omega), hf (c + 4) (by omega) (by omega), hf (c + 5) (by omega) (by omega)]
  exact h
theorem mnB_A (T : TD) (C : CS) (cr : Fn) (f : Int) : csA (mnB T C cr) f = if cr f = -1 then csA C f else acr T (cr f) (csA C f) := rfl
theorem mnB_Sw (T : TD) (C : CS) (cr : Fn) (f : Int) : csSw (mnB T C cr) f = if cr f = -1 then csSw C f else swb (oK T (csA (mnB T C cr) f)) (csSw C f) := rfl
theorem mnB_C (T : TD) (C : CS) (cr : Fn) (f : Int) : csC (mnB T C cr) f = if cr f = -1 then csC C f else cr f := rfl
theorem mnB_F (T : TD) (C : CS) (cr : Fn) (f : Int) : csF (mnB T C cr) f = if cr f ≠ -1 ∧ csA (mnB T C cr) f = oE T f then csG C else csF C f := rfl
abbrev mvd (c : Nat) (y : Nat) : Prop := y = c ∨ y = c + 2 ∨ y = c + 3 ∨ y = c + 4 ∨ y = c + 5
set_option maxRecDepth 100000 in
set_option maxHeartbeats 4000000 in
theorem c_arrive {E : EN} {l : Launch} {M : Mem} {c t : Nat} {T : TD} {C : CS}{cr : Fn}(hC : isCrs E c) (hT : isTold E t) (hd : t + 8 ≤ c ∨ c + 8 ≤ t) (hrT : rT M t T) (hwT : wT T) (hwC : wC T C) (hg : M c 1 = csG C) (hb : M c 3 = fsN (csF C) (oF T)) (hf0 : ∀ k : Int, 0 ≤ k → k < oF T → M (c + 2) k = csA C k ∧ M (c + 3) k = csSw C k ∧ M (c + 4) k = csC C k ∧ M (c + 5) k = csF C k) (hcr : ∀ k : Int, 0 ≤ k → k < oF T → M (c + 6) k = cr k ∧ -1 ≤ cr k ∧ cr k < oT T ∧ (cr k ≠ -1 → onT T (cr k) (csA C k) ∧ csF C k = -1)) : Cn E l mX0_arrive 2 [vR c, vR t] M (fun r M1 => r = vU ∧ ((∀ x, ¬ mvd c x → M1 x = M x) ∧ (∀ k : Int, k ≠ 3 → M1 c k = M c k) ∧ M1 c 3 = fsN (csF (mnB T C cr)) (oF T) ∧ ∀ k : Int, 0 ≤ k → k < oF T → M1 (c + 2) k = csA (mnB T C cr) k ∧ M1 (c + 3) k = csSw (mnB T C cr) k ∧ M1 (c + 4) k = csC (mnB T C cr) k ∧ M1 (c + 5) k = csF (mnB T C cr) k)) := by
  refine Cn.of (by decide) rfl (Nat.le_of_ble_eq_true rfl) 2 rfl (fun oka okm G hR => ?_)
  obtain ⟨aC0, aC1, aC2, aC3, aC4, aC5, aC6, aC7⟩ := id hC
  obtain ⟨aT0, aT1, aT2, aT3, aT4, aT5, aT6, aT7⟩ := id hT
  obtain ⟨⟨t0, t1, t2, t3, t4⟩, tk, tt, tf⟩ := id hrT
  obtain ⟨wt0, wtk, wtt, wtf⟩ := id hwT
  obtain ⟨wc0, wcs, wcf⟩ := id hwC
  refine A_iconst dX0_arrive_0 (by decide) ?_
  refine A_istore_n dX0_arrive_1 (by decide) rfl ?_
  have lp : ∀ (k : Nat) (i : Nat) (M1 : Mem) (x3 : AV), oF T - i = k → (i ≤ oF T) → (∀ y, ¬ mvd c y → M1 y = M y) → (∀ k : Int, k ≠ 3 → M1 c k = M c k) → (M1 c 3 = fsN (fun f => if f < i then csF (mnB T C cr) f else csF C f) (oF T)) → (∀ k : Int, 0 ≤ k → k < oF T → M1 (c + 2) k = (if k < i then csA (mnB T C cr) k else csA C k) ∧ M1 (c + 3) k = (if k < i then csSw (mnB T C cr) k else csSw C k) ∧ M1 (c + 4) k = (if k < i then csC (mnB T C cr) k else csC C k) ∧ M1 (c + 5) k = (if k < i then csF (mnB T C cr) k else csF C k)) → AW E mX0_arrive G 0 0 2 [vR c, vR t, vI i, x3] [] M1 := by
    intro k
    induction k using Nat.strongRecOn with
    | ind k ih =>
      intro i M1 x3 hk h0 hf hg1 hb1 hc
      have w6 : M1 (c + 6) = M (c + 6) := hf _ (by unfold mvd; omega)
      have rT1 : rT M1 t T := rT_fr hrT (c := c) (n := 8) (fun x hx => hf x (by unfold mvd; omega)) hd
      have wt : M1 t = M t := hf _ (by unfold mvd; omega)
      refine A_iload_n dX0_arrive_2 rfl ?_
      refine A_aload_n dX0_arrive_3 rfl ?_
      refine A_getI (ki := 2) dX0_arrive_4 fl_RX0_100 (by assumption) (by rfl) rfl ?_
      rw [wt, t2]
      refine A_icmp_ge (tgt := 114) dX0_arrive_7 (by decide) (fun h7 => ?_) (fun h7 => ?_)
      · skip
        have hi : i = oF T := by omega
        subst hi
        exact A_vret hR dX0_arrive_114 rfl ⟨rfl, hf, hg1, by rw [hb1]; congr 1; exact fsN_ext _ (fun k hk => by rw [if_pos (by omega)]), fun k a b => by have q := hc k a b; rw [if_pos b, if_pos b, if_pos b, if_pos b] at q; exact q⟩
      · skip
        have f1 := hcr i (by omega) (by omega)
        have f2 := wcf i (by omega) (by omega)
        have f3 := hc i (by omega) (by omega)
        rw [if_neg (by omega), if_neg (by omega), if_neg (by omega), if_neg (by omega)] at f3
        refine A_aload_n dX0_arrive_10 rfl ?_
        refine A_getR dX0_arrive_11 fl_RX0_27 (by assumption) (by rfl) ?_
        refine A_iload_n dX0_arrive_14 rfl ?_
        refine A_iald dX0_arrive_15 (by assumption) (by omega) (by omega) ?_
        rw [w6, f1.1]
        refine A_istore_n dX0_arrive_16 (by decide) rfl ?_
        refine A_iload_n dX0_arrive_17 rfl ?_
        refine A_iconst dX0_arrive_18 (by decide) ?_
        refine A_icmp_ne (tgt := 25) dX0_arrive_19 (by decide) (fun h19 => ?_) (fun h19 => ?_)
        · skip
          have n1 : cr i ≠ -1 := h19
          obtain ⟨o1, o2⟩ := f1.2.2.2 n1
          have ar := acr_r hwT (by omega) f1.2.2.1 o1
          have nA : csA (mnB T C cr) i = acr T (cr i) (csA C i) := by rw [mnB_A, if_neg n1]
          have nS : csSw (mnB T C cr) i = swb (oK T (acr T (cr i) (csA C i))) (csSw C i) := by rw [mnB_Sw, if_neg n1, nA]
          have nC : csC (mnB T C cr) i = cr i := by rw [mnB_C, if_neg n1]
          refine A_aload_n dX0_arrive_25 rfl ?_
          refine A_getR dX0_arrive_26 fl_RX0_21 (by assumption) (by rfl) ?_
          refine A_iload_n dX0_arrive_29 rfl ?_
          refine A_iload_n dX0_arrive_30 rfl ?_
          refine A_iast dX0_arrive_31 (by assumption) (by omega) (by omega) (fun M31 e31 k31 => ?_)
          have r31 : rT M31 t T := rT_fr rT1 (c := c) (n := 8) (fun x hx => by rw [e31, upm_c (by omega)]) hd
          refine A_aload_n dX0_arrive_32 rfl ?_
          refine A_getR dX0_arrive_33 fl_RX0_15 (by assumption) (by rfl) ?_
          refine A_iload_n dX0_arrive_36 rfl ?_
          refine A_aload_n dX0_arrive_37 rfl ?_
          refine A_iload_n dX0_arrive_38 rfl ?_
          refine A_aload_n dX0_arrive_39 rfl ?_
          refine A_getR dX0_arrive_40 fl_RX0_15 (by assumption) (by rfl) ?_
          refine A_iload_n dX0_arrive_43 rfl ?_
          refine A_iald dX0_arrive_44 (by assumption) (by omega) (by omega) ?_
          rw [show M31 (c + 2) i = csA C i by rw [e31, upm_c (by omega)]; exact f3.1]
          refine A_vI2 (mj := mX6_across) dX0_arrive_45 hR.rm (by decide) ok_X6_across mv_X6_across ml_RX0_126 (by assumption) rfl rfl rfl (c_across (by exact ⟨aT0, aT1, aT2, aT3, aT4, aT5, aT6, aT7⟩) (by omega) (by omega)) (fun z45 M45 g45 k45 q45 => ?_)
          obtain ⟨e45, q45a⟩ := q45
          subst M45
          rw [(r31.2.2.1 (cr i) (by omega) (by omega)).1, (r31.2.2.1 (cr i) (by omega) (by omega)).2.1] at q45a
          replace q45a : z45 = acr T (cr i) (csA C i) := q45a
          subst z45
          refine A_iast dX0_arrive_48 (by assumption) (by omega) (by omega) (fun M48 e48 k48 => ?_)
          have r48 : rT M48 t T := rT_fr r31 (c := c) (n := 8) (fun x hx => by rw [e48, upm_c (by omega)]) hd
          refine A_aload_n dX0_arrive_49 rfl ?_
          refine A_getR dX0_arrive_50 fl_RX0_18 (by assumption) (by rfl) ?_
          refine A_iload_n dX0_arrive_53 rfl ?_
          refine A_aload_n dX0_arrive_54 rfl ?_
          refine A_aload_n dX0_arrive_55 rfl ?_
          refine A_getR dX0_arrive_56 fl_RX0_15 (by assumption) (by rfl) ?_
          refine A_iload_n dX0_arrive_59 rfl ?_
          refine A_iald dX0_arrive_60 (by assumption) (by omega) (by omega) ?_
          rw [show M48 (c + 2) i = acr T (cr i) (csA C i) by rw [e48, upm_s]]
          refine A_aload_n dX0_arrive_61 rfl ?_
          refine A_getR dX0_arrive_62 fl_RX0_18 (by assumption) (by rfl) ?_
          refine A_iload_n dX0_arrive_65 rfl ?_
          refine A_iald dX0_arrive_66 (by assumption) (by omega) (by omega) ?_
          rw [show M48 (c + 3) i = csSw C i by rw [e48, upm_c (by omega), e31, upm_c (by omega)]; exact f3.2.1]
          refine A_vI2 (mj := mX6_sweetnessBehind) dX0_arrive_67 hR.rm (by decide) ok_X6_sweetnessBehind mv_X6_sweetnessBehind ml_RX0_129 (by assumption) rfl rfl rfl (c_swb (by exact ⟨aT0, aT1, aT2, aT3, aT4, aT5, aT6, aT7⟩) (by omega) (by omega) (by omega) (by omega)) (fun z67 M67 g67 k67 q67 => ?_)
          obtain ⟨e67, q67a⟩ := q67
          subst M67
          rw [r48.2.1 _ (by omega) (by omega)] at q67a
          subst z67
          refine A_iast dX0_arrive_70 (by assumption) (by omega) (by omega) (fun M70 e70 k70 => ?_)
          have r70 : rT M70 t T := rT_fr r48 (c := c) (n := 8) (fun x hx => by rw [e70, upm_c (by omega)]) hd
          refine A_aload_n dX0_arrive_71 rfl ?_
          refine A_getR dX0_arrive_72 fl_RX0_15 (by assumption) (by rfl) ?_
          refine A_iload_n dX0_arrive_75 rfl ?_
          refine A_iald dX0_arrive_76 (by assumption) (by omega) (by omega) ?_
          rw [show M70 (c + 2) i = acr T (cr i) (csA C i) by rw [e70, upm_c (by omega), e48, upm_s]]
          refine A_aload_n dX0_arrive_77 rfl ?_
          refine A_getR dX0_arrive_78 fl_RX0_132 (by assumption) (by rfl) ?_
          refine A_iload_n dX0_arrive_81 rfl ?_
          refine A_iald dX0_arrive_82 (by assumption) (by omega) (by omega) ?_
          rw [(r70.2.2.2 i (by omega) (by omega)).2.1]
          refine A_icmp_ne (tgt := 108) dX0_arrive_83 (by decide) (fun h83 => ?_) (fun h83 => ?_)
          · skip
            refine A_iinc dX0_arrive_108 (by decide) rfl rfl ⟨by omega, by omega⟩ ?_
            refine A_goto (tgt := 2) dX0_arrive_111 (by decide) ?_
            have nF : csF (mnB T C cr) i = csF C i := by rw [mnB_F, nA, if_neg (fun z => h83 z.2)]
            have f70 : ∀ y, y ≠ c + 2 → y ≠ c + 3 → y ≠ c + 4 → M70 y = M1 y := fun y y1 y2 y3 => by rw [e70, upm_c y2, e48, upm_c y1, e31, upm_c y3]
            refine ih _ ?_ (i + 1) M70 _ rfl (by omega) (fun y hy => by rw [f70 y (by unfold mvd at hy; omega) (by unfold mvd at hy; omega) (by unfold mvd at hy; omega)]; exact hf y hy) (fun k hk => by rw [f70 c (by omega) (by omega) (by omega)]; exact hg1 k hk) ?_ (fun k a b => ?_)
            · omega
            · rw [f70 c (by omega) (by omega) (by omega), hb1]; congr 1
              refine fsN_ext _ (fun k hk => ?_)
              by_cases q : k < i
              · rw [if_pos (by omega), if_pos (by omega)]
              · rw [if_neg (by omega)]
                by_cases q2 : k = i
                · subst q2
                  rw [if_pos (by omega), nF]
                · rw [if_neg (by omega)]
            · have q0 := hc k a b
              have v2 : M70 (c + 2) k = if k = i then acr T (cr i) (csA C i) else M1 (c + 2) k := by rw [e70, upm_c (by omega), e48, upm_x, e31, upm_c (by omega)]; simp
              have v3 : M70 (c + 3) k = if k = i then swb (oK T (acr T (cr i) (csA C i))) (csSw C i) else M1 (c + 3) k := by rw [e70, upm_x, e48, upm_c (by omega), e31, upm_c (by omega)]; simp
              have v4 : M70 (c + 4) k = if k = i then cr i else M1 (c + 4) k := by rw [e70, upm_c (by omega), e48, upm_c (by omega), e31, upm_x]; simp
              have v5 : M70 (c + 5) k = M1 (c + 5) k := by rw [f70 _ (by omega) (by omega) (by omega)]
              rw [v2, v3, v4, v5]
              by_cases q2 : k = i
              · subst q2
                rw [if_neg (by omega)] at q0
                rw [if_pos rfl, if_pos rfl, if_pos rfl, if_pos (by omega), if_pos (by omega), if_pos (by omega), if_pos (by omega), nA, nS, nC, nF]
                rw [if_neg (by omega), if_neg (by omega), if_neg (by omega)] at q0
                exact ⟨rfl, rfl, rfl, q0.2.2.2⟩
              · rw [if_neg q2, if_neg q2, if_neg q2]
                by_cases q : k < i
                · rw [if_pos q, if_pos q, if_pos q, if_pos q] at q0
                  rw [if_pos (by omega), if_pos (by omega), if_pos (by omega), if_pos (by omega)]
                  exact q0
                · rw [if_neg q, if_neg q, if_neg q, if_neg q] at q0
                  rw [if_neg (by omega), if_neg (by omega), if_neg (by omega), if_neg (by omega)]
                  exact q0
          · skip
            refine A_aload_n dX0_arrive_86 rfl ?_
            refine A_getR dX0_arrive_87 fl_RX0_24 (by assumption) (by rfl) ?_
            refine A_iload_n dX0_arrive_90 rfl ?_
            refine A_aload_n dX0_arrive_91 rfl ?_
            refine A_getI (ki := 1) dX0_arrive_92 fl_RX0_40 (by assumption) (by rfl) rfl ?_
            rw [show M70 c 1 = csG C by rw [e70, upm_c (by omega), e48, upm_c (by omega), e31, upm_c (by omega)]; exact (hg1 1 (by omega)).trans hg]
            refine A_iast dX0_arrive_95 (by assumption) (by omega) (by omega) (fun M95 e95 k95 => ?_)
            refine A_aload_n dX0_arrive_96 rfl ?_
            refine A_dup dX0_arrive_97 rfl ?_
            refine A_getI (ki := 3) dX0_arrive_98 fl_RX0_46 (by assumption) (by rfl) rfl ?_
            rw [show M95 c 3 = M1 c 3 by rw [e95, upm_c (by omega), e70, upm_c (by omega), e48, upm_c (by omega), e31, upm_c (by omega)], hb1]
            have hp : 2 ^ i ≤ 2 ^ 5 := p2_le (by omega)
            have nF : csF (mnB T C cr) i = csG C := by rw [mnB_F, nA, if_pos ⟨by omega, by omega⟩]
            refine A_iconst dX0_arrive_101 (by decide) ?_
            refine A_iload_n dX0_arrive_102 rfl ?_
            refine A_ishl (z := ((2 ^ i : Nat) : Int)) dX0_arrive_103 (b_shl i (by omega)) (rng_p2 (by omega)) ?_
            refine A_ior (z := ((fsN (fun f => if f < ((i + 1 : Nat) : Int) then csF (mnB T C cr) f else csF C f) (oF T) : Nat) : Int)) dX0_arrive_104 (by rw [b_or]; congr 2; exact fsN_set (by omega) (by rw [if_pos (by omega), nF]; omega) (fun k hk hne => by
            by_cases q : k < i
            · rw [if_pos (by omega), if_pos (by omega)]
            · rw [if_neg (by omega), if_neg (by omega)])) (by have := (fsN_bit (fun f => if f < ((i + 1 : Nat) : Int) then csF (mnB T C cr) f else csF C f) (oF T)).1; have : 2 ^ (oF T) ≤ 2 ^ 6 := p2_le (by omega); exact ⟨by omega, by omega⟩) ?_
            refine A_putI (ki := 3) dX0_arrive_105 fl_RX0_46 fi0_3 (by assumption) (by rfl) rfl (fun M105 e105 k105 => ?_)
            refine A_iinc dX0_arrive_108 (by decide) rfl rfl ⟨by omega, by omega⟩ ?_
            refine A_goto (tgt := 2) dX0_arrive_111 (by decide) ?_
            have nF : csF (mnB T C cr) i = csG C := by rw [mnB_F, nA, if_pos ⟨by omega, by omega⟩]
            have f105 : ∀ y, ¬ mvd c y → M105 y = M1 y := fun y hy => by
              unfold mvd at hy
              rw [e105, upm_c (by omega), e95, upm_c (by omega), e70, upm_c (by omega), e48, upm_c (by omega), e31, upm_c (by omega)]
            refine ih _ ?_ (i + 1) M105 _ rfl (by omega) (fun y hy => by rw [f105 y hy]; exact hf y hy) (fun k hk => by rw [e105, upm_k hk, e95, upm_c (by omega), e70, upm_c (by omega), e48, upm_c (by omega), e31, upm_c (by omega)]; exact hg1 k hk) ?_ (fun k a b => ?_)
            · omega
            · rw [e105, upm_s]
            · have q0 := hc k a b
              have v2 : M105 (c + 2) k = if k = i then acr T (cr i) (csA C i) else M1 (c + 2) k := by rw [e105, upm_c (by omega), e95, upm_c (by omega), e70, upm_c (by omega), e48, upm_x, e31, upm_c (by omega)]; simp
              have v3 : M105 (c + 3) k = if k = i then swb (oK T (acr T (cr i) (csA C i))) (csSw C i) else M1 (c + 3) k := by rw [e105, upm_c (by omega), e95, upm_c (by omega), e70, upm_x, e48, upm_c (by omega), e31, upm_c (by omega)]; simp
              have v4 : M105 (c + 4) k = if k = i then cr i else M1 (c + 4) k := by rw [e105, upm_c (by omega), e95, upm_c (by omega), e70, upm_c (by omega), e48, upm_c (by omega), e31, upm_x]; simp
              have v5 : M105 (c + 5) k = if k = i then csG C else M1 (c + 5) k := by rw [e105, upm_c (by omega), e95, upm_x, e70, upm_c (by omega), e48, upm_c (by omega), e31, upm_c (by omega)]; simp
              rw [v2, v3, v4, v5]
              by_cases q2 : k = i
              · subst q2
                rw [if_pos rfl, if_pos rfl, if_pos rfl, if_pos rfl, if_pos (by omega), if_pos (by omega), if_pos (by omega), if_pos (by omega), nA, nS, nC, nF]
                exact ⟨rfl, rfl, rfl, rfl⟩
              · rw [if_neg q2, if_neg q2, if_neg q2, if_neg q2]
                by_cases q : k < i
                · rw [if_pos q, if_pos q, if_pos q, if_pos q] at q0
                  rw [if_pos (by omega), if_pos (by omega), if_pos (by omega), if_pos (by omega)]
                  exact q0
                · rw [if_neg q, if_neg q, if_neg q, if_neg q] at q0
                  rw [if_neg (by omega), if_neg (by omega), if_neg (by omega), if_neg (by omega)]
                  exact q0
        · skip
          refine A_goto (tgt := 108) dX0_arrive_22 (by decide) ?_
          refine A_iinc dX0_arrive_108 (by decide) rfl rfl ⟨by omega, by omega⟩ ?_
          refine A_goto (tgt := 2) dX0_arrive_111 (by decide) ?_
          have hn : cr i = -1 := by omega
          refine ih _ ?_ (i + 1) M1 _ rfl (by omega) hf hg1 ?_ (fun k a b => ?_)
          · omega
          · rw [hb1]; congr 1
            refine fsN_ext _ (fun k hk => ?_)
            by_cases q : k < i
            · rw [if_pos (by omega), if_pos (by omega)]
            · rw [if_neg (by omega)]
              by_cases q2 : k = i
              · subst q2
                rw [if_pos (by omega), mnB_F, if_neg (fun z => z.1 hn)]
              · rw [if_neg (by omega)]
          · have q0 := hc k a b
            by_cases q : k < i
            · rw [if_pos q, if_pos q, if_pos q, if_pos q] at q0
              rw [if_pos (by omega), if_pos (by omega), if_pos (by omega), if_pos (by omega)]
              exact q0
            · rw [if_neg q, if_neg q, if_neg q, if_neg q] at q0
              by_cases q2 : k = i
              · subst q2
                rw [if_pos (by omega), if_pos (by omega), if_pos (by omega), if_pos (by omega), mnB_A, mnB_Sw, mnB_C, mnB_F, if_pos hn, if_pos hn, if_pos hn, if_neg (fun z => z.1 hn)]
                exact q0
              · rw [if_neg (by omega), if_neg (by omega), if_neg (by omega), if_neg (by omega)]
                exact q0
  exact lp _ 0 M vU rfl (by omega) (fun y hy => rfl) (fun k hk => rfl) (by rw [hb]; congr 1; exact fsN_ext _ (fun k hk => by rw [if_neg (by omega)])) (fun k a b => by rw [if_neg (by omega), if_neg (by omega), if_neg (by omega), if_neg (by omega)]; exact hf0 k a b)

set_option maxRecDepth 100000 in
set_option maxHeartbeats 4000000 in
theorem c_choose {E : EN} {l : Launch} {M : Mem} {c t : Nat} {T : TD} {C : CS}(hC : isCrs E c) (hT : isTold E t) (hd : t + 8 ≤ c ∨ c + 8 ≤ t) (hrT : rT M t T) (hrC : rC M c T C) (hwT : wT T) (hwC : wC T C) : Cn E l mX0_choose 2 [vR c, vR t] M (fun r M1 => ∃ z, r = vI z ∧ ((∀ x, x ≠ c + 6 → x ≠ c + 7 → M1 x = M x) ∧ (∀ k : Int, 0 ≤ k → k < oF T → M1 (c + 6) k = crd T C k) ∧ (z = 0 ∨ z = 1) ∧ (z = 1 → carr T C) ∧ (z = 0 → ∀ k : Int, 0 ≤ k → k < oF T → crd T C k = -1))) := by
  refine Cn.of (by decide) rfl (Nat.le_of_ble_eq_true rfl) 3 rfl (fun oka okm G hR => ?_)
  obtain ⟨aC0, aC1, aC2, aC3, aC4, aC5, aC6, aC7⟩ := id hC
  obtain ⟨aT0, aT1, aT2, aT3, aT4, aT5, aT6, aT7⟩ := id hT
  obtain ⟨⟨t0, t1, t2, t3, t4⟩, tk, tt, tf⟩ := id hrT
  obtain ⟨⟨c0, c1, c2, c3⟩, cs, cf⟩ := id hrC
  obtain ⟨wt0, wtk, wtt, wtf⟩ := id hwT
  obtain ⟨wc0, wcs, wcf⟩ := id hwC
  refine A_aload_n dX0_choose_0 rfl ?_
  refine A_getR dX0_choose_1 fl_RX0_27 (by assumption) (by rfl) ?_
  refine A_iconst dX0_choose_4 (by decide) ?_
  refine A_sV2 (mj := mJ7_fill_53178) dX0_choose_5 hR.rm (by decide) ok_J7_fill_53178 st_J7_fill_53178 ml_RX0_60 rfl (c_fill (n := 6) aC6 (by omega)) (fun M5 k5 q5 => ?_)
  have w5 : ∀ y, y ≠ c + 6 → M5 y = M y := fun y hy => by rw [q5, flm_o hy]
  refine A_aload_n dX0_choose_8 rfl ?_
  refine A_getI (ki := 0) dX0_choose_9 fl_RX0_39 (by assumption) (by rfl) rfl ?_
  rw [w5 c (by omega), c0]
  refine A_if_le (tgt := 17) dX0_choose_12 (by decide) (fun h12 => ?_) (fun h12 => ?_)
  · skip
    have r5T : rT M5 t T := rT_fr hrT (c := c) (n := 8) (fun x hx => w5 x (by omega)) hd
    have r5C : rC M5 c T C := rC_in hrC (fun x p q => w5 x (by omega))
    refine A_aload_n dX0_choose_17 rfl ?_
    refine A_aload_n dX0_choose_18 rfl ?_
    refine A_vV1 (mj := mX0_findSweetest) dX0_choose_19 hR.rm (by decide) ok_X0_findSweetest mv_X0_findSweetest ml_RX0_83 (by assumption) rfl rfl rfl (c_findSweetest (by exact ⟨aC0, aC1, aC2, aC3, aC4, aC5, aC6, aC7⟩) (by exact ⟨aT0, aT1, aT2, aT3, aT4, aT5, aT6, aT7⟩) hd r5T r5C hwT hwC) (fun M19 k19 q19 => ?_)
    obtain ⟨q19a, q19b⟩ := q19
    refine A_iconst dX0_choose_22 (by decide) ?_
    refine A_istore_n dX0_choose_23 (by decide) rfl ?_
    refine A_iconst dX0_choose_24 (by decide) ?_
    refine A_istore_n dX0_choose_25 (by decide) rfl ?_
    have lp : ∀ (k : Nat) (i : Nat) (x : Int) (M1 : Mem) (x4 : AV), oD T - i = k → (i ≤ oD T) → (∀ y, y ≠ c + 6 → y ≠ c + 7 → M1 y = M y) → (∀ d : Int, 0 ≤ d → d < 8 → M1 (c + 7) d = swN C d (oF T)) → (∀ k : Int, 0 ≤ k → k < oF T → M1 (c + 6) k = if csA C k < i then crd T C k else -1) → (x = 0 ∨ x = 1) → (x = 1 → carr T C) → (x = 0 → ∀ k : Int, 0 ≤ k → k < oF T → csA C k < i → crd T C k = -1) → AW E mX0_choose G 0 0 26 [vR c, vR t, vI x, vI i, x4] [] M1 := by
      intro k
      induction k using Nat.strongRecOn with
      | ind k ih =>
        intro i x M1 x4 hk h0 hf h7 hc hx0 hx1 hx2
        have wt : M1 t = M t := hf _ (by omega) (by omega)
        have wc : M1 c = M c := hf _ (by omega) (by omega)
        have w4 : M1 (c + 4) = M (c + 4) := hf _ (by omega) (by omega)
        have wk : M1 (t + 1) = M (t + 1) := hf _ (by omega) (by omega)
        have rT1 : rT M1 t T := rT_fr hrT (c := c) (n := 8) (fun x hx => hf x (by omega) (by omega)) hd
        have rC1 : rC M1 c T C := rC_in hrC (fun x p q => hf x (by omega) (by omega))
        refine A_iload_n dX0_choose_26 rfl ?_
        refine A_aload_n dX0_choose_27 rfl ?_
        refine A_getI (ki := 0) dX0_choose_28 fl_RX0_86 (by assumption) (by rfl) rfl ?_
        rw [wt, t0]
        refine A_icmp_ge (tgt := 99) dX0_choose_31 (by decide) (fun h31 => ?_) (fun h31 => ?_)
        · skip
          have hi : i = oD T := by omega
          subst hi
          refine A_iload_n dX0_choose_99 rfl ?_
          exact A_zret hR dX0_choose_100 rfl (by first | exact Or.inl rfl | exact Or.inr rfl | omega) ⟨_, rfl, hf, fun k a b => by rw [hc k a b, if_pos (wcf k a b).2.1], hx0, hx1, fun h k a b => hx2 h k a b (wcf k a b).2.1⟩
        · skip
          refine A_aload_n dX0_choose_34 rfl ?_
          refine A_getR dX0_choose_35 fl_RX0_30 (by assumption) (by rfl) ?_
          refine A_iload_n dX0_choose_38 rfl ?_
          refine A_iald dX0_choose_39 (by assumption) (by omega) (by omega) ?_
          rw [h7 i (by omega) (by omega)]
          have sr := swN_r C i (oF T)
          have sp := swN_p C i (oF T)
          refine A_istore dX0_choose_40 (by decide) rfl ?_
          refine A_iload dX0_choose_42 rfl ?_
          refine A_iconst dX0_choose_44 (by decide) ?_
          refine A_icmp_eq (tgt := 93) dX0_choose_45 (by decide) (fun h45 => ?_) (fun h45 => ?_)
          · skip
            refine A_iinc dX0_choose_93 (by decide) rfl rfl ⟨by omega, by omega⟩ ?_
            refine A_goto (tgt := 26) dX0_choose_96 (by decide) ?_
            have nn : ∀ k : Int, 0 ≤ k → k < oF T → csA C k = i → crd T C k = -1 := fun k a b q => by
              unfold crd
              rw [q]
              by_cases q1 : oK T i = 3
              · rw [if_pos (by omega)]
              · by_cases q2 : csQ C = i
                · rw [if_pos (by omega)]
                · rw [if_pos (by omega)]
            refine ih _ ?_ (i + 1) x M1 _ rfl (by omega) hf h7 (fun k a b => ?_) hx0 hx1 (fun hx k a b q => ?_)
            · omega
            · rw [hc k a b]
              by_cases q : csA C k < i
              · rw [if_pos q, if_pos (by omega)]
              · rw [if_neg q]
                by_cases q2 : csA C k = i
                · rw [if_pos (by omega), nn k a b q2]
                · rw [if_neg (by omega)]
            · by_cases q2 : csA C k = i
              · exact nn k a b q2
              · exact hx2 hx k a b (by omega)
          · skip
            refine A_aload_n dX0_choose_48 rfl ?_
            refine A_iload_n dX0_choose_49 rfl ?_
            refine A_aload_n dX0_choose_50 rfl ?_
            refine A_vI2 (mj := mX0_letsGo) dX0_choose_51 hR.rm (by decide) ok_X0_letsGo mv_X0_letsGo ml_RX0_89 (by assumption) rfl rfl rfl (c_letsGo (by exact ⟨aC0, aC1, aC2, aC3, aC4, aC5, aC6, aC7⟩) (by exact ⟨aT0, aT1, aT2, aT3, aT4, aT5, aT6, aT7⟩) (by omega) (by omega)) (fun z51 M51 g51 k51 q51 => ?_)
            obtain ⟨e51, q51a, q51b⟩ := q51
            subst M51
            rw [wc, c2, wk, tk i (by omega) (by omega)] at q51b
            refine A_if_ne (tgt := 60) dX0_choose_54 (by decide) (fun h54 => ?_) (fun h54 => ?_)
            · skip
              have sp := sp h45
              have f1 := cf (swN C i (oF T)) (by omega) (by omega)
              have f2 := wcf (swN C i (oF T)) (by omega) (by omega)
              refine A_aload_n dX0_choose_60 rfl ?_
              refine A_getR dX0_choose_61 fl_RX0_27 (by assumption) (by rfl) ?_
              refine A_iload dX0_choose_64 rfl ?_
              refine A_aload_n dX0_choose_66 rfl ?_
              refine A_iload_n dX0_choose_67 rfl ?_
              refine A_aload_n dX0_choose_68 rfl ?_
              refine A_getR dX0_choose_69 fl_RX0_21 (by assumption) (by rfl) ?_
              refine A_iload dX0_choose_72 rfl ?_
              refine A_iald dX0_choose_74 (by assumption) (by omega) (by omega) ?_
              rw [w4, f1.2.2.1]
              refine A_aload_n dX0_choose_75 rfl ?_
              refine A_vI3 (mj := mX0_wayFrom) dX0_choose_76 hR.rm (by decide) ok_X0_wayFrom mv_X0_wayFrom ml_RX0_93 (by assumption) rfl rfl rfl (c_wayFrom (by exact ⟨aC0, aC1, aC2, aC3, aC4, aC5, aC6, aC7⟩) (by exact ⟨aT0, aT1, aT2, aT3, aT4, aT5, aT6, aT7⟩) hd rT1 rC1 hwT hwC (by omega) (by omega)) (fun z76 M76 g76 k76 q76 => ?_)
              obtain ⟨e76, q76a⟩ := q76
              subst M76
              subst z76
              refine A_iast dX0_choose_79 (by assumption) (by omega) (by omega) (fun M79 e79 k79 => ?_)
              have cw : crd T C (swN C i (oF T)) = way T C i (csC C (swN C i (oF T))) := by
                unfold crd
                rw [sp.1, if_neg (by omega)]
              have nn : ∀ k : Int, 0 ≤ k → k < oF T → csA C k = i → k ≠ swN C i (oF T) → crd T C k = -1 := fun k a b q q3 => by
                unfold crd
                rw [q, if_pos (by omega)]
              have f79 : ∀ y, y ≠ c + 6 → y ≠ c + 7 → M79 y = M y := fun y y1 y2 => by rw [e79, upm_c y1]; exact hf y y1 y2
              have c79 : ∀ k : Int, 0 ≤ k → k < oF T → M79 (c + 6) k = if csA C k < ((i + 1 : Nat) : Int) then crd T C k else -1 := fun k a b => by
                rw [e79, upm_x]
                by_cases q3 : k = swN C i (oF T)
                · subst q3
                  rw [if_pos ⟨rfl, rfl⟩, if_pos (by omega), cw]
                · rw [if_neg (fun z => q3 z.2), hc k a b]
                  by_cases q : csA C k < i
                  · rw [if_pos q, if_pos (by omega)]
                  · rw [if_neg q]
                    by_cases q2 : csA C k = i
                    · rw [if_pos (by omega), nn k a b q2 q3]
                    · rw [if_neg (by omega)]
              refine A_aload_n dX0_choose_80 rfl ?_
              refine A_getR dX0_choose_81 fl_RX0_27 (by assumption) (by rfl) ?_
              refine A_iload dX0_choose_84 rfl ?_
              refine A_iald dX0_choose_86 (by assumption) (by omega) (by omega) ?_
              rw [show M79 (c + 6) (swN C i (oF T)) = way T C i (csC C (swN C i (oF T))) by rw [e79, upm_s]]
              refine A_iconst dX0_choose_87 (by decide) ?_
              refine A_icmp_eq (tgt := 93) dX0_choose_88 (by decide) (fun h88 => ?_) (fun h88 => ?_)
              · skip
                refine A_iinc dX0_choose_93 (by decide) rfl rfl ⟨by omega, by omega⟩ ?_
                refine A_goto (tgt := 26) dX0_choose_96 (by decide) ?_
                refine ih _ ?_ (i + 1) x M79 _ rfl (by omega) f79 (fun d a b => by rw [e79, upm_c (by omega)]; exact h7 d a b) c79 hx0 hx1 (fun hx k a b q => ?_)
                · omega
                · by_cases q2 : csA C k = i
                  · by_cases q3 : k = swN C i (oF T)
                    · rw [q3, cw]; exact h88
                    · rw [nn k a b q2 q3]
                  · exact hx2 hx k a b (by omega)
              · skip
                refine A_iconst dX0_choose_91 (by decide) ?_
                refine A_istore_n dX0_choose_92 (by decide) rfl ?_
                refine A_iinc dX0_choose_93 (by decide) rfl rfl ⟨by omega, by omega⟩ ?_
                refine A_goto (tgt := 26) dX0_choose_96 (by decide) ?_
                refine ih _ ?_ (i + 1) 1 M79 _ rfl (by omega) f79 (fun d a b => by rw [e79, upm_c (by omega)]; exact h7 d a b) c79 (Or.inr rfl) (fun _ => ⟨swN C i (oF T), by omega, by omega, by rw [cw]; exact h88⟩) (fun hx => absurd hx (by omega))
                omega
            · skip
              refine A_goto (tgt := 93) dX0_choose_57 (by decide) ?_
              refine A_iinc dX0_choose_93 (by decide) rfl rfl ⟨by omega, by omega⟩ ?_
              refine A_goto (tgt := 26) dX0_choose_96 (by decide) ?_
              have nn : ∀ k : Int, 0 ≤ k → k < oF T → csA C k = i → crd T C k = -1 := fun k a b q => by
                unfold crd
                rw [q]
                by_cases q1 : oK T i = 3
                · rw [if_pos (by omega)]
                · by_cases q2 : csQ C = i
                  · rw [if_pos (by omega)]
                  · rw [if_pos (by omega)]
              refine ih _ ?_ (i + 1) x M1 _ rfl (by omega) hf h7 (fun k a b => ?_) hx0 hx1 (fun hx k a b q => ?_)
              · omega
              · rw [hc k a b]
                by_cases q : csA C k < i
                · rw [if_pos q, if_pos (by omega)]
                · rw [if_neg q]
                  by_cases q2 : csA C k = i
                  · rw [if_pos (by omega), nn k a b q2]
                  · rw [if_neg (by omega)]
              · by_cases q2 : csA C k = i
                · exact nn k a b q2
                · exact hx2 hx k a b (by omega)
    have hz : ¬ 0 < csW C := by omega
    exact lp _ 0 0 M19 vU rfl (by omega) (fun y y1 y2 => by rw [q19a y y2]; exact w5 y y1) q19b (fun k a b => by rw [q19a _ (by omega), q5, flm_i a (by omega), if_neg (by have := wcf k a b; omega)]) (Or.inl rfl) (fun h => absurd h (by omega)) (fun _ k a b q => by have := wcf k a b; omega)
  · skip
    have r5T : rT M5 t T := rT_fr hrT (c := c) (n := 8) (fun x hx => w5 x (by omega)) hd
    have r5C : rC M5 c T C := rC_in hrC (fun x p q => w5 x (by omega))
    refine A_iconst dX0_choose_15 (by decide) ?_
    exact A_zret hR dX0_choose_16 rfl (by first | exact Or.inl rfl | exact Or.inr rfl | omega) ⟨_, rfl, fun y y1 y2 => w5 y y1, fun k a b => by rw [q5, flm_i a (by omega)]; unfold crd; rw [if_pos (by omega)], Or.inl rfl, fun h => absurd h (by omega), fun _ k a b => by unfold crd; rw [if_pos (by omega)]⟩
end
