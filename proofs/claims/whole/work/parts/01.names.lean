-- ===== PART A: goes FIRST, ahead of the names: the tables' words, and 'selects' of the private methods out of them =====
/-- a private method of a class that the tables say can be made, by its rows of tables_1 -/
def lw_okq (q : MethodName × Nat) : Prop := (q.1.cls ≠ "java/lang/invoke/MethodHandle" ∧ q.1.cls ≠ "java/lang/invoke/VarHandle") ∧ Cond.instantiable q.1.cls q.2 ∈ tables_1 ∧ Cond.privateMethod q.1 ∈ tables_1 ∧ Cond.instanceMethod q.1 ∈ tables_1
theorem lw_p0 : lw_okq (⟨"HairBridge", "tryText", "()I"⟩, 8) := ⟨⟨by decide +kernel, by decide +kernel⟩, List.mem_of_getElem? (i := 16) (by decide +kernel), List.mem_of_getElem? (i := 303) (by decide +kernel), List.mem_of_getElem? (i := 304) (by decide +kernel)⟩
theorem lw_p1 : lw_okq (⟨"HairBridge$Pad", "doPart", "(LHairBridge$Abbey;II)I"⟩, 2) := ⟨⟨by decide +kernel, by decide +kernel⟩, List.mem_of_getElem? (i := 24) (by decide +kernel), List.mem_of_getElem? (i := 323) (by decide +kernel), List.mem_of_getElem? (i := 324) (by decide +kernel)⟩
theorem lw_p2 : lw_okq (⟨"HairBridge$Rope", "dropOldest", "(I)V"⟩, 4) := ⟨⟨by decide +kernel, by decide +kernel⟩, List.mem_of_getElem? (i := 55) (by decide +kernel), List.mem_of_getElem? (i := 335) (by decide +kernel), List.mem_of_getElem? (i := 336) (by decide +kernel)⟩
theorem lw_p3 : lw_okq (⟨"HairBridge$Abbey", "breaking", "(II)I"⟩, 8) := ⟨⟨by decide +kernel, by decide +kernel⟩, List.mem_of_getElem? (i := 45) (by decide +kernel), List.mem_of_getElem? (i := 409) (by decide +kernel), List.mem_of_getElem? (i := 410) (by decide +kernel)⟩
theorem lw_p4 : lw_okq (⟨"HairBridge$Crossing", "mostFrom", "(II)I"⟩, 4) := ⟨⟨by decide +kernel, by decide +kernel⟩, List.mem_of_getElem? (i := 153) (by decide +kernel), List.mem_of_getElem? (i := 477) (by decide +kernel), List.mem_of_getElem? (i := 478) (by decide +kernel)⟩
theorem lw_p5 : lw_okq (⟨"HairBridge$Crossing", "worthBy", "(III)I"⟩, 4) := ⟨⟨by decide +kernel, by decide +kernel⟩, List.mem_of_getElem? (i := 153) (by decide +kernel), List.mem_of_getElem? (i := 481) (by decide +kernel), List.mem_of_getElem? (i := 482) (by decide +kernel)⟩
theorem lw_p6 : lw_okq (⟨"HairBridge$Crossing", "crosses", "(II)Z"⟩, 4) := ⟨⟨by decide +kernel, by decide +kernel⟩, List.mem_of_getElem? (i := 153) (by decide +kernel), List.mem_of_getElem? (i := 485) (by decide +kernel), List.mem_of_getElem? (i := 486) (by decide +kernel)⟩
theorem lw_p7 : lw_okq (⟨"HairBridge$Crossing", "findOrder", "()V"⟩, 4) := ⟨⟨by decide +kernel, by decide +kernel⟩, List.mem_of_getElem? (i := 153) (by decide +kernel), List.mem_of_getElem? (i := 490) (by decide +kernel), List.mem_of_getElem? (i := 491) (by decide +kernel)⟩
theorem lw_p8 : lw_okq (⟨"HairBridge$Crossing", "firstBest", "(II)I"⟩, 4) := ⟨⟨by decide +kernel, by decide +kernel⟩, List.mem_of_getElem? (i := 153) (by decide +kernel), List.mem_of_getElem? (i := 494) (by decide +kernel), List.mem_of_getElem? (i := 495) (by decide +kernel)⟩
theorem lw_p9 : lw_okq (⟨"HairBridge$Renewal", "sortByBasket", "(LHairBridge$Abbey;)V"⟩, 9) := ⟨⟨by decide +kernel, by decide +kernel⟩, List.mem_of_getElem? (i := 175) (by decide +kernel), List.mem_of_getElem? (i := 515) (by decide +kernel), List.mem_of_getElem? (i := 516) (by decide +kernel)⟩
theorem lw_p10 : lw_okq (⟨"HairBridge$Renewal", "tryFrom", "(II)V"⟩, 9) := ⟨⟨by decide +kernel, by decide +kernel⟩, List.mem_of_getElem? (i := 175) (by decide +kernel), List.mem_of_getElem? (i := 523) (by decide +kernel), List.mem_of_getElem? (i := 524) (by decide +kernel)⟩
theorem lw_p11 : lw_okq (⟨"HairBridge$Renewal", "isHopeless", "(I)Z"⟩, 9) := ⟨⟨by decide +kernel, by decide +kernel⟩, List.mem_of_getElem? (i := 175) (by decide +kernel), List.mem_of_getElem? (i := 528) (by decide +kernel), List.mem_of_getElem? (i := 529) (by decide +kernel)⟩
theorem lw_p12 : lw_okq (⟨"HairBridge$Renewal", "foresee", "(I)V"⟩, 9) := ⟨⟨by decide +kernel, by decide +kernel⟩, List.mem_of_getElem? (i := 175) (by decide +kernel), List.mem_of_getElem? (i := 533) (by decide +kernel), List.mem_of_getElem? (i := 534) (by decide +kernel)⟩
theorem lw_p13 : lw_okq (⟨"HairBridge$Renewal", "tryStep", "(IIII)V"⟩, 9) := ⟨⟨by decide +kernel, by decide +kernel⟩, List.mem_of_getElem? (i := 175) (by decide +kernel), List.mem_of_getElem? (i := 542) (by decide +kernel), List.mem_of_getElem? (i := 543) (by decide +kernel)⟩
theorem lw_p14 : lw_okq (⟨"HairBridge$Renewal", "holdsBehind", "(III)Z"⟩, 9) := ⟨⟨by decide +kernel, by decide +kernel⟩, List.mem_of_getElem? (i := 175) (by decide +kernel), List.mem_of_getElem? (i := 546) (by decide +kernel), List.mem_of_getElem? (i := 547) (by decide +kernel)⟩
theorem lw_p15 : lw_okq (⟨"HairBridge$Wigs", "fits", "(ILHairBridge$Pairs;)Z"⟩, 4) := ⟨⟨by decide +kernel, by decide +kernel⟩, List.mem_of_getElem? (i := 214) (by decide +kernel), List.mem_of_getElem? (i := 589) (by decide +kernel), List.mem_of_getElem? (i := 590) (by decide +kernel)⟩
def lw_privs_1 : List (MethodName × Nat) := [(⟨"HairBridge", "tryText", "()I"⟩, 8), (⟨"HairBridge$Pad", "doPart", "(LHairBridge$Abbey;II)I"⟩, 2), (⟨"HairBridge$Rope", "dropOldest", "(I)V"⟩, 4), (⟨"HairBridge$Abbey", "breaking", "(II)I"⟩, 8), (⟨"HairBridge$Crossing", "mostFrom", "(II)I"⟩, 4), (⟨"HairBridge$Crossing", "worthBy", "(III)I"⟩, 4), (⟨"HairBridge$Crossing", "crosses", "(II)Z"⟩, 4), (⟨"HairBridge$Crossing", "findOrder", "()V"⟩, 4), (⟨"HairBridge$Crossing", "firstBest", "(II)I"⟩, 4), (⟨"HairBridge$Renewal", "sortByBasket", "(LHairBridge$Abbey;)V"⟩, 9), (⟨"HairBridge$Renewal", "tryFrom", "(II)V"⟩, 9), (⟨"HairBridge$Renewal", "isHopeless", "(I)Z"⟩, 9), (⟨"HairBridge$Renewal", "foresee", "(I)V"⟩, 9), (⟨"HairBridge$Renewal", "tryStep", "(IIII)V"⟩, 9), (⟨"HairBridge$Renewal", "holdsBehind", "(III)Z"⟩, 9), (⟨"HairBridge$Wigs", "fits", "(ILHairBridge$Pairs;)Z"⟩, 4)]
theorem lw_r1 : ∀ q ∈ lw_privs_1, lw_okq q := List.forall_mem_cons.mpr ⟨lw_p0, List.forall_mem_cons.mpr ⟨lw_p1, List.forall_mem_cons.mpr ⟨lw_p2, List.forall_mem_cons.mpr ⟨lw_p3, List.forall_mem_cons.mpr ⟨lw_p4, List.forall_mem_cons.mpr ⟨lw_p5, List.forall_mem_cons.mpr ⟨lw_p6, List.forall_mem_cons.mpr ⟨lw_p7, List.forall_mem_cons.mpr ⟨lw_p8, List.forall_mem_cons.mpr ⟨lw_p9, List.forall_mem_cons.mpr ⟨lw_p10, List.forall_mem_cons.mpr ⟨lw_p11, List.forall_mem_cons.mpr ⟨lw_p12, List.forall_mem_cons.mpr ⟨lw_p13, List.forall_mem_cons.mpr ⟨lw_p14, List.forall_mem_cons.mpr ⟨lw_p15, fun _ h => absurd h List.not_mem_nil⟩⟩⟩⟩⟩⟩⟩⟩⟩⟩⟩⟩⟩⟩⟩⟩
theorem lw_p16 : lw_okq (⟨"HairBridge$Wigs", "mostAlike", "(I)I"⟩, 4) := ⟨⟨by decide +kernel, by decide +kernel⟩, List.mem_of_getElem? (i := 214) (by decide +kernel), List.mem_of_getElem? (i := 609) (by decide +kernel), List.mem_of_getElem? (i := 610) (by decide +kernel)⟩
theorem lw_p17 : lw_okq (⟨"HairBridge", "toldOfOne", "(I)I"⟩, 8) := ⟨⟨by decide +kernel, by decide +kernel⟩, List.mem_of_getElem? (i := 16) (by decide +kernel), List.mem_of_getElem? (i := 644) (by decide +kernel), List.mem_of_getElem? (i := 645) (by decide +kernel)⟩
theorem lw_p18 : lw_okq (⟨"HairBridgeModel", "goText", "()Z"⟩, 37) := ⟨⟨by decide +kernel, by decide +kernel⟩, List.mem_of_getElem? (i := 648) (by decide +kernel), List.mem_of_getElem? (i := 808) (by decide +kernel), List.mem_of_getElem? (i := 809) (by decide +kernel)⟩
theorem lw_p19 : lw_okq (⟨"HairBridgeModel", "layNow", "()V"⟩, 37) := ⟨⟨by decide +kernel, by decide +kernel⟩, List.mem_of_getElem? (i := 648) (by decide +kernel), List.mem_of_getElem? (i := 812) (by decide +kernel), List.mem_of_getElem? (i := 813) (by decide +kernel)⟩
theorem lw_p20 : lw_okq (⟨"HairBridgeModel", "does", "(I)I"⟩, 37) := ⟨⟨by decide +kernel, by decide +kernel⟩, List.mem_of_getElem? (i := 648) (by decide +kernel), List.mem_of_getElem? (i := 816) (by decide +kernel), List.mem_of_getElem? (i := 817) (by decide +kernel)⟩
theorem lw_p21 : lw_okq (⟨"HairBridgeModel", "goWeek", "()V"⟩, 37) := ⟨⟨by decide +kernel, by decide +kernel⟩, List.mem_of_getElem? (i := 648) (by decide +kernel), List.mem_of_getElem? (i := 820) (by decide +kernel), List.mem_of_getElem? (i := 821) (by decide +kernel)⟩
theorem lw_p22 : lw_okq (⟨"HairBridgeModel", "lose", "(I)V"⟩, 37) := ⟨⟨by decide +kernel, by decide +kernel⟩, List.mem_of_getElem? (i := 648) (by decide +kernel), List.mem_of_getElem? (i := 824) (by decide +kernel), List.mem_of_getElem? (i := 825) (by decide +kernel)⟩
theorem lw_p23 : lw_okq (⟨"HairBridgeModel", "dropFirst", "(I)V"⟩, 37) := ⟨⟨by decide +kernel, by decide +kernel⟩, List.mem_of_getElem? (i := 648) (by decide +kernel), List.mem_of_getElem? (i := 828) (by decide +kernel), List.mem_of_getElem? (i := 829) (by decide +kernel)⟩
theorem lw_p24 : lw_okq (⟨"HairBridgeModel", "whyNoMore", "(II)I"⟩, 37) := ⟨⟨by decide +kernel, by decide +kernel⟩, List.mem_of_getElem? (i := 648) (by decide +kernel), List.mem_of_getElem? (i := 832) (by decide +kernel), List.mem_of_getElem? (i := 833) (by decide +kernel)⟩
theorem lw_p25 : lw_okq (⟨"HairBridgeModel", "whyNoLock", "(II)I"⟩, 37) := ⟨⟨by decide +kernel, by decide +kernel⟩, List.mem_of_getElem? (i := 648) (by decide +kernel), List.mem_of_getElem? (i := 836) (by decide +kernel), List.mem_of_getElem? (i := 837) (by decide +kernel)⟩
theorem lw_p26 : lw_okq (⟨"HairBridgeModel", "weave", "(II)V"⟩, 37) := ⟨⟨by decide +kernel, by decide +kernel⟩, List.mem_of_getElem? (i := 648) (by decide +kernel), List.mem_of_getElem? (i := 840) (by decide +kernel), List.mem_of_getElem? (i := 841) (by decide +kernel)⟩
theorem lw_p27 : lw_okq (⟨"HairBridgeModel", "keepTried", "()V"⟩, 37) := ⟨⟨by decide +kernel, by decide +kernel⟩, List.mem_of_getElem? (i := 648) (by decide +kernel), List.mem_of_getElem? (i := 848) (by decide +kernel), List.mem_of_getElem? (i := 849) (by decide +kernel)⟩
theorem lw_p28 : lw_okq (⟨"HairBridgeModel", "powerOf", "(I)I"⟩, 37) := ⟨⟨by decide +kernel, by decide +kernel⟩, List.mem_of_getElem? (i := 648) (by decide +kernel), List.mem_of_getElem? (i := 864) (by decide +kernel), List.mem_of_getElem? (i := 865) (by decide +kernel)⟩
theorem lw_p29 : lw_okq (⟨"HairBridgeModel", "borne", "()I"⟩, 37) := ⟨⟨by decide +kernel, by decide +kernel⟩, List.mem_of_getElem? (i := 648) (by decide +kernel), List.mem_of_getElem? (i := 872) (by decide +kernel), List.mem_of_getElem? (i := 873) (by decide +kernel)⟩
theorem lw_p30 : lw_okq (⟨"HairBridgeModel", "inchesOf", "(II)I"⟩, 37) := ⟨⟨by decide +kernel, by decide +kernel⟩, List.mem_of_getElem? (i := 648) (by decide +kernel), List.mem_of_getElem? (i := 890) (by decide +kernel), List.mem_of_getElem? (i := 891) (by decide +kernel)⟩
theorem lw_p31 : lw_okq (⟨"HairBridgeModel", "layOrder", "(I)Z"⟩, 37) := ⟨⟨by decide +kernel, by decide +kernel⟩, List.mem_of_getElem? (i := 648) (by decide +kernel), List.mem_of_getElem? (i := 913) (by decide +kernel), List.mem_of_getElem? (i := 914) (by decide +kernel)⟩
def lw_privs_2 : List (MethodName × Nat) := [(⟨"HairBridge$Wigs", "mostAlike", "(I)I"⟩, 4), (⟨"HairBridge", "toldOfOne", "(I)I"⟩, 8), (⟨"HairBridgeModel", "goText", "()Z"⟩, 37), (⟨"HairBridgeModel", "layNow", "()V"⟩, 37), (⟨"HairBridgeModel", "does", "(I)I"⟩, 37), (⟨"HairBridgeModel", "goWeek", "()V"⟩, 37), (⟨"HairBridgeModel", "lose", "(I)V"⟩, 37), (⟨"HairBridgeModel", "dropFirst", "(I)V"⟩, 37), (⟨"HairBridgeModel", "whyNoMore", "(II)I"⟩, 37), (⟨"HairBridgeModel", "whyNoLock", "(II)I"⟩, 37), (⟨"HairBridgeModel", "weave", "(II)V"⟩, 37), (⟨"HairBridgeModel", "keepTried", "()V"⟩, 37), (⟨"HairBridgeModel", "powerOf", "(I)I"⟩, 37), (⟨"HairBridgeModel", "borne", "()I"⟩, 37), (⟨"HairBridgeModel", "inchesOf", "(II)I"⟩, 37), (⟨"HairBridgeModel", "layOrder", "(I)Z"⟩, 37)]
theorem lw_r2 : ∀ q ∈ lw_privs_2, lw_okq q := List.forall_mem_cons.mpr ⟨lw_p16, List.forall_mem_cons.mpr ⟨lw_p17, List.forall_mem_cons.mpr ⟨lw_p18, List.forall_mem_cons.mpr ⟨lw_p19, List.forall_mem_cons.mpr ⟨lw_p20, List.forall_mem_cons.mpr ⟨lw_p21, List.forall_mem_cons.mpr ⟨lw_p22, List.forall_mem_cons.mpr ⟨lw_p23, List.forall_mem_cons.mpr ⟨lw_p24, List.forall_mem_cons.mpr ⟨lw_p25, List.forall_mem_cons.mpr ⟨lw_p26, List.forall_mem_cons.mpr ⟨lw_p27, List.forall_mem_cons.mpr ⟨lw_p28, List.forall_mem_cons.mpr ⟨lw_p29, List.forall_mem_cons.mpr ⟨lw_p30, List.forall_mem_cons.mpr ⟨lw_p31, fun _ h => absurd h List.not_mem_nil⟩⟩⟩⟩⟩⟩⟩⟩⟩⟩⟩⟩⟩⟩⟩⟩
theorem lw_p32 : lw_okq (⟨"HairBridgeModel", "worthOfOrder", "()I"⟩, 37) := ⟨⟨by decide +kernel, by decide +kernel⟩, List.mem_of_getElem? (i := 648) (by decide +kernel), List.mem_of_getElem? (i := 917) (by decide +kernel), List.mem_of_getElem? (i := 918) (by decide +kernel)⟩
theorem lw_p33 : lw_okq (⟨"HairBridgeModel", "badWeek", "(III)I"⟩, 37) := ⟨⟨by decide +kernel, by decide +kernel⟩, List.mem_of_getElem? (i := 648) (by decide +kernel), List.mem_of_getElem? (i := 927) (by decide +kernel), List.mem_of_getElem? (i := 928) (by decide +kernel)⟩
theorem lw_p34 : lw_okq (⟨"HairBridgeModel", "sinAll", "(III)V"⟩, 37) := ⟨⟨by decide +kernel, by decide +kernel⟩, List.mem_of_getElem? (i := 648) (by decide +kernel), List.mem_of_getElem? (i := 936) (by decide +kernel), List.mem_of_getElem? (i := 937) (by decide +kernel)⟩
theorem lw_p35 : lw_okq (⟨"HairBridgeModel", "fits", "(I)Z"⟩, 37) := ⟨⟨by decide +kernel, by decide +kernel⟩, List.mem_of_getElem? (i := 648) (by decide +kernel), List.mem_of_getElem? (i := 953) (by decide +kernel), List.mem_of_getElem? (i := 954) (by decide +kernel)⟩
theorem lw_p36 : lw_okq (⟨"HairBridgeModel", "weightOf", "(II)I"⟩, 37) := ⟨⟨by decide +kernel, by decide +kernel⟩, List.mem_of_getElem? (i := 648) (by decide +kernel), List.mem_of_getElem? (i := 957) (by decide +kernel), List.mem_of_getElem? (i := 958) (by decide +kernel)⟩
theorem lw_p37 : lw_okq (⟨"HairBridgeModel", "ask", "()I"⟩, 37) := ⟨⟨by decide +kernel, by decide +kernel⟩, List.mem_of_getElem? (i := 648) (by decide +kernel), List.mem_of_getElem? (i := 966) (by decide +kernel), List.mem_of_getElem? (i := 967) (by decide +kernel)⟩
theorem lw_p38 : lw_okq (⟨"HairBridgeModel", "alikeBy", "(I)I"⟩, 37) := ⟨⟨by decide +kernel, by decide +kernel⟩, List.mem_of_getElem? (i := 648) (by decide +kernel), List.mem_of_getElem? (i := 970) (by decide +kernel), List.mem_of_getElem? (i := 971) (by decide +kernel)⟩
theorem lw_p39 : lw_okq (⟨"HairBridgeModel", "doesBy", "(II)V"⟩, 37) := ⟨⟨by decide +kernel, by decide +kernel⟩, List.mem_of_getElem? (i := 648) (by decide +kernel), List.mem_of_getElem? (i := 982) (by decide +kernel), List.mem_of_getElem? (i := 983) (by decide +kernel)⟩
theorem lw_p40 : lw_okq (⟨"HairBridgeModel", "passAll", "()V"⟩, 37) := ⟨⟨by decide +kernel, by decide +kernel⟩, List.mem_of_getElem? (i := 648) (by decide +kernel), List.mem_of_getElem? (i := 990) (by decide +kernel), List.mem_of_getElem? (i := 991) (by decide +kernel)⟩
theorem lw_p41 : lw_okq (⟨"HairBridgeModel", "pass", "(I)I"⟩, 37) := ⟨⟨by decide +kernel, by decide +kernel⟩, List.mem_of_getElem? (i := 648) (by decide +kernel), List.mem_of_getElem? (i := 994) (by decide +kernel), List.mem_of_getElem? (i := 995) (by decide +kernel)⟩
def lw_privs_3 : List (MethodName × Nat) := [(⟨"HairBridgeModel", "worthOfOrder", "()I"⟩, 37), (⟨"HairBridgeModel", "badWeek", "(III)I"⟩, 37), (⟨"HairBridgeModel", "sinAll", "(III)V"⟩, 37), (⟨"HairBridgeModel", "fits", "(I)Z"⟩, 37), (⟨"HairBridgeModel", "weightOf", "(II)I"⟩, 37), (⟨"HairBridgeModel", "ask", "()I"⟩, 37), (⟨"HairBridgeModel", "alikeBy", "(I)I"⟩, 37), (⟨"HairBridgeModel", "doesBy", "(II)V"⟩, 37), (⟨"HairBridgeModel", "passAll", "()V"⟩, 37), (⟨"HairBridgeModel", "pass", "(I)I"⟩, 37)]
theorem lw_r3 : ∀ q ∈ lw_privs_3, lw_okq q := List.forall_mem_cons.mpr ⟨lw_p32, List.forall_mem_cons.mpr ⟨lw_p33, List.forall_mem_cons.mpr ⟨lw_p34, List.forall_mem_cons.mpr ⟨lw_p35, List.forall_mem_cons.mpr ⟨lw_p36, List.forall_mem_cons.mpr ⟨lw_p37, List.forall_mem_cons.mpr ⟨lw_p38, List.forall_mem_cons.mpr ⟨lw_p39, List.forall_mem_cons.mpr ⟨lw_p40, List.forall_mem_cons.mpr ⟨lw_p41, fun _ h => absurd h List.not_mem_nil⟩⟩⟩⟩⟩⟩⟩⟩⟩⟩
def lw_privs : List (MethodName × Nat) := lw_privs_1 ++ (lw_privs_2 ++ (lw_privs_3))
def lw_tbl : List Cond := k2_sels lw_privs ++ tables_1
theorem lw_privs_ok : ∀ q ∈ lw_privs, lw_okq q := by
  show ∀ q ∈ lw_privs_1 ++ (lw_privs_2 ++ (lw_privs_3)), lw_okq q
  exact List.forall_mem_append.mpr ⟨lw_r1, List.forall_mem_append.mpr ⟨lw_r2, lw_r3⟩⟩
def va_AOA (ty : FieldType) (U : State) : Prop := (Cond.arrayOver (.array ty)).before #[] U = true
theorem va_AOA.use {ty : FieldType} {A : Array Value} {U : State} (h : va_AOA ty U) : (Cond.arrayOver (.array ty)).before A U = true := h
/-! ===== BEGIN words of one list among another's, by their places ===== -/
theorem goodIn_r {big : List Cond} (ws : List Cond) (ps : List Nat) (hp : ws = ps.filterMap (fun i => big[i]?)) (h : ws.all goodWord = true) : GoodIn big ws := by
  intro w hw
  have h1 := List.all_eq_true.mp h w hw
  rw [hp] at hw
  obtain ⟨i, -, hi⟩ := List.mem_filterMap.mp hw
  have hm : w ∈ big := by first | exact List.mem_of_getElem? hi | exact List.getElem?_mem hi
  exact ⟨hm, good_of_word h1⟩
theorem goodIn_app {big a b : List Cond} (ha : GoodIn big a) (hb : GoodIn big b) : GoodIn big (a ++ b) := fun w h => (List.mem_append.mp h).elim (ha w) (hb w)
theorem goodIn_ca {big a b : List Cond} {c : Cond} (ha : GoodIn big (c :: a)) (hb : GoodIn big b) : GoodIn big (c :: (a ++ b)) := fun w h => (List.mem_cons.mp h).elim (fun e => ha w (List.mem_cons.mpr (Or.inl e))) (fun h => (List.mem_append.mp h).elim (fun h => ha w (List.mem_cons.mpr (Or.inr h))) (hb w))
theorem goodIn_sub {big ws : List Cond} (hm : ∀ w ∈ ws, w ∈ big) (h : ws.all goodWord = true) : GoodIn big ws := fun w hw => ⟨hm w hw, good_of_word (List.all_eq_true.mp h w hw)⟩
/-! ===== END ===== -/

/-! ===== BEGIN new T[n][m]: the outer array a place, the inner ones among the pooled ===== -/
/-- f, but v at every address of l -/
def vr_up {α : Type} (f : Nat → α) (l : List Nat) (v : α) : Nat → α := fun a => if a ∈ l then v else f a
theorem vr_up_in {α : Type} {f : Nat → α} {l : List Nat} {v : α} {a : Nat} (h : a ∈ l) : vr_up f l v a = v := if_pos h
theorem vr_up_ne {α : Type} {f : Nat → α} {l : List Nat} {v : α} {a : Nat} (h : a ∉ l) : vr_up f l v a = f a := if_neg h
theorem vr_rows {L l : List Nat} {f : Nat → va_E} {e : va_E} (h : ∀ a, a ∈ l → a ∉ L) : va_pl L f ++ l.map (fun a => (a, e)) = va_pl (L ++ l) (vr_up f l e) := by
  unfold va_pl
  rw [List.map_append]
  congr 1
  · apply List.map_congr_left
    intro a ha
    rw [vr_up_ne (fun q => h a q ha)]
  · apply List.map_congr_left
    intro a ha
    rw [vr_up_in ha]
theorem vr_lay {X rows : va_W} {x : Nat × va_E} {pl : va_W} {D : va_G} {cl : List vw_C} {H : Heap} (hP : va_P D cl (((X ++ pl) ++ [x]) ++ rows) H) : va_P D cl ((X ++ [x]) ++ (pl ++ rows)) H := by
  rw [List.append_assoc (X ++ pl)] at hP
  have h := va_P.swap hP
  rw [← List.append_assoc X] at h
  have h2 := va_P.swap h
  rw [List.append_assoc (X ++ [x])] at h2
  exact h2
theorem vr_layD {X rows : va_W} {x : Nat × va_E} {pl : va_W} {A : Nat → Prop} (hD : va_D A (((X ++ pl) ++ [x]) ++ rows)) : va_D A ((X ++ [x]) ++ (pl ++ rows)) := by
  rw [List.append_assoc (X ++ pl)] at hD
  have h := va_D.swap hD
  rw [← List.append_assoc X] at h
  have h2 := va_D.swap h
  rw [List.append_assoc (X ++ [x])] at h2
  exact h2
theorem vr_outer (c : ClassId) (N h0 : Nat) : ∀ i : Nat, Jvm.Free.Multi.outerC c N h0 i = arrV c N (fun j => va_rf (if j < i then some (h0 + 1 + j) else none))
  | 0 => by
    show ({ cls := c, slots := Array.replicate N .null, vm := .none } : Cell) = _
    rw [arrV_new]
    refine congrArg (arrV c N) (funext fun j => ?_)
    simp [va_rf]
  | i + 1 => by
    show (Jvm.Free.Multi.outerC c N h0 i).setSlot i (.ref (h0 + 1 + i)) = _
    rw [vr_outer c N h0 i, arrV_store]
    refine congrArg (arrV c N) (funext fun j => ?_)
    by_cases e : j = i
    · subst e
      simp [updV, va_rf]
    · by_cases h : j < i
      · simp [updV, e, h, Nat.lt_succ_of_lt h]
      · simp [updV, e, h, show ¬ j < i + 1 by omega]
section VGM
variable {p : Program} {l : Launch} {e : Env} {R : Room} {s : State} {m : MethodId} {args : Array Value} {below : List Frame} {meth : Method} {c : Code} {H : Heap} {locs : List Loc} {cells slots : Nat} {Q : State → Prop}
variable {cc : ByteArray} {pc : Nat} {ls : Array Slot} {rest : List Value} {D : va_G} {cl : List vw_C} {A : Nat → Prop} {a : Nat} {tys : List (ClassId × FieldType)} {ws : va_W} {H0 : Heap}
theorem va_mna {X : va_W} {L : List Nat} {f : Nat → va_E} {cc : ByteArray} (hexec : p.tables.exec = Jvm.exec) (hb : c.code = cc) {own : String} {index : Nat} {ty : FieldType} {cy : ClassId} (hown : s.vm.findClass own = some m.cls) (hclink : (Cond.classLink own index ("[" ++ (FieldType.array ty).toString)).before args s = true) (hover : va_AOA ty s) (harr : (Cond.arrayClass ty).before args s = true) (hcy : s.vm.findClass (FieldType.array ty).toString = some cy)
    (hK : va_K D cl tys s) (hP : va_P D cl (X ++ va_pl L f) H) (hD : va_D A (X ++ va_pl L f)) (hS : va_S A H0 H locs) (hA : ∀ q, H0.size ≤ q → A q) {n k : Int32} {N' K' : Nat} {z : vp_A} (hn : ¬ n < 0) (hk : ¬ k < 0) (hN : n.toNatClampNeg = N') (hM : k.toNatClampNeg = K')
    (hb1 : N' * 4 ≤ 536870912) (hb2 : K' * componentBytes ty ≤ 536870912) (hb3 : K' ≤ 536870912) (hdf : fits ty (defaultValue ty) = true) (hdd : (defaultValue ty).isDefault = true) (hcells : cells + (1 + N') ≤ R.cells) (hslots : slots + (N' + N' * K') ≤ R.slots) (hz : ∀ c : ClassId, Jvm.Free.Multi.innerC c K' (defaultValue ty) = vp_cell c z) (hdg : decode cc pc = .ok (.multianewarray index 2, 4))
    (kk : ∀ (q : Nat) (r : Nat → Nat) (cA : ClassId) (H1 : Heap), (∀ i j : Nat, i < N' → j < N' → r i = r j → i = j) → (∀ i : Nat, i < N' → r i ∉ L) → va_K D cl (tys ++ [(cA, .array ty)]) s →
      va_P D cl ((X ++ [(q, .inl (cA, N', .inr (.inr (.inr (.inr (fun i => if i < N' then some (r i) else none))))))]) ++ va_pl (L ++ (List.range N').map r) (vr_up f ((List.range N').map r) (.inl (cy, z)))) H1 → va_D A ((X ++ [(q, .inl (cA, N', .inr (.inr (.inr (.inr (fun i => if i < N' then some (r i) else none))))))]) ++ va_pl (L ++ (List.range N').map r) (vr_up f ((List.range N').map r) (.inl (cy, z)))) → va_S A H0 H1 locs →
      W p l e R s m args below meth c H1 locs (cells + 1 + N') (slots + N' + N' * K') Q (F0 m (pc + 4) ls (.ref q :: rest))) : W p l e R s m args below meth c H locs cells slots Q (F0 m pc ls (.int k :: .int n :: rest)) := by
  subst hN
  subst hM
  intro T hT Xs
  obtain ⟨vm₁, cA, comp, -, fA, fC, hO, -, X', step⟩ := Xs.multianewarray2F hexec hown hclink (va_AOA.use hover) harr (g := F0 m pc ls (.int k :: .int n :: rest)) rfl (by rw [hb]; exact hdg) rfl hn hk hb1 hb2 hb3 hdf hdd hcells hslots
  have ec : some cy = some comp := hcy.symm.trans fC
  cases ec
  generalize hF : Jvm.Free.Multi.fill (T.setVm vm₁) cA cy n.toNatClampNeg k.toNatClampNeg (defaultValue ty) n.toNatClampNeg = F at X' step
  have hTh : (T.setVm vm₁).heap = H := hT
  obtain ⟨f1, f2, -, -⟩ := Jvm.Free.Multi.fill_facts (T.setVm vm₁) cA cy n.toNatClampNeg k.toNatClampNeg (defaultValue ty) n.toNatClampNeg
  rw [hF, hTh] at f1 f2
  have hold : ∀ x : Nat, x < H.size → F.heap[x]? = H[x]? := fun x hx => by
    have := Jvm.Free.Multi.fill_old (T.setVm vm₁) cA cy n.toNatClampNeg k.toNatClampNeg (defaultValue ty) (a := x) (by rw [hTh]; exact hx) n.toNatClampNeg
    rw [hF, hTh] at this
    exact this
  have hrow : ∀ j : Nat, j < n.toNatClampNeg → F.heap[H.size + 1 + j]? = some (vp_cell cy z) := fun j hj => by
    have := Jvm.Free.Multi.fill_inner (T.setVm vm₁) cA cy n.toNatClampNeg k.toNatClampNeg (defaultValue ty) n.toNatClampNeg j hj
    rw [hF, hTh, hz] at this
    exact this
  have hout : Jvm.Free.Multi.outerC cA n.toNatClampNeg H.size n.toNatClampNeg = vp_cell cA (n.toNatClampNeg, .inr (.inr (.inr (.inr (fun i => if i < n.toNatClampNeg then some (H.size + 1 + i) else none))))) := by
    rw [vp_cell_q]
    exact vr_outer cA n.toNatClampNeg H.size n.toNatClampNeg
  rw [hout] at f2
  have hlt : ∀ a, a ∈ L → a < H.size := fun a ha => by
    obtain ⟨k9, hk9⟩ := va_pl_get (X := X) (f := f) ha
    exact (hP k9 _ hk9).lt
  have hnl : ∀ i : Nat, i < n.toNatClampNeg → H.size + 1 + i ∉ L := fun i _ h => by
    have := hlt _ h
    omega
  have hnm : ∀ a, a ∈ (List.range n.toNatClampNeg).map (fun i => H.size + 1 + i) → a ∉ L := fun a ha h => by
    obtain ⟨i, -, rfl⟩ := List.mem_map.mp ha
    have := hlt _ h
    omega
  have hP0 : va_P D cl (X ++ va_pl L f) F.heap := hP.kept (fun k9 x hx => hold x.1 ((hP k9 x hx).lt))
  have hP1 : va_P D cl ((X ++ va_pl L f) ++ [(H.size, .inl (cA, n.toNatClampNeg, .inr (.inr (.inr (.inr (fun i => if i < n.toNatClampNeg then some (H.size + 1 + i) else none))))))]) F.heap := hP0.app (fun k9 x hx => by
    have h0 : k9 < 1 := (List.getElem?_eq_some_iff.mp hx).1
    rw [show k9 = 0 by omega] at hx
    cases hx
    exact f2)
  have hP2 : va_P D cl (((X ++ va_pl L f) ++ [(H.size, .inl (cA, n.toNatClampNeg, .inr (.inr (.inr (.inr (fun i => if i < n.toNatClampNeg then some (H.size + 1 + i) else none))))))]) ++ ((List.range n.toNatClampNeg).map (fun i => H.size + 1 + i)).map (fun a => (a, .inl (cy, z)))) F.heap := hP1.app (fun k9 x hx => by
    obtain ⟨a, ha, rfl⟩ := List.mem_map.mp (List.mem_of_getElem? hx)
    obtain ⟨i, hi, rfl⟩ := List.mem_map.mp ha
    exact hrow i (List.mem_range.mp hi))
  have hD2 : va_D A (((X ++ va_pl L f) ++ [(H.size, .inl (cA, n.toNatClampNeg, .inr (.inr (.inr (.inr (fun i => if i < n.toNatClampNeg then some (H.size + 1 + i) else none))))))]) ++ ((List.range n.toNatClampNeg).map (fun i => H.size + 1 + i)).map (fun a => (a, .inl (cy, z)))) := by
    have hD1 := hD.push (e := .inl (cA, n.toNatClampNeg, .inr (.inr (.inr (.inr (fun i => if i < n.toNatClampNeg then some (H.size + 1 + i) else none)))))) hP rfl (hA _ hS.1)
    generalize hW1 : (X ++ va_pl L f) ++ [(H.size, .inl (cA, n.toNatClampNeg, .inr (.inr (.inr (.inr (fun i => if i < n.toNatClampNeg then some (H.size + 1 + i) else none))))))] = W1 at hD1 hP1 ⊢
    have hle : ∀ (k9 : Nat) (x : Nat × va_E), W1[k9]? = some x → x.1 ≤ H.size := fun k9 x hx => by
      rw [← hW1] at hx
      by_cases hl : k9 < (X ++ va_pl L f).length
      · rw [List.getElem?_append_left hl] at hx
        exact Nat.le_of_lt ((hP k9 x hx).lt)
      · rw [List.getElem?_append_right (by omega)] at hx
        have h0 : k9 - (X ++ va_pl L f).length < 1 := (List.getElem?_eq_some_iff.mp hx).1
        rw [show k9 - (X ++ va_pl L f).length = 0 by omega] at hx
        cases hx
        exact Nat.le_refl _
    have hr : ∀ (k9 : Nat) (x : Nat × va_E), (((List.range n.toNatClampNeg).map (fun i => H.size + 1 + i)).map (fun a => ((a, .inl (cy, z)) : Nat × va_E)))[k9]? = some x → x.1 = H.size + 1 + k9 := fun k9 x hx => by
      rw [List.getElem?_map, List.getElem?_map] at hx
      by_cases h9 : k9 < n.toNatClampNeg
      · rw [List.getElem?_range h9] at hx
        cases hx
        rfl
      · have hn0 : (List.range n.toNatClampNeg)[k9]? = none := List.getElem?_eq_none (by rw [List.length_range]; omega)
        rw [hn0] at hx
        cases hx
    refine ⟨fun i j x y hi hj hxy => ?_, fun k9 x hx => ?_⟩
    · by_cases h1 : i < W1.length <;> by_cases h2 : j < W1.length
      · rw [List.getElem?_append_left h1] at hi
        rw [List.getElem?_append_left h2] at hj
        exact hD1.1 i j x y hi hj hxy
      · rw [List.getElem?_append_left h1] at hi
        rw [List.getElem?_append_right (by omega)] at hj
        have := hle _ _ hi
        have := hr _ _ hj
        omega
      · rw [List.getElem?_append_right (by omega)] at hi
        rw [List.getElem?_append_left h2] at hj
        have := hle _ _ hj
        have := hr _ _ hi
        omega
      · rw [List.getElem?_append_right (by omega)] at hi hj
        have := hr _ _ hi
        have := hr _ _ hj
        omega
    · by_cases h1 : k9 < W1.length
      · rw [List.getElem?_append_left h1] at hx
        exact hD1.2 k9 x hx
      · rw [List.getElem?_append_right (by omega)] at hx
        have := hr _ _ hx
        exact hA _ (by have := hS.1; omega)
  have hAr : ArrOfT s cA (.array ty) := fun N9 z9 => by
    obtain ⟨-, k9, hk9, cm9, hkk9⟩ := (hO 0 0 0).1
    exact ⟨(fun q hq => by cases hq), k9, hk9, cm9, hkk9⟩
  have hK2 : va_K D cl (tys ++ [(cA, .array ty)]) s := ⟨hK.1, fun k9 x hx => by
    by_cases hl : k9 < tys.length
    · rw [List.getElem?_append_left hl] at hx
      exact hK.2 k9 x hx
    · rw [List.getElem?_append_right (by omega)] at hx
      have h0 : k9 - tys.length < 1 := (List.getElem?_eq_some_iff.mp hx).1
      rw [show k9 - tys.length = 0 by omega] at hx
      cases hx
      exact ⟨hAr, fA⟩⟩
  obtain ⟨t, a1, b1⟩ := kk H.size (fun i => H.size + 1 + i) cA F.heap (fun i j _ _ h => by have h9 : H.size + 1 + i = H.size + 1 + j := h; omega) hnl hK2 (by rw [← vr_rows hnm]; exact vr_lay hP2) (by rw [← vr_rows hnm]; exact vr_layD hD2) ⟨by rw [f1]; have := hS.1; omega, fun x h1 h2 => (hold x (Nat.lt_of_lt_of_le h1 hS.1)).trans (hS.2.1 x h1 h2), hS.2.2⟩ F rfl X'
  refine ⟨t, step t ?_, b1⟩
  have e : T.heap.size = H.size := by rw [hT]
  rw [e]
  exact a1
end VGM
/-! ===== END ===== -/

/-! ===== BEGIN printed: names, fields, word lists, decode rows ===== -/
def RX0 : String := "HairBridge$Abbey"
def TX0 : u_T := fun k => match k with
  | 0 => ("HairBridge$Abbey", "hair", "[I", true)
  | 1 => ("HairBridge$Abbey", "strong", "[I", true)
  | 2 => ("HairBridge$Abbey", "basket", "[I", true)
  | 3 => ("HairBridge$Abbey", "worn", "[I", true)
  | 4 => ("HairBridge$Abbey", "ropes", "[LHairBridge$Rope;", true)
  | 5 => ("HairBridge$Abbey", "powers", "[I", true)
  | 6 => ("HairBridge$Abbey", "wear", "I", false)
  | _ => ("HairBridge$Abbey", "weeks", "I", false)
def tyX0 : Nat → FieldType := fun k => match k with
  | 0 => .array .int
  | 1 => .array .int
  | 2 => .array .int
  | 3 => .array .int
  | 4 => .array (.object "HairBridge$Rope")
  | 5 => .array .int
  | 6 => .int
  | _ => .int
abbrev wsX00 : List Cond := u_ws RX0 TX0 8
theorem nmX0 : ∀ a, a < 8 → ∀ b, b < 8 → a ≠ b → (TX0 a).2.1 ≠ (TX0 b).2.1 := by decide +kernel
theorem tyX0_ok : ∀ k, k < 8 → parseFieldDescriptor (TX0 k).2.2.1 = some (tyX0 k) := by decide +kernel
abbrev cX0_init : ByteArray := prog_2_method_1_code
def yX0_init : MethodName := ⟨RX0, "<init>", "()V"⟩
abbrev cX0_become : ByteArray := prog_2_method_2_code
def yX0_become : MethodName := ⟨RX0, "become", "(LHairBridge$Abbey;)V"⟩
abbrev cX0_sin : ByteArray := prog_2_method_3_code
def yX0_sin : MethodName := ⟨RX0, "sin", "(II)I"⟩
abbrev cX0_pray : ByteArray := prog_2_method_4_code
def yX0_pray : MethodName := ⟨RX0, "pray", "(II)I"⟩
abbrev cX0_weave : ByteArray := prog_2_method_5_code
def yX0_weave : MethodName := ⟨RX0, "weave", "(II)I"⟩
abbrev cX0_passWeek : ByteArray := prog_2_method_6_code
def yX0_passWeek : MethodName := ⟨RX0, "passWeek", "()V"⟩
abbrev cX0_giveAll : ByteArray := prog_2_method_7_code
def yX0_giveAll : MethodName := ⟨RX0, "giveAll", "(III)V"⟩
abbrev cX0_drawDeeds : ByteArray := prog_2_method_8_code
def yX0_drawDeeds : MethodName := ⟨RX0, "drawDeeds", "(I)I"⟩
abbrev cX0_bearsLess : ByteArray := prog_2_method_9_code
def yX0_bearsLess : MethodName := ⟨RX0, "bearsLess", "(I)I"⟩
abbrev cX0_brokenUnder : ByteArray := prog_2_method_10_code
def yX0_brokenUnder : MethodName := ⟨RX0, "brokenUnder", "(I)I"⟩
abbrev cX0_breaking : ByteArray := prog_2_method_11_code
def yX0_breaking : MethodName := ⟨RX0, "breaking", "(II)I"⟩
abbrev cX0_powerInBasket : ByteArray := prog_2_method_12_code
def yX0_powerInBasket : MethodName := ⟨RX0, "powerInBasket", "(I)I"⟩
abbrev cX0_inchesOf : ByteArray := prog_2_method_13_code
def yX0_inchesOf : MethodName := ⟨RX0, "inchesOf", "(I)I"⟩
abbrev cX0_powerOf : ByteArray := prog_2_method_14_code
def yX0_powerOf : MethodName := ⟨RX0, "powerOf", "(I)I"⟩
def RX1 : String := "HairBridge$Crossing"
def TX1 : u_T := fun k => match k with
  | 0 => ("HairBridge$Crossing", "borne", "[I", true)
  | 1 => ("HairBridge$Crossing", "worthToCome", "[I", true)
  | 2 => ("HairBridge$Crossing", "order", "[I", true)
  | _ => ("HairBridge$Crossing", "loads", "LHairBridge$Pairs;", true)
def tyX1 : Nat → FieldType := fun k => match k with
  | 0 => .array .int
  | 1 => .array .int
  | 2 => .array .int
  | _ => .object "HairBridge$Pairs"
abbrev wsX10 : List Cond := u_ws RX1 TX1 4
theorem nmX1 : ∀ a, a < 4 → ∀ b, b < 4 → a ≠ b → (TX1 a).2.1 ≠ (TX1 b).2.1 := by decide +kernel
theorem tyX1_ok : ∀ k, k < 4 → parseFieldDescriptor (TX1 k).2.2.1 = some (tyX1 k) := by decide +kernel
abbrev cX1_init : ByteArray := prog_3_method_1_code
def yX1_init : MethodName := ⟨RX1, "<init>", "()V"⟩
abbrev cX1_most : ByteArray := prog_3_method_2_code
def yX1_most : MethodName := ⟨RX1, "most", "()I"⟩
abbrev cX1_turn : ByteArray := prog_3_method_3_code
def yX1_turn : MethodName := ⟨RX1, "turn", "(I)I"⟩
abbrev cX1_reckon : ByteArray := prog_3_method_4_code
def yX1_reckon : MethodName := ⟨RX1, "reckon", "(LHairBridge$Abbey;LHairBridge$Pairs;)V"⟩
abbrev cX1_mostFrom : ByteArray := prog_3_method_5_code
def yX1_mostFrom : MethodName := ⟨RX1, "mostFrom", "(II)I"⟩
abbrev cX1_crosses : ByteArray := prog_3_method_6_code
def yX1_crosses : MethodName := ⟨RX1, "crosses", "(II)Z"⟩
abbrev cX1_worthBy : ByteArray := prog_3_method_7_code
def yX1_worthBy : MethodName := ⟨RX1, "worthBy", "(III)I"⟩
abbrev cX1_findOrder : ByteArray := prog_3_method_8_code
def yX1_findOrder : MethodName := ⟨RX1, "findOrder", "()V"⟩
abbrev cX1_firstBest : ByteArray := prog_3_method_9_code
def yX1_firstBest : MethodName := ⟨RX1, "firstBest", "(II)I"⟩
def RX2 : String := "HairBridge$Pad"
def TX2 : u_T := fun k => match k with
  | 0 => ("HairBridge$Pad", "signs", "[I", true)
  | _ => ("HairBridge$Pad", "count", "I", false)
def tyX2 : Nat → FieldType := fun k => match k with
  | 0 => .array .int
  | _ => .int
abbrev wsX20 : List Cond := u_ws RX2 TX2 2
theorem nmX2 : ∀ a, a < 2 → ∀ b, b < 2 → a ≠ b → (TX2 a).2.1 ≠ (TX2 b).2.1 := by decide +kernel
theorem tyX2_ok : ∀ k, k < 2 → parseFieldDescriptor (TX2 k).2.2.1 = some (tyX2 k) := by decide +kernel
abbrev cX2_init : ByteArray := prog_4_method_1_code
def yX2_init : MethodName := ⟨RX2, "<init>", "()V"⟩
abbrev cX2_put : ByteArray := prog_4_method_2_code
def yX2_put : MethodName := ⟨RX2, "put", "(I)Z"⟩
abbrev cX2_clear : ByteArray := prog_4_method_3_code
def yX2_clear : MethodName := ⟨RX2, "clear", "()I"⟩
abbrev cX2_firstFault : ByteArray := prog_4_method_4_code
def yX2_firstFault : MethodName := ⟨RX2, "firstFault", "()I"⟩
abbrev cX2_behind : ByteArray := prog_4_method_5_code
def yX2_behind : MethodName := ⟨RX2, "behind", "(II)I"⟩
abbrev cX2_parts : ByteArray := prog_4_method_6_code
def yX2_parts : MethodName := ⟨RX2, "parts", "(I)I"⟩
abbrev cX2_why : ByteArray := prog_4_method_7_code
def yX2_why : MethodName := ⟨RX2, "why", "(I)I"⟩
abbrev cX2_follow : ByteArray := prog_4_method_8_code
def yX2_follow : MethodName := ⟨RX2, "follow", "(LHairBridge$Abbey;)I"⟩
abbrev cX2_doPart : ByteArray := prog_4_method_9_code
def yX2_doPart : MethodName := ⟨RX2, "doPart", "(LHairBridge$Abbey;II)I"⟩
def RX3 : String := "HairBridge$Pairs"
def TX3 : u_T := fun k => match k with
  | 0 => ("HairBridge$Pairs", "first", "[I", true)
  | 1 => ("HairBridge$Pairs", "second", "[I", true)
  | _ => ("HairBridge$Pairs", "count", "I", false)
def tyX3 : Nat → FieldType := fun k => match k with
  | 0 => .array .int
  | 1 => .array .int
  | _ => .int
abbrev wsX30 : List Cond := u_ws RX3 TX3 3
theorem nmX3 : ∀ a, a < 3 → ∀ b, b < 3 → a ≠ b → (TX3 a).2.1 ≠ (TX3 b).2.1 := by decide +kernel
theorem tyX3_ok : ∀ k, k < 3 → parseFieldDescriptor (TX3 k).2.2.1 = some (tyX3 k) := by decide +kernel
abbrev cX3_init : ByteArray := prog_5_method_1_code
def yX3_init : MethodName := ⟨RX3, "<init>", "()V"⟩
abbrev cX3_become : ByteArray := prog_5_method_2_code
def yX3_become : MethodName := ⟨RX3, "become", "(LHairBridge$Pairs;)V"⟩
abbrev cX3_put : ByteArray := prog_5_method_3_code
def yX3_put : MethodName := ⟨RX3, "put", "(II)Z"⟩
abbrev cX3_clear : ByteArray := prog_5_method_4_code
def yX3_clear : MethodName := ⟨RX3, "clear", "()I"⟩
def RX4 : String := "HairBridge$Renewal"
def TX4 : u_T := fun k => match k with
  | 0 => ("HairBridge$Renewal", "ahead", "[LHairBridge$Abbey;", true)
  | 1 => ("HairBridge$Renewal", "worn", "[[I", true)
  | 2 => ("HairBridge$Renewal", "eaten", "[[I", true)
  | 3 => ("HairBridge$Renewal", "strongestFirst", "[I", true)
  | 4 => ("HairBridge$Renewal", "tried", "[I", true)
  | 5 => ("HairBridge$Renewal", "found", "[I", true)
  | 6 => ("HairBridge$Renewal", "weeks", "I", false)
  | 7 => ("HairBridge$Renewal", "need", "I", false)
  | _ => ("HairBridge$Renewal", "fewest", "I", false)
def tyX4 : Nat → FieldType := fun k => match k with
  | 0 => .array (.object "HairBridge$Abbey")
  | 1 => .array (.array .int)
  | 2 => .array (.array .int)
  | 3 => .array .int
  | 4 => .array .int
  | 5 => .array .int
  | 6 => .int
  | 7 => .int
  | _ => .int
abbrev wsX40 : List Cond := u_ws RX4 TX4 9
theorem nmX4 : ∀ a, a < 9 → ∀ b, b < 9 → a ≠ b → (TX4 a).2.1 ≠ (TX4 b).2.1 := by decide +kernel
theorem tyX4_ok : ∀ k, k < 9 → parseFieldDescriptor (TX4 k).2.2.1 = some (tyX4 k) := by decide +kernel
abbrev cX4_init : ByteArray := prog_6_method_1_code
def yX4_init : MethodName := ⟨RX4, "<init>", "()V"⟩
abbrev cX4_fewestInches : ByteArray := prog_6_method_2_code
def yX4_fewestInches : MethodName := ⟨RX4, "fewestInches", "(LHairBridge$Abbey;II)I"⟩
abbrev cX4_wovenAhead : ByteArray := prog_6_method_3_code
def yX4_wovenAhead : MethodName := ⟨RX4, "wovenAhead", "(I)I"⟩
abbrev cX4_sortByBasket : ByteArray := prog_6_method_4_code
def yX4_sortByBasket : MethodName := ⟨RX4, "sortByBasket", "(LHairBridge$Abbey;)V"⟩
abbrev cX4_tryFrom : ByteArray := prog_6_method_5_code
def yX4_tryFrom : MethodName := ⟨RX4, "tryFrom", "(II)V"⟩
abbrev cX4_tryStep : ByteArray := prog_6_method_6_code
def yX4_tryStep : MethodName := ⟨RX4, "tryStep", "(IIII)V"⟩
abbrev cX4_holdsBehind : ByteArray := prog_6_method_7_code
def yX4_holdsBehind : MethodName := ⟨RX4, "holdsBehind", "(III)Z"⟩
abbrev cX4_foresee : ByteArray := prog_6_method_8_code
def yX4_foresee : MethodName := ⟨RX4, "foresee", "(I)V"⟩
abbrev cX4_isHopeless : ByteArray := prog_6_method_9_code
def yX4_isHopeless : MethodName := ⟨RX4, "isHopeless", "(I)Z"⟩
def RX5 : String := "HairBridge$Rope"
def TX5 : u_T := fun k => match k with
  | 0 => ("HairBridge$Rope", "monks", "[I", true)
  | 1 => ("HairBridge$Rope", "inches", "[I", true)
  | 2 => ("HairBridge$Rope", "weeks", "[I", true)
  | _ => ("HairBridge$Rope", "count", "I", false)
def tyX5 : Nat → FieldType := fun k => match k with
  | 0 => .array .int
  | 1 => .array .int
  | 2 => .array .int
  | _ => .int
abbrev wsX50 : List Cond := u_ws RX5 TX5 4
theorem nmX5 : ∀ a, a < 4 → ∀ b, b < 4 → a ≠ b → (TX5 a).2.1 ≠ (TX5 b).2.1 := by decide +kernel
theorem tyX5_ok : ∀ k, k < 4 → parseFieldDescriptor (TX5 k).2.2.1 = some (tyX5 k) := by decide +kernel
abbrev cX5_init : ByteArray := prog_7_method_1_code
def yX5_init : MethodName := ⟨RX5, "<init>", "()V"⟩
abbrev cX5_become : ByteArray := prog_7_method_2_code
def yX5_become : MethodName := ⟨RX5, "become", "(LHairBridge$Rope;)V"⟩
abbrev cX5_hasRoom : ByteArray := prog_7_method_3_code
def yX5_hasRoom : MethodName := ⟨RX5, "hasRoom", "()Z"⟩
abbrev cX5_add : ByteArray := prog_7_method_4_code
def yX5_add : MethodName := ⟨RX5, "add", "(III)V"⟩
abbrev cX5_lose : ByteArray := prog_7_method_5_code
def yX5_lose : MethodName := ⟨RX5, "lose", "(I[I)V"⟩
abbrev cX5_dropOldest : ByteArray := prog_7_method_6_code
def yX5_dropOldest : MethodName := ⟨RX5, "dropOldest", "(I)V"⟩
abbrev cX5_powerLess : ByteArray := prog_7_method_7_code
def yX5_powerLess : MethodName := ⟨RX5, "powerLess", "(I[I)I"⟩
abbrev cX5_length : ByteArray := prog_7_method_8_code
def yX5_length : MethodName := ⟨RX5, "length", "()I"⟩
abbrev cX5_lengthOf : ByteArray := prog_7_method_9_code
def yX5_lengthOf : MethodName := ⟨RX5, "lengthOf", "(I)I"⟩
def RX6 : String := "HairBridge$Whole"
def TX6 : u_T := fun k => match k with
  | 0 => ("HairBridge$Whole", "abbey", "LHairBridge$Abbey;", true)
  | 1 => ("HairBridge$Whole", "loads", "LHairBridge$Pairs;", true)
  | _ => ("HairBridge$Whole", "weighings", "LHairBridge$Pairs;", true)
def tyX6 : Nat → FieldType := fun k => match k with
  | 0 => .object "HairBridge$Abbey"
  | 1 => .object "HairBridge$Pairs"
  | _ => .object "HairBridge$Pairs"
abbrev wsX60 : List Cond := u_ws RX6 TX6 3
theorem nmX6 : ∀ a, a < 3 → ∀ b, b < 3 → a ≠ b → (TX6 a).2.1 ≠ (TX6 b).2.1 := by decide +kernel
theorem tyX6_ok : ∀ k, k < 3 → parseFieldDescriptor (TX6 k).2.2.1 = some (tyX6 k) := by decide +kernel
abbrev cX6_init : ByteArray := prog_8_method_1_code
def yX6_init : MethodName := ⟨RX6, "<init>", "()V"⟩
abbrev cX6_become : ByteArray := prog_8_method_2_code
def yX6_become : MethodName := ⟨RX6, "become", "(LHairBridge$Whole;)V"⟩
def RX7 : String := "HairBridge$Wigs"
def TX7 : u_T := fun k => match k with
  | 0 => ("HairBridge$Wigs", "weights", "[I", true)
  | 1 => ("HairBridge$Wigs", "alike", "[I", true)
  | 2 => ("HairBridge$Wigs", "fitting", "[I", true)
  | _ => ("HairBridge$Wigs", "count", "I", false)
def tyX7 : Nat → FieldType := fun k => match k with
  | 0 => .array .int
  | 1 => .array .int
  | 2 => .array .int
  | _ => .int
abbrev wsX70 : List Cond := u_ws RX7 TX7 4
theorem nmX7 : ∀ a, a < 4 → ∀ b, b < 4 → a ≠ b → (TX7 a).2.1 ≠ (TX7 b).2.1 := by decide +kernel
theorem tyX7_ok : ∀ k, k < 4 → parseFieldDescriptor (TX7 k).2.2.1 = some (tyX7 k) := by decide +kernel
abbrev cX7_init : ByteArray := prog_9_method_1_code
def yX7_init : MethodName := ⟨RX7, "<init>", "()V"⟩
abbrev cX7_find : ByteArray := prog_9_method_2_code
def yX7_find : MethodName := ⟨RX7, "find", "([ILHairBridge$Pairs;)V"⟩
abbrev cX7_fits : ByteArray := prog_9_method_3_code
def yX7_fits : MethodName := ⟨RX7, "fits", "(ILHairBridge$Pairs;)Z"⟩
abbrev cX7_inEach : ByteArray := prog_9_method_4_code
def yX7_inEach : MethodName := ⟨RX7, "inEach", "()I"⟩
abbrev cX7_inNone : ByteArray := prog_9_method_5_code
def yX7_inNone : MethodName := ⟨RX7, "inNone", "()I"⟩
abbrev cX7_bestToAsk : ByteArray := prog_9_method_6_code
def yX7_bestToAsk : MethodName := ⟨RX7, "bestToAsk", "()I"⟩
abbrev cX7_mostAlike : ByteArray := prog_9_method_7_code
def yX7_mostAlike : MethodName := ⟨RX7, "mostAlike", "(I)I"⟩
def RX8 : String := "HairBridge"
def TX8 : u_T := fun k => match k with
  | 0 => ("HairBridge", "pad", "LHairBridge$Pad;", true)
  | 1 => ("HairBridge", "now", "LHairBridge$Whole;", true)
  | 2 => ("HairBridge", "images", "[LHairBridge$Whole;", true)
  | 3 => ("HairBridge", "kept", "[Z", true)
  | 4 => ("HairBridge", "trial", "LHairBridge$Abbey;", true)
  | 5 => ("HairBridge", "crossing", "LHairBridge$Crossing;", true)
  | 6 => ("HairBridge", "renewal", "LHairBridge$Renewal;", true)
  | _ => ("HairBridge", "wigs", "LHairBridge$Wigs;", true)
def tyX8 : Nat → FieldType := fun k => match k with
  | 0 => .object "HairBridge$Pad"
  | 1 => .object "HairBridge$Whole"
  | 2 => .array (.object "HairBridge$Whole")
  | 3 => .array .boolean
  | 4 => .object "HairBridge$Abbey"
  | 5 => .object "HairBridge$Crossing"
  | 6 => .object "HairBridge$Renewal"
  | _ => .object "HairBridge$Wigs"
abbrev wsX80 : List Cond := u_ws RX8 TX8 8
theorem nmX8 : ∀ a, a < 8 → ∀ b, b < 8 → a ≠ b → (TX8 a).2.1 ≠ (TX8 b).2.1 := by decide +kernel
theorem tyX8_ok : ∀ k, k < 8 → parseFieldDescriptor (TX8 k).2.2.1 = some (tyX8 k) := by decide +kernel
abbrev cX8_init : ByteArray := prog_1_method_1_code
def yX8_init : MethodName := ⟨RX8, "<init>", "()V"⟩
abbrev cX8_monk : ByteArray := prog_1_method_2_code
def yX8_monk : MethodName := ⟨RX8, "monk", "(III)I"⟩
abbrev cX8_wear : ByteArray := prog_1_method_3_code
def yX8_wear : MethodName := ⟨RX8, "wear", "(I)I"⟩
abbrev cX8_say : ByteArray := prog_1_method_4_code
def yX8_say : MethodName := ⟨RX8, "say", "(I)I"⟩
abbrev cX8_wipe : ByteArray := prog_1_method_5_code
def yX8_wipe : MethodName := ⟨RX8, "wipe", "()I"⟩
abbrev cX8_fault : ByteArray := prog_1_method_6_code
def yX8_fault : MethodName := ⟨RX8, "fault", "()I"⟩
abbrev cX8_judge : ByteArray := prog_1_method_7_code
def yX8_judge : MethodName := ⟨RX8, "judge", "(I)I"⟩
abbrev cX8_done : ByteArray := prog_1_method_8_code
def yX8_done : MethodName := ⟨RX8, "done", "()I"⟩
abbrev cX8_lock : ByteArray := prog_1_method_9_code
def yX8_lock : MethodName := ⟨RX8, "lock", "(III)I"⟩
abbrev cX8_power : ByteArray := prog_1_method_10_code
def yX8_power : MethodName := ⟨RX8, "power", "(I)I"⟩
abbrev cX8_bears : ByteArray := prog_1_method_11_code
def yX8_bears : MethodName := ⟨RX8, "bears", "()I"⟩
abbrev cX8_broken : ByteArray := prog_1_method_12_code
def yX8_broken : MethodName := ⟨RX8, "broken", "(I)I"⟩
abbrev cX8_share : ByteArray := prog_1_method_13_code
def yX8_share : MethodName := ⟨RX8, "share", "(II)J"⟩
abbrev cX8_led : ByteArray := prog_1_method_14_code
def yX8_led : MethodName := ⟨RX8, "led", "(II)I"⟩
abbrev cX8_load : ByteArray := prog_1_method_15_code
def yX8_load : MethodName := ⟨RX8, "load", "(II)I"⟩
abbrev cX8_drop : ByteArray := prog_1_method_16_code
def yX8_drop : MethodName := ⟨RX8, "drop", "()I"⟩
abbrev cX8_best : ByteArray := prog_1_method_17_code
def yX8_best : MethodName := ⟨RX8, "best", "(I)I"⟩
abbrev cX8_renewed : ByteArray := prog_1_method_18_code
def yX8_renewed : MethodName := ⟨RX8, "renewed", "(III)I"⟩
abbrev cX8_soon : ByteArray := prog_1_method_19_code
def yX8_soon : MethodName := ⟨RX8, "soon", "(IIII)I"⟩
abbrev cX8_weighed : ByteArray := prog_1_method_20_code
def yX8_weighed : MethodName := ⟨RX8, "weighed", "(II)I"⟩
abbrev cX8_forget : ByteArray := prog_1_method_21_code
def yX8_forget : MethodName := ⟨RX8, "forget", "()I"⟩
abbrev cX8_canBe : ByteArray := prog_1_method_22_code
def yX8_canBe : MethodName := ⟨RX8, "canBe", "(I)I"⟩
abbrev cX8_sure : ByteArray := prog_1_method_23_code
def yX8_sure : MethodName := ⟨RX8, "sure", "(I)I"⟩
abbrev cX8_year : ByteArray := prog_1_method_24_code
def yX8_year : MethodName := ⟨RX8, "year", "(III)I"⟩
abbrev cX8_image : ByteArray := prog_1_method_25_code
def yX8_image : MethodName := ⟨RX8, "image", "(I)I"⟩
abbrev cX8_restore : ByteArray := prog_1_method_26_code
def yX8_restore : MethodName := ⟨RX8, "restore", "(I)I"⟩
abbrev cX8_told : ByteArray := prog_1_method_27_code
def yX8_told : MethodName := ⟨RX8, "told", "(I)I"⟩
abbrev cX8_toldOfOne : ByteArray := prog_1_method_28_code
def yX8_toldOfOne : MethodName := ⟨RX8, "toldOfOne", "(I)I"⟩
abbrev cX8_tryText : ByteArray := prog_1_method_29_code
def yX8_tryText : MethodName := ⟨RX8, "tryText", "()I"⟩
abbrev cX8_isIn : ByteArray := prog_1_method_30_code
def yX8_isIn : MethodName := ⟨RX8, "isIn", "(III)Z"⟩
abbrev cX8_commonDivisor : ByteArray := prog_1_method_31_code
def yX8_commonDivisor : MethodName := ⟨RX8, "commonDivisor", "(II)I"⟩
abbrev cX8_greatestLoad : ByteArray := prog_1_method_32_code
def yX8_greatestLoad : MethodName := ⟨RX8, "greatestLoad", "([I)I"⟩
def RX9 : String := "HairBridgeModel"
def TX9 : u_T := fun k => match k with
  | 0 => ("HairBridgeModel", "hair", "[I", true)
  | 1 => ("HairBridgeModel", "strong", "[I", true)
  | 2 => ("HairBridgeModel", "basket", "[I", true)
  | 3 => ("HairBridgeModel", "worn", "[I", true)
  | 4 => ("HairBridgeModel", "lockMonk", "[I", true)
  | 5 => ("HairBridgeModel", "lockInch", "[I", true)
  | 6 => ("HairBridgeModel", "lockWeek", "[I", true)
  | 7 => ("HairBridgeModel", "locks", "[I", true)
  | 8 => ("HairBridgeModel", "wear", "I", false)
  | 9 => ("HairBridgeModel", "week", "I", false)
  | 10 => ("HairBridgeModel", "loadWeight", "[I", true)
  | 11 => ("HairBridgeModel", "loadWorth", "[I", true)
  | 12 => ("HairBridgeModel", "loads", "I", false)
  | 13 => ("HairBridgeModel", "weighSet", "[I", true)
  | 14 => ("HairBridgeModel", "weighIs", "[I", true)
  | 15 => ("HairBridgeModel", "weighings", "I", false)
  | 16 => ("HairBridgeModel", "has", "[I", true)
  | 17 => ("HairBridgeModel", "held", "[I", true)
  | 18 => ("HairBridgeModel", "gone", "[I", true)
  | 19 => ("HairBridgeModel", "monkOf", "[I", true)
  | 20 => ("HairBridgeModel", "inchOf", "[I", true)
  | 21 => ("HairBridgeModel", "weekOf", "[I", true)
  | 22 => ("HairBridgeModel", "many", "[I", true)
  | 23 => ("HairBridgeModel", "now", "I", false)
  | 24 => ("HairBridgeModel", "pad", "[I", true)
  | 25 => ("HairBridgeModel", "padMany", "I", false)
  | 26 => ("HairBridgeModel", "parts", "I", false)
  | 27 => ("HairBridgeModel", "badWhy", "I", false)
  | 28 => ("HairBridgeModel", "order", "[I", true)
  | 29 => ("HairBridgeModel", "way", "[I", true)
  | 30 => ("HairBridgeModel", "bestWay", "[I", true)
  | 31 => ("HairBridgeModel", "woven", "I", false)
  | 32 => ("HairBridgeModel", "alike", "[I", true)
  | 33 => ("HairBridgeModel", "kept", "[I", true)
  | 34 => ("HairBridgeModel", "isKept", "[Z", true)
  | 35 => ("HairBridgeModel", "keptAt", "I", false)
  | _ => ("HairBridgeModel", "isWriting", "Z", false)
def tyX9 : Nat → FieldType := fun k => match k with
  | 0 => .array .int
  | 1 => .array .int
  | 2 => .array .int
  | 3 => .array .int
  | 4 => .array .int
  | 5 => .array .int
  | 6 => .array .int
  | 7 => .array .int
  | 8 => .int
  | 9 => .int
  | 10 => .array .int
  | 11 => .array .int
  | 12 => .int
  | 13 => .array .int
  | 14 => .array .int
  | 15 => .int
  | 16 => .array .int
  | 17 => .array .int
  | 18 => .array .int
  | 19 => .array .int
  | 20 => .array .int
  | 21 => .array .int
  | 22 => .array .int
  | 23 => .int
  | 24 => .array .int
  | 25 => .int
  | 26 => .int
  | 27 => .int
  | 28 => .array .int
  | 29 => .array .int
  | 30 => .array .int
  | 31 => .int
  | 32 => .array .int
  | 33 => .array .int
  | 34 => .array .boolean
  | 35 => .int
  | _ => .boolean
abbrev wsX90 : List Cond := u_ws RX9 TX9 37
theorem nmX9 : ∀ a, a < 37 → ∀ b, b < 37 → a ≠ b → (TX9 a).2.1 ≠ (TX9 b).2.1 := by decide +kernel
theorem tyX9_ok : ∀ k, k < 37 → parseFieldDescriptor (TX9 k).2.2.1 = some (tyX9 k) := by decide +kernel
abbrev cX9_init : ByteArray := prog_11_method_1_code
def yX9_init : MethodName := ⟨RX9, "<init>", "()V"⟩
abbrev cX9_in : ByteArray := prog_11_method_3_code
def yX9_in : MethodName := ⟨RX9, "in", "(JJJ)Z"⟩
abbrev cX9_isMonk : ByteArray := prog_11_method_4_code
def yX9_isMonk : MethodName := ⟨RX9, "isMonk", "(I)Z"⟩
abbrev cX9_isRope : ByteArray := prog_11_method_5_code
def yX9_isRope : MethodName := ⟨RX9, "isRope", "(I)Z"⟩
abbrev cX9_layNow : ByteArray := prog_11_method_6_code
def yX9_layNow : MethodName := ⟨RX9, "layNow", "()V"⟩
abbrev cX9_keepTried : ByteArray := prog_11_method_7_code
def yX9_keepTried : MethodName := ⟨RX9, "keepTried", "()V"⟩
abbrev cX9_dropFirst : ByteArray := prog_11_method_8_code
def yX9_dropFirst : MethodName := ⟨RX9, "dropFirst", "(I)V"⟩
abbrev cX9_lose : ByteArray := prog_11_method_9_code
def yX9_lose : MethodName := ⟨RX9, "lose", "(I)V"⟩
abbrev cX9_goWeek : ByteArray := prog_11_method_10_code
def yX9_goWeek : MethodName := ⟨RX9, "goWeek", "()V"⟩
abbrev cX9_weave : ByteArray := prog_11_method_11_code
def yX9_weave : MethodName := ⟨RX9, "weave", "(II)V"⟩
abbrev cX9_powerOf : ByteArray := prog_11_method_12_code
def yX9_powerOf : MethodName := ⟨RX9, "powerOf", "(I)I"⟩
abbrev cX9_borne : ByteArray := prog_11_method_13_code
def yX9_borne : MethodName := ⟨RX9, "borne", "()I"⟩
abbrev cX9_monk : ByteArray := prog_11_method_14_code
def yX9_monk : MethodName := ⟨RX9, "monk", "(III)I"⟩
abbrev cX9_wear : ByteArray := prog_11_method_15_code
def yX9_wear : MethodName := ⟨RX9, "wear", "(I)I"⟩
abbrev cX9_say : ByteArray := prog_11_method_16_code
def yX9_say : MethodName := ⟨RX9, "say", "(I)I"⟩
abbrev cX9_wipe : ByteArray := prog_11_method_17_code
def yX9_wipe : MethodName := ⟨RX9, "wipe", "()I"⟩
abbrev cX9_fault : ByteArray := prog_11_method_18_code
def yX9_fault : MethodName := ⟨RX9, "fault", "()I"⟩
abbrev cX9_whyNoMore : ByteArray := prog_11_method_19_code
def yX9_whyNoMore : MethodName := ⟨RX9, "whyNoMore", "(II)I"⟩
abbrev cX9_whyNoLock : ByteArray := prog_11_method_20_code
def yX9_whyNoLock : MethodName := ⟨RX9, "whyNoLock", "(II)I"⟩
abbrev cX9_does : ByteArray := prog_11_method_21_code
def yX9_does : MethodName := ⟨RX9, "does", "(I)I"⟩
abbrev cX9_goText : ByteArray := prog_11_method_22_code
def yX9_goText : MethodName := ⟨RX9, "goText", "()Z"⟩
abbrev cX9_judge : ByteArray := prog_11_method_23_code
def yX9_judge : MethodName := ⟨RX9, "judge", "(I)I"⟩
abbrev cX9_done : ByteArray := prog_11_method_24_code
def yX9_done : MethodName := ⟨RX9, "done", "()I"⟩
abbrev cX9_lock : ByteArray := prog_11_method_25_code
def yX9_lock : MethodName := ⟨RX9, "lock", "(III)I"⟩
abbrev cX9_power : ByteArray := prog_11_method_26_code
def yX9_power : MethodName := ⟨RX9, "power", "(I)I"⟩
abbrev cX9_bears : ByteArray := prog_11_method_27_code
def yX9_bears : MethodName := ⟨RX9, "bears", "()I"⟩
abbrev cX9_ones : ByteArray := prog_11_method_28_code
def yX9_ones : MethodName := ⟨RX9, "ones", "(I)I"⟩
abbrev cX9_broken : ByteArray := prog_11_method_29_code
def yX9_broken : MethodName := ⟨RX9, "broken", "(I)I"⟩
abbrev cX9_share : ByteArray := prog_11_method_30_code
def yX9_share : MethodName := ⟨RX9, "share", "(II)J"⟩
abbrev cX9_inchesOf : ByteArray := prog_11_method_31_code
def yX9_inchesOf : MethodName := ⟨RX9, "inchesOf", "(II)I"⟩
abbrev cX9_led : ByteArray := prog_11_method_32_code
def yX9_led : MethodName := ⟨RX9, "led", "(II)I"⟩
abbrev cX9_load : ByteArray := prog_11_method_33_code
def yX9_load : MethodName := ⟨RX9, "load", "(II)I"⟩
abbrev cX9_drop : ByteArray := prog_11_method_34_code
def yX9_drop : MethodName := ⟨RX9, "drop", "()I"⟩
abbrev cX9_layOrder : ByteArray := prog_11_method_35_code
def yX9_layOrder : MethodName := ⟨RX9, "layOrder", "(I)Z"⟩
abbrev cX9_worthOfOrder : ByteArray := prog_11_method_36_code
def yX9_worthOfOrder : MethodName := ⟨RX9, "worthOfOrder", "()I"⟩
abbrev cX9_best : ByteArray := prog_11_method_37_code
def yX9_best : MethodName := ⟨RX9, "best", "(I)I"⟩
abbrev cX9_badWeek : ByteArray := prog_11_method_38_code
def yX9_badWeek : MethodName := ⟨RX9, "badWeek", "(III)I"⟩
abbrev cX9_renewed : ByteArray := prog_11_method_39_code
def yX9_renewed : MethodName := ⟨RX9, "renewed", "(III)I"⟩
abbrev cX9_sinAll : ByteArray := prog_11_method_40_code
def yX9_sinAll : MethodName := ⟨RX9, "sinAll", "(III)V"⟩
abbrev cX9_soon : ByteArray := prog_11_method_41_code
def yX9_soon : MethodName := ⟨RX9, "soon", "(IIII)I"⟩
abbrev cX9_weighed : ByteArray := prog_11_method_42_code
def yX9_weighed : MethodName := ⟨RX9, "weighed", "(II)I"⟩
abbrev cX9_forget : ByteArray := prog_11_method_43_code
def yX9_forget : MethodName := ⟨RX9, "forget", "()I"⟩
abbrev cX9_weightOf : ByteArray := prog_11_method_44_code
def yX9_weightOf : MethodName := ⟨RX9, "weightOf", "(II)I"⟩
abbrev cX9_fits : ByteArray := prog_11_method_45_code
def yX9_fits : MethodName := ⟨RX9, "fits", "(I)Z"⟩
abbrev cX9_canBe : ByteArray := prog_11_method_46_code
def yX9_canBe : MethodName := ⟨RX9, "canBe", "(I)I"⟩
abbrev cX9_alikeBy : ByteArray := prog_11_method_47_code
def yX9_alikeBy : MethodName := ⟨RX9, "alikeBy", "(I)I"⟩
abbrev cX9_ask : ByteArray := prog_11_method_48_code
def yX9_ask : MethodName := ⟨RX9, "ask", "()I"⟩
abbrev cX9_sure : ByteArray := prog_11_method_49_code
def yX9_sure : MethodName := ⟨RX9, "sure", "(I)I"⟩
abbrev cX9_doesBy : ByteArray := prog_11_method_50_code
def yX9_doesBy : MethodName := ⟨RX9, "doesBy", "(II)V"⟩
abbrev cX9_year : ByteArray := prog_11_method_51_code
def yX9_year : MethodName := ⟨RX9, "year", "(III)I"⟩
abbrev cX9_pass : ByteArray := prog_11_method_52_code
def yX9_pass : MethodName := ⟨RX9, "pass", "(I)I"⟩
abbrev cX9_passAll : ByteArray := prog_11_method_53_code
def yX9_passAll : MethodName := ⟨RX9, "passAll", "()V"⟩
abbrev cX9_image : ByteArray := prog_11_method_54_code
def yX9_image : MethodName := ⟨RX9, "image", "(I)I"⟩
abbrev cX9_restore : ByteArray := prog_11_method_55_code
def yX9_restore : MethodName := ⟨RX9, "restore", "(I)I"⟩
abbrev cX9_told : ByteArray := prog_11_method_56_code
def yX9_told : MethodName := ⟨RX9, "told", "(I)I"⟩
def RJ6 : String := "java/lang/Integer"
def TJ6 : u_T := fun k => match k with
  | _ => ("", "", "", false)
def tyJ6 : Nat → FieldType := fun k => match k with
  | _ => .int
abbrev wsJ60 : List Cond := u_ws RJ6 TJ6 0
theorem nmJ6 : ∀ a, a < 0 → ∀ b, b < 0 → a ≠ b → (TJ6 a).2.1 ≠ (TJ6 b).2.1 := by decide +kernel
theorem tyJ6_ok : ∀ k, k < 0 → parseFieldDescriptor (TJ6 k).2.2.1 = some (tyJ6 k) := by decide +kernel
abbrev cJ6_numberOfTrailingZeros_0f7a4 : ByteArray := prog_12_method_48_code
def yJ6_numberOfTrailingZeros_0f7a4 : MethodName := ⟨RJ6, "numberOfTrailingZeros", "(I)I"⟩
abbrev cJ6_bitCount_0f7a4 : ByteArray := prog_12_method_49_code
def yJ6_bitCount_0f7a4 : MethodName := ⟨RJ6, "bitCount", "(I)I"⟩
def RJ9 : String := "java/lang/Math"
def TJ9 : u_T := fun k => match k with
  | _ => ("", "", "", false)
def tyJ9 : Nat → FieldType := fun k => match k with
  | _ => .int
abbrev wsJ90 : List Cond := u_ws RJ9 TJ9 0
theorem nmJ9 : ∀ a, a < 0 → ∀ b, b < 0 → a ≠ b → (TJ9 a).2.1 ≠ (TJ9 b).2.1 := by decide +kernel
theorem tyJ9_ok : ∀ k, k < 0 → parseFieldDescriptor (TJ9 k).2.2.1 = some (tyJ9 k) := by decide +kernel
abbrev cJ9_max_7cf53 : ByteArray := prog_13_method_65_code
def yJ9_max_7cf53 : MethodName := ⟨RJ9, "max", "(II)I"⟩
abbrev cJ9_min_7cf53 : ByteArray := prog_13_method_69_code
def yJ9_min_7cf53 : MethodName := ⟨RJ9, "min", "(II)I"⟩
def RJ10 : String := "java/lang/System"
def TJ10 : u_T := fun k => match k with
  | _ => ("", "", "", false)
def tyJ10 : Nat → FieldType := fun k => match k with
  | _ => .int
abbrev wsJ100 : List Cond := u_ws RJ10 TJ10 0
theorem nmJ10 : ∀ a, a < 0 → ∀ b, b < 0 → a ≠ b → (TJ10 a).2.1 ≠ (TJ10 b).2.1 := by decide +kernel
theorem tyJ10_ok : ∀ k, k < 0 → parseFieldDescriptor (TJ10 k).2.2.1 = some (tyJ10 k) := by decide +kernel
def RJ7 : String := "java/util/Arrays"
def TJ7 : u_T := fun k => match k with
  | _ => ("", "", "", false)
def tyJ7 : Nat → FieldType := fun k => match k with
  | _ => .int
abbrev wsJ70 : List Cond := u_ws RJ7 TJ7 0
theorem nmJ7 : ∀ a, a < 0 → ∀ b, b < 0 → a ≠ b → (TJ7 a).2.1 ≠ (TJ7 b).2.1 := by decide +kernel
theorem tyJ7_ok : ∀ k, k < 0 → parseFieldDescriptor (TJ7 k).2.2.1 = some (tyJ7 k) := by decide +kernel
abbrev cJ7_fill_53178 : ByteArray := prog_15_method_103_code
def yJ7_fill_53178 : MethodName := ⟨RJ7, "fill", "([II)V"⟩
def RL : String := "HairBridgeLaw"
abbrev cL_law : ByteArray := code
def yL_law : MethodName := ⟨RL, "law", "([I)Z"⟩
abbrev vwCl : List vw_C := [(RX0, TX0, 8), (RX1, TX1, 4), (RX2, TX2, 2), (RX3, TX3, 3), (RX4, TX4, 9), (RX5, TX5, 4), (RX6, TX6, 3), (RX7, TX7, 4), (RX8, TX8, 8), (RX9, TX9, 37)]
set_option maxRecDepth 100000 in
theorem inX0 : ∀ w ∈ u_ws RX0 TX0 8, w ∈ lw_tbl := by decide +kernel
set_option maxRecDepth 100000 in
theorem inX1 : ∀ w ∈ u_ws RX1 TX1 4, w ∈ lw_tbl := by decide +kernel
set_option maxRecDepth 100000 in
theorem inX2 : ∀ w ∈ u_ws RX2 TX2 2, w ∈ lw_tbl := by decide +kernel
set_option maxRecDepth 100000 in
theorem inX3 : ∀ w ∈ u_ws RX3 TX3 3, w ∈ lw_tbl := by decide +kernel
set_option maxRecDepth 100000 in
theorem inX4 : ∀ w ∈ u_ws RX4 TX4 9, w ∈ lw_tbl := by decide +kernel
set_option maxRecDepth 100000 in
theorem inX5 : ∀ w ∈ u_ws RX5 TX5 4, w ∈ lw_tbl := by decide +kernel
set_option maxRecDepth 100000 in
theorem inX6 : ∀ w ∈ u_ws RX6 TX6 3, w ∈ lw_tbl := by decide +kernel
set_option maxRecDepth 100000 in
theorem inX7 : ∀ w ∈ u_ws RX7 TX7 4, w ∈ lw_tbl := by decide +kernel
set_option maxRecDepth 100000 in
theorem inX8 : ∀ w ∈ u_ws RX8 TX8 8, w ∈ lw_tbl := by decide +kernel
set_option maxRecDepth 100000 in
theorem inX9 : ∀ w ∈ u_ws RX9 TX9 37, w ∈ lw_tbl := by decide +kernel
