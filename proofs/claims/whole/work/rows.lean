section
-- ===== PART A: goes FIRST, ahead of the names: the tables' words, and 'selects' of the private methods out of them =====
/-- a private method of a class that the tables say can be made, by its rows of tables_1 -/
def lw_okq (q : MethodName × Nat) : Prop := (q.1.cls ≠ "java/lang/invoke/MethodHandle" ∧ q.1.cls ≠ "java/lang/invoke/VarHandle") ∧ Cond.instantiable q.1.cls q.2 ∈ tables_1 ∧ Cond.privateMethod q.1 ∈ tables_1 ∧ Cond.instanceMethod q.1 ∈ tables_1
theorem lw_p0 : lw_okq (⟨"HairBridge", "tryText", "()I"⟩, 8) := ⟨⟨by decide +kernel, by decide +kernel⟩, List.mem_of_getElem? (i := 16) (by decide +kernel), List.mem_of_getElem? (i := 303) (by decide +kernel), List.mem_of_getElem? (i := 304) (by decide +kernel)⟩
theorem lw_p1 : lw_okq (⟨"HairBridge$Pad", "doPart", "(LHairBridge$Abbey;II)I"⟩, 2) := ⟨⟨by decide +kernel, by decide +kernel⟩, List.mem_of_getElem? (i := 24) (by decide +kernel), List.mem_of_getElem? (i := 323) (by decide +kernel), List.mem_of_getElem? (i := 324) (by decide +kernel)⟩
theorem lw_p2 : lw_okq (⟨"HairBridge$Rope", "dropOldest", "(I)V"⟩, 4) := ⟨⟨by decide +kernel, by decide +kernel⟩, List.mem_of_getElem? (i := 55) (by decide +kernel), List.mem_of_getElem? (i := 335) (by decide +kernel), List.mem_of_getElem? (i := 336) (by decide +kernel)⟩
theorem lw_p3 : lw_okq (⟨"HairBridge$Abbey", "breaking", "(II)I"⟩, 8) := ⟨⟨by decide +kernel, by decide +kernel⟩, List.mem_of_getElem? (i := 45) (by decide +kernel), List.mem_of_getElem? (i := 409) (by decide +kernel), List.mem_of_getElem? (i := 410) (by decide +kernel)⟩
theorem lw_p4 : lw_okq (⟨"HairBridge$Crossing", "mostFrom", "(II)I"⟩, 4) := ⟨⟨by decide +kernel, by decide +kernel⟩, List.mem_of_getElem? (i := 153) (by decide +kernel), List.mem_of_getElem? (i := 477) (by decide +kernel), List.mem_of_getElem? (i := 478) (by decide +kernel)⟩
theorem lw_p5 : lw_okq (⟨"HairBridge$Crossing", "worthBy", "(III)I"⟩, 4) := ⟨⟨by decide +kernel, by decide +kernel⟩, List.mem_of_getElem? (i := 153) (by decide +kernel), List.mem_of_getElem? (i := 481) (by decide +kernel), List.mem_of_getElem? (i := 482) (by decide +kernel)⟩
theorem lw_p6 : lw_okq (⟨"HairBridge$Crossing", "crosses", "(II)Z"⟩, 4) := ⟨⟨by decide +kernel, by decide +kernel⟩, List.mem_of_getElem? (i := 153) (by decide +kernel), List.mem_of_getElem? (i := 485) (by decide +kernel), List.mem_of_getElem? (i := 486) (by decide +kernel)⟩
theorem lw_p7 : lw_okq (⟨"HairBridge$Crossing", "findOrder", "()V"⟩, 4) := ⟨⟨by decide +kernel, by decide +kernel⟩, List.mem_of_getElem? (i := 153) (by decide +kernel), List.mem_of_getElem? (i := 490) (by decide +kernel), List.mem_of_getElem? (i := 491) (by decide +kernel)⟩
theorem lw_p8 : lw_okq (⟨"HairBridge$Crossing", "firstBest", "(II)I"⟩, 4) := ⟨⟨by decide +kernel, by decide +kernel⟩, List.mem_of_getElem? (i := 153) (by decide +kernel), List.mem_of_getElem? (i := 494) (by decide +kernel), List.mem_of_getElem? (i := 495) (by decide +kernel)⟩
theorem lw_p9 : lw_okq (⟨"HairBridge$Renewal", "sortByBasket", "(LHairBridge$Abbey;)V"⟩, 9) := ⟨⟨by decide +kernel, by decide +kernel⟩, List.mem_of_getElem? (i := 175) (by decide +kernel), List.mem_of_getElem? (i := 515) (by decide +kernel), List.mem_of_getElem? (i := 516) (by decide +kernel)⟩
theorem lw_p10 : lw_okq (⟨"HairBridge$Renewal", "tryFrom", "(II)V"⟩, 9) := ⟨⟨by decide +kernel, by decide +kernel⟩, List.mem_of_getElem? (i := 175) (by decide +kernel), List.mem_of_getElem? (i := 523) (by decide +kernel), List.mem_of_getElem? (i := 524) (by decide +kernel)⟩
theorem lw_p11 : lw_okq (⟨"HairBridge$Renewal", "isHopeless", "(I)Z"⟩, 9) := ⟨⟨by decide +kernel, by decide +kernel⟩, List.mem_of_getElem? (i := 175) (by decide +kernel), List.mem_of_getElem? (i := 528) (by decide +kernel), List.mem_of_getElem? (i := 529) (by decide +kernel)⟩
theorem lw_p12 : lw_okq (⟨"HairBridge$Renewal", "foresee", "(I)V"⟩, 9) := ⟨⟨by decide +kernel, by decide +kernel⟩, List.mem_of_getElem? (i := 175) (by decide +kernel), List.mem_of_getElem? (i := 533) (by decide +kernel), List.mem_of_getElem? (i := 534) (by decide +kernel)⟩
theorem lw_p13 : lw_okq (⟨"HairBridge$Renewal", "tryStep", "(IIII)V"⟩, 9) := ⟨⟨by decide +kernel, by decide +kernel⟩, List.mem_of_getElem? (i := 175) (by decide +kernel), List.mem_of_getElem? (i := 542) (by decide +kernel), List.mem_of_getElem? (i := 543) (by decide +kernel)⟩
theorem lw_p14 : lw_okq (⟨"HairBridge$Renewal", "holdsBehind", "(III)Z"⟩, 9) := ⟨⟨by decide +kernel, by decide +kernel⟩, List.mem_of_getElem? (i := 175) (by decide +kernel), List.mem_of_getElem? (i := 546) (by decide +kernel), List.mem_of_getElem? (i := 547) (by decide +kernel)⟩
theorem lw_p15 : lw_okq (⟨"HairBridge$Wigs", "fits", "(ILHairBridge$Pairs;)Z"⟩, 4) := ⟨⟨by decide +kernel, by decide +kernel⟩, List.mem_of_getElem? (i := 214) (by decide +kernel), List.mem_of_getElem? (i := 589) (by decide +kernel), List.mem_of_getElem? (i := 590) (by decide +kernel)⟩
def lw_privs_1 : List (MethodName × Nat) := [(⟨"HairBridge", "tryText", "()I"⟩, 8), (⟨"HairBridge$Pad", "doPart", "(LHairBridge$Abbey;II)I"⟩, 2), (⟨"HairBridge$Rope", "dropOldest", "(I)V"⟩, 4), (⟨"HairBridge$Abbey", "breaking", "(II)I"⟩, 8), (⟨"HairBridge$Crossing", "mostFrom", "(II)I"⟩, 4), (⟨"HairBridge$Crossing", "worthBy", "(III)I"⟩, 4), (⟨"HairBridge$Crossing", "crosses", "(II)Z"⟩, 4), (⟨"HairBridge$Crossing", "findOrder", "()V"⟩, 4), (⟨"HairBridge$Crossing", "firstBest", "(II)I"⟩, 4), (⟨"HairBridge$Renewal", "sortByBasket", "(LHairBridge$Abbey;)V"⟩, 9), (⟨"HairBridge$Renewal", "tryFrom", "(II)V"⟩, 9), (⟨"HairBridge$Renewal", "isHopeless", "(I)Z"⟩, 9), (⟨"HairBridge$Renewal", "foresee", "(I)V"⟩, 9), (⟨"HairBridge$Renewal", "tryStep", "(IIII)V"⟩, 9), (⟨"HairBridge$Renewal", "holdsBehind", "(III)Z"⟩, 9), (⟨"HairBridge$Wigs", "fits", "(ILHairBridge$Pairs;)Z"⟩, 4)]
theorem lw_r1 : ∀ q ∈ lw_privs_1, lw_okq q := List.forall_mem_cons.mpr ⟨lw_p0, List.forall_mem_cons.mpr ⟨lw_p1, List.forall_mem_cons.mpr ⟨lw_p2, List.forall_mem_cons.mpr ⟨lw_p3, List.forall_mem_cons.mpr ⟨lw_p4, List.forall_mem_cons.mpr ⟨lw_p5, List.forall_mem_cons.mpr ⟨lw_p6, List.forall_mem_cons.mpr ⟨lw_p7, List.forall_mem_cons.mpr ⟨lw_p8, List.forall_mem_cons.mpr ⟨lw_p9, List.forall_mem_cons.mpr ⟨lw_p10, List.forall_mem_cons.mpr ⟨lw_p11, List.forall_mem_cons.mpr ⟨lw_p12, List.forall_mem_cons.mpr ⟨lw_p13, List.forall_mem_cons.mpr ⟨lw_p14, List.forall_mem_cons.mpr ⟨lw_p15, fun _ h => absurd h List.not_mem_nil⟩⟩⟩⟩⟩⟩⟩⟩⟩⟩⟩⟩⟩⟩⟩⟩
theorem lw_p16 : lw_okq (⟨"HairBridge$Wigs", "mostAlike", "(I)I"⟩, 4) := ⟨⟨by decide +kernel, by decide +kernel⟩, List.mem_of_getElem? (i := 214) (by decide +kernel), List.mem_of_getElem? (i := 609) (by decide +kernel), List.mem_of_getElem? (i := 610) (by decide +kernel)⟩
theorem lw_p17 : lw_okq (⟨"HairBridge", "toldOfOne", "(I)I"⟩, 8) := ⟨⟨by decide +kernel, by decide +kernel⟩, List.mem_of_getElem? (i := 16) (by decide +kernel), List.mem_of_getElem? (i := 645) (by decide +kernel), List.mem_of_getElem? (i := 646) (by decide +kernel)⟩
theorem lw_p18 : lw_okq (⟨"HairBridgeModel", "goText", "()Z"⟩, 37) := ⟨⟨by decide +kernel, by decide +kernel⟩, List.mem_of_getElem? (i := 649) (by decide +kernel), List.mem_of_getElem? (i := 809) (by decide +kernel), List.mem_of_getElem? (i := 810) (by decide +kernel)⟩
theorem lw_p19 : lw_okq (⟨"HairBridgeModel", "layNow", "()V"⟩, 37) := ⟨⟨by decide +kernel, by decide +kernel⟩, List.mem_of_getElem? (i := 649) (by decide +kernel), List.mem_of_getElem? (i := 813) (by decide +kernel), List.mem_of_getElem? (i := 814) (by decide +kernel)⟩
theorem lw_p20 : lw_okq (⟨"HairBridgeModel", "does", "(I)I"⟩, 37) := ⟨⟨by decide +kernel, by decide +kernel⟩, List.mem_of_getElem? (i := 649) (by decide +kernel), List.mem_of_getElem? (i := 817) (by decide +kernel), List.mem_of_getElem? (i := 818) (by decide +kernel)⟩
theorem lw_p21 : lw_okq (⟨"HairBridgeModel", "goWeek", "()V"⟩, 37) := ⟨⟨by decide +kernel, by decide +kernel⟩, List.mem_of_getElem? (i := 649) (by decide +kernel), List.mem_of_getElem? (i := 821) (by decide +kernel), List.mem_of_getElem? (i := 822) (by decide +kernel)⟩
theorem lw_p22 : lw_okq (⟨"HairBridgeModel", "lose", "(I)V"⟩, 37) := ⟨⟨by decide +kernel, by decide +kernel⟩, List.mem_of_getElem? (i := 649) (by decide +kernel), List.mem_of_getElem? (i := 825) (by decide +kernel), List.mem_of_getElem? (i := 826) (by decide +kernel)⟩
theorem lw_p23 : lw_okq (⟨"HairBridgeModel", "dropFirst", "(I)V"⟩, 37) := ⟨⟨by decide +kernel, by decide +kernel⟩, List.mem_of_getElem? (i := 649) (by decide +kernel), List.mem_of_getElem? (i := 829) (by decide +kernel), List.mem_of_getElem? (i := 830) (by decide +kernel)⟩
theorem lw_p24 : lw_okq (⟨"HairBridgeModel", "whyNoMore", "(II)I"⟩, 37) := ⟨⟨by decide +kernel, by decide +kernel⟩, List.mem_of_getElem? (i := 649) (by decide +kernel), List.mem_of_getElem? (i := 833) (by decide +kernel), List.mem_of_getElem? (i := 834) (by decide +kernel)⟩
theorem lw_p25 : lw_okq (⟨"HairBridgeModel", "whyNoLock", "(II)I"⟩, 37) := ⟨⟨by decide +kernel, by decide +kernel⟩, List.mem_of_getElem? (i := 649) (by decide +kernel), List.mem_of_getElem? (i := 837) (by decide +kernel), List.mem_of_getElem? (i := 838) (by decide +kernel)⟩
theorem lw_p26 : lw_okq (⟨"HairBridgeModel", "weave", "(II)V"⟩, 37) := ⟨⟨by decide +kernel, by decide +kernel⟩, List.mem_of_getElem? (i := 649) (by decide +kernel), List.mem_of_getElem? (i := 841) (by decide +kernel), List.mem_of_getElem? (i := 842) (by decide +kernel)⟩
theorem lw_p27 : lw_okq (⟨"HairBridgeModel", "keepTried", "()V"⟩, 37) := ⟨⟨by decide +kernel, by decide +kernel⟩, List.mem_of_getElem? (i := 649) (by decide +kernel), List.mem_of_getElem? (i := 849) (by decide +kernel), List.mem_of_getElem? (i := 850) (by decide +kernel)⟩
theorem lw_p28 : lw_okq (⟨"HairBridgeModel", "powerOf", "(I)I"⟩, 37) := ⟨⟨by decide +kernel, by decide +kernel⟩, List.mem_of_getElem? (i := 649) (by decide +kernel), List.mem_of_getElem? (i := 865) (by decide +kernel), List.mem_of_getElem? (i := 866) (by decide +kernel)⟩
theorem lw_p29 : lw_okq (⟨"HairBridgeModel", "borne", "()I"⟩, 37) := ⟨⟨by decide +kernel, by decide +kernel⟩, List.mem_of_getElem? (i := 649) (by decide +kernel), List.mem_of_getElem? (i := 873) (by decide +kernel), List.mem_of_getElem? (i := 874) (by decide +kernel)⟩
theorem lw_p30 : lw_okq (⟨"HairBridgeModel", "inchesOf", "(II)I"⟩, 37) := ⟨⟨by decide +kernel, by decide +kernel⟩, List.mem_of_getElem? (i := 649) (by decide +kernel), List.mem_of_getElem? (i := 891) (by decide +kernel), List.mem_of_getElem? (i := 892) (by decide +kernel)⟩
theorem lw_p31 : lw_okq (⟨"HairBridgeModel", "layOrder", "(I)Z"⟩, 37) := ⟨⟨by decide +kernel, by decide +kernel⟩, List.mem_of_getElem? (i := 649) (by decide +kernel), List.mem_of_getElem? (i := 914) (by decide +kernel), List.mem_of_getElem? (i := 915) (by decide +kernel)⟩
def lw_privs_2 : List (MethodName × Nat) := [(⟨"HairBridge$Wigs", "mostAlike", "(I)I"⟩, 4), (⟨"HairBridge", "toldOfOne", "(I)I"⟩, 8), (⟨"HairBridgeModel", "goText", "()Z"⟩, 37), (⟨"HairBridgeModel", "layNow", "()V"⟩, 37), (⟨"HairBridgeModel", "does", "(I)I"⟩, 37), (⟨"HairBridgeModel", "goWeek", "()V"⟩, 37), (⟨"HairBridgeModel", "lose", "(I)V"⟩, 37), (⟨"HairBridgeModel", "dropFirst", "(I)V"⟩, 37), (⟨"HairBridgeModel", "whyNoMore", "(II)I"⟩, 37), (⟨"HairBridgeModel", "whyNoLock", "(II)I"⟩, 37), (⟨"HairBridgeModel", "weave", "(II)V"⟩, 37), (⟨"HairBridgeModel", "keepTried", "()V"⟩, 37), (⟨"HairBridgeModel", "powerOf", "(I)I"⟩, 37), (⟨"HairBridgeModel", "borne", "()I"⟩, 37), (⟨"HairBridgeModel", "inchesOf", "(II)I"⟩, 37), (⟨"HairBridgeModel", "layOrder", "(I)Z"⟩, 37)]
theorem lw_r2 : ∀ q ∈ lw_privs_2, lw_okq q := List.forall_mem_cons.mpr ⟨lw_p16, List.forall_mem_cons.mpr ⟨lw_p17, List.forall_mem_cons.mpr ⟨lw_p18, List.forall_mem_cons.mpr ⟨lw_p19, List.forall_mem_cons.mpr ⟨lw_p20, List.forall_mem_cons.mpr ⟨lw_p21, List.forall_mem_cons.mpr ⟨lw_p22, List.forall_mem_cons.mpr ⟨lw_p23, List.forall_mem_cons.mpr ⟨lw_p24, List.forall_mem_cons.mpr ⟨lw_p25, List.forall_mem_cons.mpr ⟨lw_p26, List.forall_mem_cons.mpr ⟨lw_p27, List.forall_mem_cons.mpr ⟨lw_p28, List.forall_mem_cons.mpr ⟨lw_p29, List.forall_mem_cons.mpr ⟨lw_p30, List.forall_mem_cons.mpr ⟨lw_p31, fun _ h => absurd h List.not_mem_nil⟩⟩⟩⟩⟩⟩⟩⟩⟩⟩⟩⟩⟩⟩⟩⟩
theorem lw_p32 : lw_okq (⟨"HairBridgeModel", "worthOfOrder", "()I"⟩, 37) := ⟨⟨by decide +kernel, by decide +kernel⟩, List.mem_of_getElem? (i := 649) (by decide +kernel), List.mem_of_getElem? (i := 918) (by decide +kernel), List.mem_of_getElem? (i := 919) (by decide +kernel)⟩
theorem lw_p33 : lw_okq (⟨"HairBridgeModel", "badWeek", "(III)I"⟩, 37) := ⟨⟨by decide +kernel, by decide +kernel⟩, List.mem_of_getElem? (i := 649) (by decide +kernel), List.mem_of_getElem? (i := 928) (by decide +kernel), List.mem_of_getElem? (i := 929) (by decide +kernel)⟩
theorem lw_p34 : lw_okq (⟨"HairBridgeModel", "sinAll", "(III)V"⟩, 37) := ⟨⟨by decide +kernel, by decide +kernel⟩, List.mem_of_getElem? (i := 649) (by decide +kernel), List.mem_of_getElem? (i := 937) (by decide +kernel), List.mem_of_getElem? (i := 938) (by decide +kernel)⟩
theorem lw_p35 : lw_okq (⟨"HairBridgeModel", "fits", "(I)Z"⟩, 37) := ⟨⟨by decide +kernel, by decide +kernel⟩, List.mem_of_getElem? (i := 649) (by decide +kernel), List.mem_of_getElem? (i := 954) (by decide +kernel), List.mem_of_getElem? (i := 955) (by decide +kernel)⟩
theorem lw_p36 : lw_okq (⟨"HairBridgeModel", "weightOf", "(II)I"⟩, 37) := ⟨⟨by decide +kernel, by decide +kernel⟩, List.mem_of_getElem? (i := 649) (by decide +kernel), List.mem_of_getElem? (i := 958) (by decide +kernel), List.mem_of_getElem? (i := 959) (by decide +kernel)⟩
theorem lw_p37 : lw_okq (⟨"HairBridgeModel", "ask", "()I"⟩, 37) := ⟨⟨by decide +kernel, by decide +kernel⟩, List.mem_of_getElem? (i := 649) (by decide +kernel), List.mem_of_getElem? (i := 967) (by decide +kernel), List.mem_of_getElem? (i := 968) (by decide +kernel)⟩
theorem lw_p38 : lw_okq (⟨"HairBridgeModel", "alikeBy", "(I)I"⟩, 37) := ⟨⟨by decide +kernel, by decide +kernel⟩, List.mem_of_getElem? (i := 649) (by decide +kernel), List.mem_of_getElem? (i := 971) (by decide +kernel), List.mem_of_getElem? (i := 972) (by decide +kernel)⟩
theorem lw_p39 : lw_okq (⟨"HairBridgeModel", "doesBy", "(II)V"⟩, 37) := ⟨⟨by decide +kernel, by decide +kernel⟩, List.mem_of_getElem? (i := 649) (by decide +kernel), List.mem_of_getElem? (i := 983) (by decide +kernel), List.mem_of_getElem? (i := 984) (by decide +kernel)⟩
theorem lw_p40 : lw_okq (⟨"HairBridgeModel", "passAll", "()V"⟩, 37) := ⟨⟨by decide +kernel, by decide +kernel⟩, List.mem_of_getElem? (i := 649) (by decide +kernel), List.mem_of_getElem? (i := 991) (by decide +kernel), List.mem_of_getElem? (i := 992) (by decide +kernel)⟩
theorem lw_p41 : lw_okq (⟨"HairBridgeModel", "pass", "(I)I"⟩, 37) := ⟨⟨by decide +kernel, by decide +kernel⟩, List.mem_of_getElem? (i := 649) (by decide +kernel), List.mem_of_getElem? (i := 995) (by decide +kernel), List.mem_of_getElem? (i := 996) (by decide +kernel)⟩
def lw_privs_3 : List (MethodName × Nat) := [(⟨"HairBridgeModel", "worthOfOrder", "()I"⟩, 37), (⟨"HairBridgeModel", "badWeek", "(III)I"⟩, 37), (⟨"HairBridgeModel", "sinAll", "(III)V"⟩, 37), (⟨"HairBridgeModel", "fits", "(I)Z"⟩, 37), (⟨"HairBridgeModel", "weightOf", "(II)I"⟩, 37), (⟨"HairBridgeModel", "ask", "()I"⟩, 37), (⟨"HairBridgeModel", "alikeBy", "(I)I"⟩, 37), (⟨"HairBridgeModel", "doesBy", "(II)V"⟩, 37), (⟨"HairBridgeModel", "passAll", "()V"⟩, 37), (⟨"HairBridgeModel", "pass", "(I)I"⟩, 37)]
theorem lw_r3 : ∀ q ∈ lw_privs_3, lw_okq q := List.forall_mem_cons.mpr ⟨lw_p32, List.forall_mem_cons.mpr ⟨lw_p33, List.forall_mem_cons.mpr ⟨lw_p34, List.forall_mem_cons.mpr ⟨lw_p35, List.forall_mem_cons.mpr ⟨lw_p36, List.forall_mem_cons.mpr ⟨lw_p37, List.forall_mem_cons.mpr ⟨lw_p38, List.forall_mem_cons.mpr ⟨lw_p39, List.forall_mem_cons.mpr ⟨lw_p40, List.forall_mem_cons.mpr ⟨lw_p41, fun _ h => absurd h List.not_mem_nil⟩⟩⟩⟩⟩⟩⟩⟩⟩⟩
def lw_privs : List (MethodName × Nat) := lw_privs_1 ++ (lw_privs_2 ++ (lw_privs_3))
def lw_tbl : List Cond := k2_sels lw_privs ++ tables_1
theorem lw_privs_ok : ∀ q ∈ lw_privs, lw_okq q := by
  show ∀ q ∈ lw_privs_1 ++ (lw_privs_2 ++ (lw_privs_3)), lw_okq q
  exact List.forall_mem_append.mpr ⟨lw_r1, List.forall_mem_append.mpr ⟨lw_r2, lw_r3⟩⟩
def va_AOA (ty : FieldType) (U : State) : Prop := (Cond.arrayOver (.array ty)).before #[] U = true
theorem va_AOA.use {ty : FieldType} {A : Array Value} {U : State} (h : va_AOA ty U) : (Cond.arrayOver (.array ty)).before A U = true := h
/-! ===== BEGIN words of one list among another's, by their places ===== -/
theorem goodIn_r {big : List Cond} (ws : List Cond) (ps : List Nat) (hp : ws = ps.filterMap (fun i => big[i]?)) (h : ws.all goodWord = true) : GoodIn big ws := by
  intro w hw
  have h1 := List.all_eq_true.mp h w hw
  rw [hp] at hw
  obtain ⟨i, -, hi⟩ := List.mem_filterMap.mp hw
  have hm : w ∈ big := by first | exact List.mem_of_getElem? hi | exact List.getElem?_mem hi
  exact ⟨hm, good_of_word h1⟩
theorem goodIn_app {big a b : List Cond} (ha : GoodIn big a) (hb : GoodIn big b) : GoodIn big (a ++ b) := fun w h => (List.mem_append.mp h).elim (ha w) (hb w)
theorem goodIn_ca {big a b : List Cond} {c : Cond} (ha : GoodIn big (c :: a)) (hb : GoodIn big b) : GoodIn big (c :: (a ++ b)) := fun w h => (List.mem_cons.mp h).elim (fun e => ha w (List.mem_cons.mpr (Or.inl e))) (fun h => (List.mem_append.mp h).elim (fun h => ha w (List.mem_cons.mpr (Or.inr h))) (hb w))
theorem goodIn_sub {big ws : List Cond} (hm : ∀ w ∈ ws, w ∈ big) (h : ws.all goodWord = true) : GoodIn big ws := fun w hw => ⟨hm w hw, good_of_word (List.all_eq_true.mp h w hw)⟩
/-! ===== END ===== -/

/-! ===== BEGIN new T[n][m]: the outer array a place, the inner ones among the pooled ===== -/
/-- f, but v at every address of l -/
def vr_up {α : Type} (f : Nat → α) (l : List Nat) (v : α) : Nat → α := fun a => if a ∈ l then v else f a
theorem vr_up_in {α : Type} {f : Nat → α} {l : List Nat} {v : α} {a : Nat} (h : a ∈ l) : vr_up f l v a = v := if_pos h
theorem vr_up_ne {α : Type} {f : Nat → α} {l : List Nat} {v : α} {a : Nat} (h : a ∉ l) : vr_up f l v a = f a := if_neg h
theorem vr_rows {L l : List Nat} {f : Nat → va_E} {e : va_E} (h : ∀ a, a ∈ l → a ∉ L) : va_pl L f ++ l.map (fun a => (a, e)) = va_pl (L ++ l) (vr_up f l e) := by
  unfold va_pl
  rw [List.map_append]
  congr 1
  · apply List.map_congr_left
    intro a ha
    rw [vr_up_ne (fun q => h a q ha)]
  · apply List.map_congr_left
    intro a ha
    rw [vr_up_in ha]
theorem vr_lay {X rows : va_W} {x : Nat × va_E} {pl : va_W} {D : va_G} {cl : List vw_C} {H : Heap} (hP : va_P D cl (((X ++ pl) ++ [x]) ++ rows) H) : va_P D cl ((X ++ [x]) ++ (pl ++ rows)) H := by
  rw [List.append_assoc (X ++ pl)] at hP
  have h := va_P.swap hP
  rw [← List.append_assoc X] at h
  have h2 := va_P.swap h
  rw [List.append_assoc (X ++ [x])] at h2
  exact h2
theorem vr_layD {X rows : va_W} {x : Nat × va_E} {pl : va_W} {A : Nat → Prop} (hD : va_D A (((X ++ pl) ++ [x]) ++ rows)) : va_D A ((X ++ [x]) ++ (pl ++ rows)) := by
  rw [List.append_assoc (X ++ pl)] at hD
  have h := va_D.swap hD
  rw [← List.append_assoc X] at h
  have h2 := va_D.swap h
  rw [List.append_assoc (X ++ [x])] at h2
  exact h2
theorem vr_outer (c : ClassId) (N h0 : Nat) : ∀ i : Nat, Jvm.Free.Multi.outerC c N h0 i = arrV c N (fun j => va_rf (if j < i then some (h0 + 1 + j) else none))
  | 0 => by
    show ({ cls := c, slots := Array.replicate N .null, vm := .none } : Cell) = _
    rw [arrV_new]
    refine congrArg (arrV c N) (funext fun j => ?_)
    simp [va_rf]
  | i + 1 => by
    show (Jvm.Free.Multi.outerC c N h0 i).setSlot i (.ref (h0 + 1 + i)) = _
    rw [vr_outer c N h0 i, arrV_store]
    refine congrArg (arrV c N) (funext fun j => ?_)
    by_cases e : j = i
    · subst e
      simp [updV, va_rf]
    · by_cases h : j < i
      · simp [updV, e, h, Nat.lt_succ_of_lt h]
      · simp [updV, e, h, show ¬ j < i + 1 by omega]
section VGM
variable {p : Program} {l : Launch} {e : Env} {R : Room} {s : State} {m : MethodId} {args : Array Value} {below : List Frame} {meth : Method} {c : Code} {H : Heap} {locs : List Loc} {cells slots : Nat} {Q : State → Prop}
variable {cc : ByteArray} {pc : Nat} {ls : Array Slot} {rest : List Value} {D : va_G} {cl : List vw_C} {A : Nat → Prop} {a : Nat} {tys : List (ClassId × FieldType)} {ws : va_W} {H0 : Heap}
theorem va_mna {X : va_W} {L : List Nat} {f : Nat → va_E} {cc : ByteArray} (hexec : p.tables.exec = Jvm.exec) (hb : c.code = cc) {own : String} {index : Nat} {ty : FieldType} {cy : ClassId} (hown : s.vm.findClass own = some m.cls) (hclink : (Cond.classLink own index ("[" ++ (FieldType.array ty).toString)).before args s = true) (hover : va_AOA ty s) (harr : (Cond.arrayClass ty).before args s = true) (hcy : s.vm.findClass (FieldType.array ty).toString = some cy)
    (hK : va_K D cl tys s) (hP : va_P D cl (X ++ va_pl L f) H) (hD : va_D A (X ++ va_pl L f)) (hS : va_S A H0 H locs) (hA : ∀ q, H0.size ≤ q → A q) {n k : Int32} {N' K' : Nat} {z : vp_A} (hn : ¬ n < 0) (hk : ¬ k < 0) (hN : n.toNatClampNeg = N') (hM : k.toNatClampNeg = K')
    (hb1 : N' * 4 ≤ 536870912) (hb2 : K' * componentBytes ty ≤ 536870912) (hb3 : K' ≤ 536870912) (hdf : fits ty (defaultValue ty) = true) (hdd : (defaultValue ty).isDefault = true) (hcells : cells + (1 + N') ≤ R.cells) (hslots : slots + (N' + N' * K') ≤ R.slots) (hz : ∀ c : ClassId, Jvm.Free.Multi.innerC c K' (defaultValue ty) = vp_cell c z) (hdg : decode cc pc = .ok (.multianewarray index 2, 4))
    (kk : ∀ (q : Nat) (r : Nat → Nat) (cA : ClassId) (H1 : Heap), (∀ i j : Nat, i < N' → j < N' → r i = r j → i = j) → (∀ i : Nat, i < N' → r i ∉ L) → va_K D cl (tys ++ [(cA, .array ty)]) s →
      va_P D cl ((X ++ [(q, .inl (cA, N', .inr (.inr (.inr (.inr (fun i => if i < N' then some (r i) else none))))))]) ++ va_pl (L ++ (List.range N').map r) (vr_up f ((List.range N').map r) (.inl (cy, z)))) H1 → va_D A ((X ++ [(q, .inl (cA, N', .inr (.inr (.inr (.inr (fun i => if i < N' then some (r i) else none))))))]) ++ va_pl (L ++ (List.range N').map r) (vr_up f ((List.range N').map r) (.inl (cy, z)))) → va_S A H0 H1 locs →
      W p l e R s m args below meth c H1 locs (cells + 1 + N') (slots + N' + N' * K') Q (F0 m (pc + 4) ls (.ref q :: rest))) : W p l e R s m args below meth c H locs cells slots Q (F0 m pc ls (.int k :: .int n :: rest)) := by
  subst hN
  subst hM
  intro T hT Xs
  obtain ⟨vm₁, cA, comp, -, fA, fC, hO, -, X', step⟩ := Xs.multianewarray2F hexec hown hclink (va_AOA.use hover) harr (g := F0 m pc ls (.int k :: .int n :: rest)) rfl (by rw [hb]; exact hdg) rfl hn hk hb1 hb2 hb3 hdf hdd hcells hslots
  have ec : some cy = some comp := hcy.symm.trans fC
  cases ec
  generalize hF : Jvm.Free.Multi.fill (T.setVm vm₁) cA cy n.toNatClampNeg k.toNatClampNeg (defaultValue ty) n.toNatClampNeg = F at X' step
  have hTh : (T.setVm vm₁).heap = H := hT
  obtain ⟨f1, f2, -, -⟩ := Jvm.Free.Multi.fill_facts (T.setVm vm₁) cA cy n.toNatClampNeg k.toNatClampNeg (defaultValue ty) n.toNatClampNeg
  rw [hF, hTh] at f1 f2
  have hold : ∀ x : Nat, x < H.size → F.heap[x]? = H[x]? := fun x hx => by
    have := Jvm.Free.Multi.fill_old (T.setVm vm₁) cA cy n.toNatClampNeg k.toNatClampNeg (defaultValue ty) (a := x) (by rw [hTh]; exact hx) n.toNatClampNeg
    rw [hF, hTh] at this
    exact this
  have hrow : ∀ j : Nat, j < n.toNatClampNeg → F.heap[H.size + 1 + j]? = some (vp_cell cy z) := fun j hj => by
    have := Jvm.Free.Multi.fill_inner (T.setVm vm₁) cA cy n.toNatClampNeg k.toNatClampNeg (defaultValue ty) n.toNatClampNeg j hj
    rw [hF, hTh, hz] at this
    exact this
  have hout : Jvm.Free.Multi.outerC cA n.toNatClampNeg H.size n.toNatClampNeg = vp_cell cA (n.toNatClampNeg, .inr (.inr (.inr (.inr (fun i => if i < n.toNatClampNeg then some (H.size + 1 + i) else none))))) := by
    rw [vp_cell_q]
    exact vr_outer cA n.toNatClampNeg H.size n.toNatClampNeg
  rw [hout] at f2
  have hlt : ∀ a, a ∈ L → a < H.size := fun a ha => by
    obtain ⟨k9, hk9⟩ := va_pl_get (X := X) (f := f) ha
    exact (hP k9 _ hk9).lt
  have hnl : ∀ i : Nat, i < n.toNatClampNeg → H.size + 1 + i ∉ L := fun i _ h => by
    have := hlt _ h
    omega
  have hnm : ∀ a, a ∈ (List.range n.toNatClampNeg).map (fun i => H.size + 1 + i) → a ∉ L := fun a ha h => by
    obtain ⟨i, -, rfl⟩ := List.mem_map.mp ha
    have := hlt _ h
    omega
  have hP0 : va_P D cl (X ++ va_pl L f) F.heap := hP.kept (fun k9 x hx => hold x.1 ((hP k9 x hx).lt))
  have hP1 : va_P D cl ((X ++ va_pl L f) ++ [(H.size, .inl (cA, n.toNatClampNeg, .inr (.inr (.inr (.inr (fun i => if i < n.toNatClampNeg then some (H.size + 1 + i) else none))))))]) F.heap := hP0.app (fun k9 x hx => by
    have h0 : k9 < 1 := (List.getElem?_eq_some_iff.mp hx).1
    rw [show k9 = 0 by omega] at hx
    cases hx
    exact f2)
  have hP2 : va_P D cl (((X ++ va_pl L f) ++ [(H.size, .inl (cA, n.toNatClampNeg, .inr (.inr (.inr (.inr (fun i => if i < n.toNatClampNeg then some (H.size + 1 + i) else none))))))]) ++ ((List.range n.toNatClampNeg).map (fun i => H.size + 1 + i)).map (fun a => (a, .inl (cy, z)))) F.heap := hP1.app (fun k9 x hx => by
    obtain ⟨a, ha, rfl⟩ := List.mem_map.mp (List.mem_of_getElem? hx)
    obtain ⟨i, hi, rfl⟩ := List.mem_map.mp ha
    exact hrow i (List.mem_range.mp hi))
  have hD2 : va_D A (((X ++ va_pl L f) ++ [(H.size, .inl (cA, n.toNatClampNeg, .inr (.inr (.inr (.inr (fun i => if i < n.toNatClampNeg then some (H.size + 1 + i) else none))))))]) ++ ((List.range n.toNatClampNeg).map (fun i => H.size + 1 + i)).map (fun a => (a, .inl (cy, z)))) := by
    have hD1 := hD.push (e := .inl (cA, n.toNatClampNeg, .inr (.inr (.inr (.inr (fun i => if i < n.toNatClampNeg then some (H.size + 1 + i) else none)))))) hP rfl (hA _ hS.1)
    generalize hW1 : (X ++ va_pl L f) ++ [(H.size, .inl (cA, n.toNatClampNeg, .inr (.inr (.inr (.inr (fun i => if i < n.toNatClampNeg then some (H.size + 1 + i) else none))))))] = W1 at hD1 hP1 ⊢
    have hle : ∀ (k9 : Nat) (x : Nat × va_E), W1[k9]? = some x → x.1 ≤ H.size := fun k9 x hx => by
      rw [← hW1] at hx
      by_cases hl : k9 < (X ++ va_pl L f).length
      · rw [List.getElem?_append_left hl] at hx
        exact Nat.le_of_lt ((hP k9 x hx).lt)
      · rw [List.getElem?_append_right (by omega)] at hx
        have h0 : k9 - (X ++ va_pl L f).length < 1 := (List.getElem?_eq_some_iff.mp hx).1
        rw [show k9 - (X ++ va_pl L f).length = 0 by omega] at hx
        cases hx
        exact Nat.le_refl _
    have hr : ∀ (k9 : Nat) (x : Nat × va_E), (((List.range n.toNatClampNeg).map (fun i => H.size + 1 + i)).map (fun a => ((a, .inl (cy, z)) : Nat × va_E)))[k9]? = some x → x.1 = H.size + 1 + k9 := fun k9 x hx => by
      rw [List.getElem?_map, List.getElem?_map] at hx
      by_cases h9 : k9 < n.toNatClampNeg
      · rw [List.getElem?_range h9] at hx
        cases hx
        rfl
      · have hn0 : (List.range n.toNatClampNeg)[k9]? = none := List.getElem?_eq_none (by rw [List.length_range]; omega)
        rw [hn0] at hx
        cases hx
    refine ⟨fun i j x y hi hj hxy => ?_, fun k9 x hx => ?_⟩
    · by_cases h1 : i < W1.length <;> by_cases h2 : j < W1.length
      · rw [List.getElem?_append_left h1] at hi
        rw [List.getElem?_append_left h2] at hj
        exact hD1.1 i j x y hi hj hxy
      · rw [List.getElem?_append_left h1] at hi
        rw [List.getElem?_append_right (by omega)] at hj
        have := hle _ _ hi
        have := hr _ _ hj
        omega
      · rw [List.getElem?_append_right (by omega)] at hi
        rw [List.getElem?_append_left h2] at hj
        have := hle _ _ hj
        have := hr _ _ hi
        omega
      · rw [List.getElem?_append_right (by omega)] at hi hj
        have := hr _ _ hi
        have := hr _ _ hj
        omega
    · by_cases h1 : k9 < W1.length
      · rw [List.getElem?_append_left h1] at hx
        exact hD1.2 k9 x hx
      · rw [List.getElem?_append_right (by omega)] at hx
        have := hr _ _ hx
        exact hA _ (by have := hS.1; omega)
  have hAr : ArrOfT s cA (.array ty) := fun N9 z9 => by
    obtain ⟨-, k9, hk9, cm9, hkk9⟩ := (hO 0 0 0).1
    exact ⟨(fun q hq => by cases hq), k9, hk9, cm9, hkk9⟩
  have hK2 : va_K D cl (tys ++ [(cA, .array ty)]) s := ⟨hK.1, fun k9 x hx => by
    by_cases hl : k9 < tys.length
    · rw [List.getElem?_append_left hl] at hx
      exact hK.2 k9 x hx
    · rw [List.getElem?_append_right (by omega)] at hx
      have h0 : k9 - tys.length < 1 := (List.getElem?_eq_some_iff.mp hx).1
      rw [show k9 - tys.length = 0 by omega] at hx
      cases hx
      exact ⟨hAr, fA⟩⟩
  obtain ⟨t, a1, b1⟩ := kk H.size (fun i => H.size + 1 + i) cA F.heap (fun i j _ _ h => by have h9 : H.size + 1 + i = H.size + 1 + j := h; omega) hnl hK2 (by rw [← vr_rows hnm]; exact vr_lay hP2) (by rw [← vr_rows hnm]; exact vr_layD hD2) ⟨by rw [f1]; have := hS.1; omega, fun x h1 h2 => (hold x (Nat.lt_of_lt_of_le h1 hS.1)).trans (hS.2.1 x h1 h2), hS.2.2⟩ F rfl X'
  refine ⟨t, step t ?_, b1⟩
  have e : T.heap.size = H.size := by rw [hT]
  rw [e]
  exact a1
end VGM
/-! ===== END ===== -/

/-! ===== BEGIN printed: names, fields, word lists, decode rows ===== -/
def RX0 : String := "HairBridge$Abbey"
def TX0 : u_T := fun k => match k with
  | 0 => ("HairBridge$Abbey", "hair", "[I", true)
  | 1 => ("HairBridge$Abbey", "strong", "[I", true)
  | 2 => ("HairBridge$Abbey", "basket", "[I", true)
  | 3 => ("HairBridge$Abbey", "worn", "[I", true)
  | 4 => ("HairBridge$Abbey", "ropes", "[LHairBridge$Rope;", true)
  | 5 => ("HairBridge$Abbey", "powers", "[I", true)
  | 6 => ("HairBridge$Abbey", "wear", "I", false)
  | _ => ("HairBridge$Abbey", "weeks", "I", false)
def tyX0 : Nat → FieldType := fun k => match k with
  | 0 => .array .int
  | 1 => .array .int
  | 2 => .array .int
  | 3 => .array .int
  | 4 => .array (.object "HairBridge$Rope")
  | 5 => .array .int
  | 6 => .int
  | _ => .int
abbrev wsX00 : List Cond := u_ws RX0 TX0 8
theorem nmX0 : ∀ a, a < 8 → ∀ b, b < 8 → a ≠ b → (TX0 a).2.1 ≠ (TX0 b).2.1 := by decide +kernel
theorem tyX0_ok : ∀ k, k < 8 → parseFieldDescriptor (TX0 k).2.2.1 = some (tyX0 k) := by decide +kernel
abbrev cX0_init : ByteArray := prog_2_method_1_code
def yX0_init : MethodName := ⟨RX0, "<init>", "()V"⟩
abbrev cX0_become : ByteArray := prog_2_method_2_code
def yX0_become : MethodName := ⟨RX0, "become", "(LHairBridge$Abbey;)V"⟩
abbrev cX0_sin : ByteArray := prog_2_method_3_code
def yX0_sin : MethodName := ⟨RX0, "sin", "(II)I"⟩
abbrev cX0_pray : ByteArray := prog_2_method_4_code
def yX0_pray : MethodName := ⟨RX0, "pray", "(II)I"⟩
abbrev cX0_weave : ByteArray := prog_2_method_5_code
def yX0_weave : MethodName := ⟨RX0, "weave", "(II)I"⟩
abbrev cX0_passWeek : ByteArray := prog_2_method_6_code
def yX0_passWeek : MethodName := ⟨RX0, "passWeek", "()V"⟩
abbrev cX0_giveAll : ByteArray := prog_2_method_7_code
def yX0_giveAll : MethodName := ⟨RX0, "giveAll", "(III)V"⟩
abbrev cX0_drawDeeds : ByteArray := prog_2_method_8_code
def yX0_drawDeeds : MethodName := ⟨RX0, "drawDeeds", "(I)I"⟩
abbrev cX0_bearsLess : ByteArray := prog_2_method_9_code
def yX0_bearsLess : MethodName := ⟨RX0, "bearsLess", "(I)I"⟩
abbrev cX0_brokenUnder : ByteArray := prog_2_method_10_code
def yX0_brokenUnder : MethodName := ⟨RX0, "brokenUnder", "(I)I"⟩
abbrev cX0_breaking : ByteArray := prog_2_method_11_code
def yX0_breaking : MethodName := ⟨RX0, "breaking", "(II)I"⟩
abbrev cX0_powerInBasket : ByteArray := prog_2_method_12_code
def yX0_powerInBasket : MethodName := ⟨RX0, "powerInBasket", "(I)I"⟩
abbrev cX0_inchesOf : ByteArray := prog_2_method_13_code
def yX0_inchesOf : MethodName := ⟨RX0, "inchesOf", "(I)I"⟩
abbrev cX0_powerOf : ByteArray := prog_2_method_14_code
def yX0_powerOf : MethodName := ⟨RX0, "powerOf", "(I)I"⟩
def RX1 : String := "HairBridge$Crossing"
def TX1 : u_T := fun k => match k with
  | 0 => ("HairBridge$Crossing", "borne", "[I", true)
  | 1 => ("HairBridge$Crossing", "worthToCome", "[I", true)
  | 2 => ("HairBridge$Crossing", "order", "[I", true)
  | _ => ("HairBridge$Crossing", "loads", "LHairBridge$Pairs;", true)
def tyX1 : Nat → FieldType := fun k => match k with
  | 0 => .array .int
  | 1 => .array .int
  | 2 => .array .int
  | _ => .object "HairBridge$Pairs"
abbrev wsX10 : List Cond := u_ws RX1 TX1 4
theorem nmX1 : ∀ a, a < 4 → ∀ b, b < 4 → a ≠ b → (TX1 a).2.1 ≠ (TX1 b).2.1 := by decide +kernel
theorem tyX1_ok : ∀ k, k < 4 → parseFieldDescriptor (TX1 k).2.2.1 = some (tyX1 k) := by decide +kernel
abbrev cX1_init : ByteArray := prog_3_method_1_code
def yX1_init : MethodName := ⟨RX1, "<init>", "()V"⟩
abbrev cX1_most : ByteArray := prog_3_method_2_code
def yX1_most : MethodName := ⟨RX1, "most", "()I"⟩
abbrev cX1_turn : ByteArray := prog_3_method_3_code
def yX1_turn : MethodName := ⟨RX1, "turn", "(I)I"⟩
abbrev cX1_reckon : ByteArray := prog_3_method_4_code
def yX1_reckon : MethodName := ⟨RX1, "reckon", "(LHairBridge$Abbey;LHairBridge$Pairs;)V"⟩
abbrev cX1_mostFrom : ByteArray := prog_3_method_5_code
def yX1_mostFrom : MethodName := ⟨RX1, "mostFrom", "(II)I"⟩
abbrev cX1_crosses : ByteArray := prog_3_method_6_code
def yX1_crosses : MethodName := ⟨RX1, "crosses", "(II)Z"⟩
abbrev cX1_worthBy : ByteArray := prog_3_method_7_code
def yX1_worthBy : MethodName := ⟨RX1, "worthBy", "(III)I"⟩
abbrev cX1_findOrder : ByteArray := prog_3_method_8_code
def yX1_findOrder : MethodName := ⟨RX1, "findOrder", "()V"⟩
abbrev cX1_firstBest : ByteArray := prog_3_method_9_code
def yX1_firstBest : MethodName := ⟨RX1, "firstBest", "(II)I"⟩
def RX2 : String := "HairBridge$Pad"
def TX2 : u_T := fun k => match k with
  | 0 => ("HairBridge$Pad", "signs", "[I", true)
  | _ => ("HairBridge$Pad", "count", "I", false)
def tyX2 : Nat → FieldType := fun k => match k with
  | 0 => .array .int
  | _ => .int
abbrev wsX20 : List Cond := u_ws RX2 TX2 2
theorem nmX2 : ∀ a, a < 2 → ∀ b, b < 2 → a ≠ b → (TX2 a).2.1 ≠ (TX2 b).2.1 := by decide +kernel
theorem tyX2_ok : ∀ k, k < 2 → parseFieldDescriptor (TX2 k).2.2.1 = some (tyX2 k) := by decide +kernel
abbrev cX2_init : ByteArray := prog_4_method_1_code
def yX2_init : MethodName := ⟨RX2, "<init>", "()V"⟩
abbrev cX2_put : ByteArray := prog_4_method_2_code
def yX2_put : MethodName := ⟨RX2, "put", "(I)Z"⟩
abbrev cX2_clear : ByteArray := prog_4_method_3_code
def yX2_clear : MethodName := ⟨RX2, "clear", "()I"⟩
abbrev cX2_firstFault : ByteArray := prog_4_method_4_code
def yX2_firstFault : MethodName := ⟨RX2, "firstFault", "()I"⟩
abbrev cX2_behind : ByteArray := prog_4_method_5_code
def yX2_behind : MethodName := ⟨RX2, "behind", "(II)I"⟩
abbrev cX2_parts : ByteArray := prog_4_method_6_code
def yX2_parts : MethodName := ⟨RX2, "parts", "(I)I"⟩
abbrev cX2_why : ByteArray := prog_4_method_7_code
def yX2_why : MethodName := ⟨RX2, "why", "(I)I"⟩
abbrev cX2_follow : ByteArray := prog_4_method_8_code
def yX2_follow : MethodName := ⟨RX2, "follow", "(LHairBridge$Abbey;)I"⟩
abbrev cX2_doPart : ByteArray := prog_4_method_9_code
def yX2_doPart : MethodName := ⟨RX2, "doPart", "(LHairBridge$Abbey;II)I"⟩
def RX3 : String := "HairBridge$Pairs"
def TX3 : u_T := fun k => match k with
  | 0 => ("HairBridge$Pairs", "first", "[I", true)
  | 1 => ("HairBridge$Pairs", "second", "[I", true)
  | _ => ("HairBridge$Pairs", "count", "I", false)
def tyX3 : Nat → FieldType := fun k => match k with
  | 0 => .array .int
  | 1 => .array .int
  | _ => .int
abbrev wsX30 : List Cond := u_ws RX3 TX3 3
theorem nmX3 : ∀ a, a < 3 → ∀ b, b < 3 → a ≠ b → (TX3 a).2.1 ≠ (TX3 b).2.1 := by decide +kernel
theorem tyX3_ok : ∀ k, k < 3 → parseFieldDescriptor (TX3 k).2.2.1 = some (tyX3 k) := by decide +kernel
abbrev cX3_init : ByteArray := prog_5_method_1_code
def yX3_init : MethodName := ⟨RX3, "<init>", "()V"⟩
abbrev cX3_become : ByteArray := prog_5_method_2_code
def yX3_become : MethodName := ⟨RX3, "become", "(LHairBridge$Pairs;)V"⟩
abbrev cX3_put : ByteArray := prog_5_method_3_code
def yX3_put : MethodName := ⟨RX3, "put", "(II)Z"⟩
abbrev cX3_clear : ByteArray := prog_5_method_4_code
def yX3_clear : MethodName := ⟨RX3, "clear", "()I"⟩
def RX4 : String := "HairBridge$Renewal"
def TX4 : u_T := fun k => match k with
  | 0 => ("HairBridge$Renewal", "ahead", "[LHairBridge$Abbey;", true)
  | 1 => ("HairBridge$Renewal", "worn", "[[I", true)
  | 2 => ("HairBridge$Renewal", "eaten", "[[I", true)
  | 3 => ("HairBridge$Renewal", "strongestFirst", "[I", true)
  | 4 => ("HairBridge$Renewal", "tried", "[I", true)
  | 5 => ("HairBridge$Renewal", "found", "[I", true)
  | 6 => ("HairBridge$Renewal", "weeks", "I", false)
  | 7 => ("HairBridge$Renewal", "need", "I", false)
  | _ => ("HairBridge$Renewal", "fewest", "I", false)
def tyX4 : Nat → FieldType := fun k => match k with
  | 0 => .array (.object "HairBridge$Abbey")
  | 1 => .array (.array .int)
  | 2 => .array (.array .int)
  | 3 => .array .int
  | 4 => .array .int
  | 5 => .array .int
  | 6 => .int
  | 7 => .int
  | _ => .int
abbrev wsX40 : List Cond := u_ws RX4 TX4 9
theorem nmX4 : ∀ a, a < 9 → ∀ b, b < 9 → a ≠ b → (TX4 a).2.1 ≠ (TX4 b).2.1 := by decide +kernel
theorem tyX4_ok : ∀ k, k < 9 → parseFieldDescriptor (TX4 k).2.2.1 = some (tyX4 k) := by decide +kernel
abbrev cX4_init : ByteArray := prog_6_method_1_code
def yX4_init : MethodName := ⟨RX4, "<init>", "()V"⟩
abbrev cX4_fewestInches : ByteArray := prog_6_method_2_code
def yX4_fewestInches : MethodName := ⟨RX4, "fewestInches", "(LHairBridge$Abbey;II)I"⟩
abbrev cX4_wovenAhead : ByteArray := prog_6_method_3_code
def yX4_wovenAhead : MethodName := ⟨RX4, "wovenAhead", "(I)I"⟩
abbrev cX4_sortByBasket : ByteArray := prog_6_method_4_code
def yX4_sortByBasket : MethodName := ⟨RX4, "sortByBasket", "(LHairBridge$Abbey;)V"⟩
abbrev cX4_tryFrom : ByteArray := prog_6_method_5_code
def yX4_tryFrom : MethodName := ⟨RX4, "tryFrom", "(II)V"⟩
abbrev cX4_tryStep : ByteArray := prog_6_method_6_code
def yX4_tryStep : MethodName := ⟨RX4, "tryStep", "(IIII)V"⟩
abbrev cX4_holdsBehind : ByteArray := prog_6_method_7_code
def yX4_holdsBehind : MethodName := ⟨RX4, "holdsBehind", "(III)Z"⟩
abbrev cX4_foresee : ByteArray := prog_6_method_8_code
def yX4_foresee : MethodName := ⟨RX4, "foresee", "(I)V"⟩
abbrev cX4_isHopeless : ByteArray := prog_6_method_9_code
def yX4_isHopeless : MethodName := ⟨RX4, "isHopeless", "(I)Z"⟩
def RX5 : String := "HairBridge$Rope"
def TX5 : u_T := fun k => match k with
  | 0 => ("HairBridge$Rope", "monks", "[I", true)
  | 1 => ("HairBridge$Rope", "inches", "[I", true)
  | 2 => ("HairBridge$Rope", "weeks", "[I", true)
  | _ => ("HairBridge$Rope", "count", "I", false)
def tyX5 : Nat → FieldType := fun k => match k with
  | 0 => .array .int
  | 1 => .array .int
  | 2 => .array .int
  | _ => .int
abbrev wsX50 : List Cond := u_ws RX5 TX5 4
theorem nmX5 : ∀ a, a < 4 → ∀ b, b < 4 → a ≠ b → (TX5 a).2.1 ≠ (TX5 b).2.1 := by decide +kernel
theorem tyX5_ok : ∀ k, k < 4 → parseFieldDescriptor (TX5 k).2.2.1 = some (tyX5 k) := by decide +kernel
abbrev cX5_init : ByteArray := prog_7_method_1_code
def yX5_init : MethodName := ⟨RX5, "<init>", "()V"⟩
abbrev cX5_become : ByteArray := prog_7_method_2_code
def yX5_become : MethodName := ⟨RX5, "become", "(LHairBridge$Rope;)V"⟩
abbrev cX5_hasRoom : ByteArray := prog_7_method_3_code
def yX5_hasRoom : MethodName := ⟨RX5, "hasRoom", "()Z"⟩
abbrev cX5_add : ByteArray := prog_7_method_4_code
def yX5_add : MethodName := ⟨RX5, "add", "(III)V"⟩
abbrev cX5_lose : ByteArray := prog_7_method_5_code
def yX5_lose : MethodName := ⟨RX5, "lose", "(I[I)V"⟩
abbrev cX5_dropOldest : ByteArray := prog_7_method_6_code
def yX5_dropOldest : MethodName := ⟨RX5, "dropOldest", "(I)V"⟩
abbrev cX5_powerLess : ByteArray := prog_7_method_7_code
def yX5_powerLess : MethodName := ⟨RX5, "powerLess", "(I[I)I"⟩
abbrev cX5_length : ByteArray := prog_7_method_8_code
def yX5_length : MethodName := ⟨RX5, "length", "()I"⟩
abbrev cX5_lengthOf : ByteArray := prog_7_method_9_code
def yX5_lengthOf : MethodName := ⟨RX5, "lengthOf", "(I)I"⟩
def RX6 : String := "HairBridge$Whole"
def TX6 : u_T := fun k => match k with
  | 0 => ("HairBridge$Whole", "abbey", "LHairBridge$Abbey;", true)
  | 1 => ("HairBridge$Whole", "loads", "LHairBridge$Pairs;", true)
  | _ => ("HairBridge$Whole", "weighings", "LHairBridge$Pairs;", true)
def tyX6 : Nat → FieldType := fun k => match k with
  | 0 => .object "HairBridge$Abbey"
  | 1 => .object "HairBridge$Pairs"
  | _ => .object "HairBridge$Pairs"
abbrev wsX60 : List Cond := u_ws RX6 TX6 3
theorem nmX6 : ∀ a, a < 3 → ∀ b, b < 3 → a ≠ b → (TX6 a).2.1 ≠ (TX6 b).2.1 := by decide +kernel
theorem tyX6_ok : ∀ k, k < 3 → parseFieldDescriptor (TX6 k).2.2.1 = some (tyX6 k) := by decide +kernel
abbrev cX6_init : ByteArray := prog_8_method_1_code
def yX6_init : MethodName := ⟨RX6, "<init>", "()V"⟩
abbrev cX6_become : ByteArray := prog_8_method_2_code
def yX6_become : MethodName := ⟨RX6, "become", "(LHairBridge$Whole;)V"⟩
def RX7 : String := "HairBridge$Wigs"
def TX7 : u_T := fun k => match k with
  | 0 => ("HairBridge$Wigs", "weights", "[I", true)
  | 1 => ("HairBridge$Wigs", "alike", "[I", true)
  | 2 => ("HairBridge$Wigs", "fitting", "[I", true)
  | _ => ("HairBridge$Wigs", "count", "I", false)
def tyX7 : Nat → FieldType := fun k => match k with
  | 0 => .array .int
  | 1 => .array .int
  | 2 => .array .int
  | _ => .int
abbrev wsX70 : List Cond := u_ws RX7 TX7 4
theorem nmX7 : ∀ a, a < 4 → ∀ b, b < 4 → a ≠ b → (TX7 a).2.1 ≠ (TX7 b).2.1 := by decide +kernel
theorem tyX7_ok : ∀ k, k < 4 → parseFieldDescriptor (TX7 k).2.2.1 = some (tyX7 k) := by decide +kernel
abbrev cX7_init : ByteArray := prog_9_method_1_code
def yX7_init : MethodName := ⟨RX7, "<init>", "()V"⟩
abbrev cX7_find : ByteArray := prog_9_method_2_code
def yX7_find : MethodName := ⟨RX7, "find", "([ILHairBridge$Pairs;)V"⟩
abbrev cX7_fits : ByteArray := prog_9_method_3_code
def yX7_fits : MethodName := ⟨RX7, "fits", "(ILHairBridge$Pairs;)Z"⟩
abbrev cX7_inEach : ByteArray := prog_9_method_4_code
def yX7_inEach : MethodName := ⟨RX7, "inEach", "()I"⟩
abbrev cX7_inNone : ByteArray := prog_9_method_5_code
def yX7_inNone : MethodName := ⟨RX7, "inNone", "()I"⟩
abbrev cX7_bestToAsk : ByteArray := prog_9_method_6_code
def yX7_bestToAsk : MethodName := ⟨RX7, "bestToAsk", "()I"⟩
abbrev cX7_mostAlike : ByteArray := prog_9_method_7_code
def yX7_mostAlike : MethodName := ⟨RX7, "mostAlike", "(I)I"⟩
def RX8 : String := "HairBridge"
def TX8 : u_T := fun k => match k with
  | 0 => ("HairBridge", "pad", "LHairBridge$Pad;", true)
  | 1 => ("HairBridge", "now", "LHairBridge$Whole;", true)
  | 2 => ("HairBridge", "images", "[LHairBridge$Whole;", true)
  | 3 => ("HairBridge", "kept", "[Z", true)
  | 4 => ("HairBridge", "trial", "LHairBridge$Abbey;", true)
  | 5 => ("HairBridge", "crossing", "LHairBridge$Crossing;", true)
  | 6 => ("HairBridge", "renewal", "LHairBridge$Renewal;", true)
  | _ => ("HairBridge", "wigs", "LHairBridge$Wigs;", true)
def tyX8 : Nat → FieldType := fun k => match k with
  | 0 => .object "HairBridge$Pad"
  | 1 => .object "HairBridge$Whole"
  | 2 => .array (.object "HairBridge$Whole")
  | 3 => .array .boolean
  | 4 => .object "HairBridge$Abbey"
  | 5 => .object "HairBridge$Crossing"
  | 6 => .object "HairBridge$Renewal"
  | _ => .object "HairBridge$Wigs"
abbrev wsX80 : List Cond := u_ws RX8 TX8 8
theorem nmX8 : ∀ a, a < 8 → ∀ b, b < 8 → a ≠ b → (TX8 a).2.1 ≠ (TX8 b).2.1 := by decide +kernel
theorem tyX8_ok : ∀ k, k < 8 → parseFieldDescriptor (TX8 k).2.2.1 = some (tyX8 k) := by decide +kernel
abbrev cX8_init : ByteArray := prog_1_method_1_code
def yX8_init : MethodName := ⟨RX8, "<init>", "()V"⟩
abbrev cX8_monk : ByteArray := prog_1_method_2_code
def yX8_monk : MethodName := ⟨RX8, "monk", "(III)I"⟩
abbrev cX8_wear : ByteArray := prog_1_method_3_code
def yX8_wear : MethodName := ⟨RX8, "wear", "(I)I"⟩
abbrev cX8_say : ByteArray := prog_1_method_4_code
def yX8_say : MethodName := ⟨RX8, "say", "(I)I"⟩
abbrev cX8_wipe : ByteArray := prog_1_method_5_code
def yX8_wipe : MethodName := ⟨RX8, "wipe", "()I"⟩
abbrev cX8_fault : ByteArray := prog_1_method_6_code
def yX8_fault : MethodName := ⟨RX8, "fault", "()I"⟩
abbrev cX8_judge : ByteArray := prog_1_method_7_code
def yX8_judge : MethodName := ⟨RX8, "judge", "(I)I"⟩
abbrev cX8_done : ByteArray := prog_1_method_8_code
def yX8_done : MethodName := ⟨RX8, "done", "()I"⟩
abbrev cX8_lock : ByteArray := prog_1_method_9_code
def yX8_lock : MethodName := ⟨RX8, "lock", "(III)I"⟩
abbrev cX8_power : ByteArray := prog_1_method_10_code
def yX8_power : MethodName := ⟨RX8, "power", "(I)I"⟩
abbrev cX8_bears : ByteArray := prog_1_method_11_code
def yX8_bears : MethodName := ⟨RX8, "bears", "()I"⟩
abbrev cX8_broken : ByteArray := prog_1_method_12_code
def yX8_broken : MethodName := ⟨RX8, "broken", "(I)I"⟩
abbrev cX8_share : ByteArray := prog_1_method_13_code
def yX8_share : MethodName := ⟨RX8, "share", "(II)J"⟩
abbrev cX8_led : ByteArray := prog_1_method_14_code
def yX8_led : MethodName := ⟨RX8, "led", "(II)I"⟩
abbrev cX8_load : ByteArray := prog_1_method_15_code
def yX8_load : MethodName := ⟨RX8, "load", "(II)I"⟩
abbrev cX8_drop : ByteArray := prog_1_method_16_code
def yX8_drop : MethodName := ⟨RX8, "drop", "()I"⟩
abbrev cX8_best : ByteArray := prog_1_method_17_code
def yX8_best : MethodName := ⟨RX8, "best", "(I)I"⟩
abbrev cX8_renewed : ByteArray := prog_1_method_18_code
def yX8_renewed : MethodName := ⟨RX8, "renewed", "(III)I"⟩
abbrev cX8_soon : ByteArray := prog_1_method_19_code
def yX8_soon : MethodName := ⟨RX8, "soon", "(IIII)I"⟩
abbrev cX8_weighed : ByteArray := prog_1_method_20_code
def yX8_weighed : MethodName := ⟨RX8, "weighed", "(II)I"⟩
abbrev cX8_forget : ByteArray := prog_1_method_21_code
def yX8_forget : MethodName := ⟨RX8, "forget", "()I"⟩
abbrev cX8_canBe : ByteArray := prog_1_method_22_code
def yX8_canBe : MethodName := ⟨RX8, "canBe", "(I)I"⟩
abbrev cX8_sure : ByteArray := prog_1_method_23_code
def yX8_sure : MethodName := ⟨RX8, "sure", "(I)I"⟩
abbrev cX8_year : ByteArray := prog_1_method_24_code
def yX8_year : MethodName := ⟨RX8, "year", "(III)I"⟩
abbrev cX8_image : ByteArray := prog_1_method_25_code
def yX8_image : MethodName := ⟨RX8, "image", "(I)I"⟩
abbrev cX8_restore : ByteArray := prog_1_method_26_code
def yX8_restore : MethodName := ⟨RX8, "restore", "(I)I"⟩
abbrev cX8_told : ByteArray := prog_1_method_27_code
def yX8_told : MethodName := ⟨RX8, "told", "(I)I"⟩
abbrev cX8_toldOfOne : ByteArray := prog_1_method_28_code
def yX8_toldOfOne : MethodName := ⟨RX8, "toldOfOne", "(I)I"⟩
abbrev cX8_tryText : ByteArray := prog_1_method_29_code
def yX8_tryText : MethodName := ⟨RX8, "tryText", "()I"⟩
abbrev cX8_isIn : ByteArray := prog_1_method_30_code
def yX8_isIn : MethodName := ⟨RX8, "isIn", "(III)Z"⟩
abbrev cX8_commonDivisor : ByteArray := prog_1_method_31_code
def yX8_commonDivisor : MethodName := ⟨RX8, "commonDivisor", "(II)I"⟩
abbrev cX8_greatestLoad : ByteArray := prog_1_method_32_code
def yX8_greatestLoad : MethodName := ⟨RX8, "greatestLoad", "([I)I"⟩
def RX9 : String := "HairBridgeModel"
def TX9 : u_T := fun k => match k with
  | 0 => ("HairBridgeModel", "hair", "[I", true)
  | 1 => ("HairBridgeModel", "strong", "[I", true)
  | 2 => ("HairBridgeModel", "basket", "[I", true)
  | 3 => ("HairBridgeModel", "worn", "[I", true)
  | 4 => ("HairBridgeModel", "lockMonk", "[I", true)
  | 5 => ("HairBridgeModel", "lockInch", "[I", true)
  | 6 => ("HairBridgeModel", "lockWeek", "[I", true)
  | 7 => ("HairBridgeModel", "locks", "[I", true)
  | 8 => ("HairBridgeModel", "wear", "I", false)
  | 9 => ("HairBridgeModel", "week", "I", false)
  | 10 => ("HairBridgeModel", "loadWeight", "[I", true)
  | 11 => ("HairBridgeModel", "loadWorth", "[I", true)
  | 12 => ("HairBridgeModel", "loads", "I", false)
  | 13 => ("HairBridgeModel", "weighSet", "[I", true)
  | 14 => ("HairBridgeModel", "weighIs", "[I", true)
  | 15 => ("HairBridgeModel", "weighings", "I", false)
  | 16 => ("HairBridgeModel", "has", "[I", true)
  | 17 => ("HairBridgeModel", "held", "[I", true)
  | 18 => ("HairBridgeModel", "gone", "[I", true)
  | 19 => ("HairBridgeModel", "monkOf", "[I", true)
  | 20 => ("HairBridgeModel", "inchOf", "[I", true)
  | 21 => ("HairBridgeModel", "weekOf", "[I", true)
  | 22 => ("HairBridgeModel", "many", "[I", true)
  | 23 => ("HairBridgeModel", "now", "I", false)
  | 24 => ("HairBridgeModel", "pad", "[I", true)
  | 25 => ("HairBridgeModel", "padMany", "I", false)
  | 26 => ("HairBridgeModel", "parts", "I", false)
  | 27 => ("HairBridgeModel", "badWhy", "I", false)
  | 28 => ("HairBridgeModel", "order", "[I", true)
  | 29 => ("HairBridgeModel", "way", "[I", true)
  | 30 => ("HairBridgeModel", "bestWay", "[I", true)
  | 31 => ("HairBridgeModel", "woven", "I", false)
  | 32 => ("HairBridgeModel", "alike", "[I", true)
  | 33 => ("HairBridgeModel", "kept", "[I", true)
  | 34 => ("HairBridgeModel", "isKept", "[Z", true)
  | 35 => ("HairBridgeModel", "keptAt", "I", false)
  | _ => ("HairBridgeModel", "isWriting", "Z", false)
def tyX9 : Nat → FieldType := fun k => match k with
  | 0 => .array .int
  | 1 => .array .int
  | 2 => .array .int
  | 3 => .array .int
  | 4 => .array .int
  | 5 => .array .int
  | 6 => .array .int
  | 7 => .array .int
  | 8 => .int
  | 9 => .int
  | 10 => .array .int
  | 11 => .array .int
  | 12 => .int
  | 13 => .array .int
  | 14 => .array .int
  | 15 => .int
  | 16 => .array .int
  | 17 => .array .int
  | 18 => .array .int
  | 19 => .array .int
  | 20 => .array .int
  | 21 => .array .int
  | 22 => .array .int
  | 23 => .int
  | 24 => .array .int
  | 25 => .int
  | 26 => .int
  | 27 => .int
  | 28 => .array .int
  | 29 => .array .int
  | 30 => .array .int
  | 31 => .int
  | 32 => .array .int
  | 33 => .array .int
  | 34 => .array .boolean
  | 35 => .int
  | _ => .boolean
abbrev wsX90 : List Cond := u_ws RX9 TX9 37
theorem nmX9 : ∀ a, a < 37 → ∀ b, b < 37 → a ≠ b → (TX9 a).2.1 ≠ (TX9 b).2.1 := by decide +kernel
theorem tyX9_ok : ∀ k, k < 37 → parseFieldDescriptor (TX9 k).2.2.1 = some (tyX9 k) := by decide +kernel
abbrev cX9_init : ByteArray := prog_11_method_1_code
def yX9_init : MethodName := ⟨RX9, "<init>", "()V"⟩
abbrev cX9_in : ByteArray := prog_11_method_3_code
def yX9_in : MethodName := ⟨RX9, "in", "(JJJ)Z"⟩
abbrev cX9_isMonk : ByteArray := prog_11_method_4_code
def yX9_isMonk : MethodName := ⟨RX9, "isMonk", "(I)Z"⟩
abbrev cX9_isRope : ByteArray := prog_11_method_5_code
def yX9_isRope : MethodName := ⟨RX9, "isRope", "(I)Z"⟩
abbrev cX9_layNow : ByteArray := prog_11_method_6_code
def yX9_layNow : MethodName := ⟨RX9, "layNow", "()V"⟩
abbrev cX9_keepTried : ByteArray := prog_11_method_7_code
def yX9_keepTried : MethodName := ⟨RX9, "keepTried", "()V"⟩
abbrev cX9_dropFirst : ByteArray := prog_11_method_8_code
def yX9_dropFirst : MethodName := ⟨RX9, "dropFirst", "(I)V"⟩
abbrev cX9_lose : ByteArray := prog_11_method_9_code
def yX9_lose : MethodName := ⟨RX9, "lose", "(I)V"⟩
abbrev cX9_goWeek : ByteArray := prog_11_method_10_code
def yX9_goWeek : MethodName := ⟨RX9, "goWeek", "()V"⟩
abbrev cX9_weave : ByteArray := prog_11_method_11_code
def yX9_weave : MethodName := ⟨RX9, "weave", "(II)V"⟩
abbrev cX9_powerOf : ByteArray := prog_11_method_12_code
def yX9_powerOf : MethodName := ⟨RX9, "powerOf", "(I)I"⟩
abbrev cX9_borne : ByteArray := prog_11_method_13_code
def yX9_borne : MethodName := ⟨RX9, "borne", "()I"⟩
abbrev cX9_monk : ByteArray := prog_11_method_14_code
def yX9_monk : MethodName := ⟨RX9, "monk", "(III)I"⟩
abbrev cX9_wear : ByteArray := prog_11_method_15_code
def yX9_wear : MethodName := ⟨RX9, "wear", "(I)I"⟩
abbrev cX9_say : ByteArray := prog_11_method_16_code
def yX9_say : MethodName := ⟨RX9, "say", "(I)I"⟩
abbrev cX9_wipe : ByteArray := prog_11_method_17_code
def yX9_wipe : MethodName := ⟨RX9, "wipe", "()I"⟩
abbrev cX9_fault : ByteArray := prog_11_method_18_code
def yX9_fault : MethodName := ⟨RX9, "fault", "()I"⟩
abbrev cX9_whyNoMore : ByteArray := prog_11_method_19_code
def yX9_whyNoMore : MethodName := ⟨RX9, "whyNoMore", "(II)I"⟩
abbrev cX9_whyNoLock : ByteArray := prog_11_method_20_code
def yX9_whyNoLock : MethodName := ⟨RX9, "whyNoLock", "(II)I"⟩
abbrev cX9_does : ByteArray := prog_11_method_21_code
def yX9_does : MethodName := ⟨RX9, "does", "(I)I"⟩
abbrev cX9_goText : ByteArray := prog_11_method_22_code
def yX9_goText : MethodName := ⟨RX9, "goText", "()Z"⟩
abbrev cX9_judge : ByteArray := prog_11_method_23_code
def yX9_judge : MethodName := ⟨RX9, "judge", "(I)I"⟩
abbrev cX9_done : ByteArray := prog_11_method_24_code
def yX9_done : MethodName := ⟨RX9, "done", "()I"⟩
abbrev cX9_lock : ByteArray := prog_11_method_25_code
def yX9_lock : MethodName := ⟨RX9, "lock", "(III)I"⟩
abbrev cX9_power : ByteArray := prog_11_method_26_code
def yX9_power : MethodName := ⟨RX9, "power", "(I)I"⟩
abbrev cX9_bears : ByteArray := prog_11_method_27_code
def yX9_bears : MethodName := ⟨RX9, "bears", "()I"⟩
abbrev cX9_ones : ByteArray := prog_11_method_28_code
def yX9_ones : MethodName := ⟨RX9, "ones", "(I)I"⟩
abbrev cX9_broken : ByteArray := prog_11_method_29_code
def yX9_broken : MethodName := ⟨RX9, "broken", "(I)I"⟩
abbrev cX9_share : ByteArray := prog_11_method_30_code
def yX9_share : MethodName := ⟨RX9, "share", "(II)J"⟩
abbrev cX9_inchesOf : ByteArray := prog_11_method_31_code
def yX9_inchesOf : MethodName := ⟨RX9, "inchesOf", "(II)I"⟩
abbrev cX9_led : ByteArray := prog_11_method_32_code
def yX9_led : MethodName := ⟨RX9, "led", "(II)I"⟩
abbrev cX9_load : ByteArray := prog_11_method_33_code
def yX9_load : MethodName := ⟨RX9, "load", "(II)I"⟩
abbrev cX9_drop : ByteArray := prog_11_method_34_code
def yX9_drop : MethodName := ⟨RX9, "drop", "()I"⟩
abbrev cX9_layOrder : ByteArray := prog_11_method_35_code
def yX9_layOrder : MethodName := ⟨RX9, "layOrder", "(I)Z"⟩
abbrev cX9_worthOfOrder : ByteArray := prog_11_method_36_code
def yX9_worthOfOrder : MethodName := ⟨RX9, "worthOfOrder", "()I"⟩
abbrev cX9_best : ByteArray := prog_11_method_37_code
def yX9_best : MethodName := ⟨RX9, "best", "(I)I"⟩
abbrev cX9_badWeek : ByteArray := prog_11_method_38_code
def yX9_badWeek : MethodName := ⟨RX9, "badWeek", "(III)I"⟩
abbrev cX9_renewed : ByteArray := prog_11_method_39_code
def yX9_renewed : MethodName := ⟨RX9, "renewed", "(III)I"⟩
abbrev cX9_sinAll : ByteArray := prog_11_method_40_code
def yX9_sinAll : MethodName := ⟨RX9, "sinAll", "(III)V"⟩
abbrev cX9_soon : ByteArray := prog_11_method_41_code
def yX9_soon : MethodName := ⟨RX9, "soon", "(IIII)I"⟩
abbrev cX9_weighed : ByteArray := prog_11_method_42_code
def yX9_weighed : MethodName := ⟨RX9, "weighed", "(II)I"⟩
abbrev cX9_forget : ByteArray := prog_11_method_43_code
def yX9_forget : MethodName := ⟨RX9, "forget", "()I"⟩
abbrev cX9_weightOf : ByteArray := prog_11_method_44_code
def yX9_weightOf : MethodName := ⟨RX9, "weightOf", "(II)I"⟩
abbrev cX9_fits : ByteArray := prog_11_method_45_code
def yX9_fits : MethodName := ⟨RX9, "fits", "(I)Z"⟩
abbrev cX9_canBe : ByteArray := prog_11_method_46_code
def yX9_canBe : MethodName := ⟨RX9, "canBe", "(I)I"⟩
abbrev cX9_alikeBy : ByteArray := prog_11_method_47_code
def yX9_alikeBy : MethodName := ⟨RX9, "alikeBy", "(I)I"⟩
abbrev cX9_ask : ByteArray := prog_11_method_48_code
def yX9_ask : MethodName := ⟨RX9, "ask", "()I"⟩
abbrev cX9_sure : ByteArray := prog_11_method_49_code
def yX9_sure : MethodName := ⟨RX9, "sure", "(I)I"⟩
abbrev cX9_doesBy : ByteArray := prog_11_method_50_code
def yX9_doesBy : MethodName := ⟨RX9, "doesBy", "(II)V"⟩
abbrev cX9_year : ByteArray := prog_11_method_51_code
def yX9_year : MethodName := ⟨RX9, "year", "(III)I"⟩
abbrev cX9_pass : ByteArray := prog_11_method_52_code
def yX9_pass : MethodName := ⟨RX9, "pass", "(I)I"⟩
abbrev cX9_passAll : ByteArray := prog_11_method_53_code
def yX9_passAll : MethodName := ⟨RX9, "passAll", "()V"⟩
abbrev cX9_image : ByteArray := prog_11_method_54_code
def yX9_image : MethodName := ⟨RX9, "image", "(I)I"⟩
abbrev cX9_restore : ByteArray := prog_11_method_55_code
def yX9_restore : MethodName := ⟨RX9, "restore", "(I)I"⟩
abbrev cX9_told : ByteArray := prog_11_method_56_code
def yX9_told : MethodName := ⟨RX9, "told", "(I)I"⟩
def RJ6 : String := "java/lang/Integer"
def TJ6 : u_T := fun k => match k with
  | _ => ("", "", "", false)
def tyJ6 : Nat → FieldType := fun k => match k with
  | _ => .int
abbrev wsJ60 : List Cond := u_ws RJ6 TJ6 0
theorem nmJ6 : ∀ a, a < 0 → ∀ b, b < 0 → a ≠ b → (TJ6 a).2.1 ≠ (TJ6 b).2.1 := by decide +kernel
theorem tyJ6_ok : ∀ k, k < 0 → parseFieldDescriptor (TJ6 k).2.2.1 = some (tyJ6 k) := by decide +kernel
abbrev cJ6_numberOfTrailingZeros_0f7a4 : ByteArray := prog_12_method_48_code
def yJ6_numberOfTrailingZeros_0f7a4 : MethodName := ⟨RJ6, "numberOfTrailingZeros", "(I)I"⟩
abbrev cJ6_bitCount_0f7a4 : ByteArray := prog_12_method_49_code
def yJ6_bitCount_0f7a4 : MethodName := ⟨RJ6, "bitCount", "(I)I"⟩
def RJ9 : String := "java/lang/Math"
def TJ9 : u_T := fun k => match k with
  | _ => ("", "", "", false)
def tyJ9 : Nat → FieldType := fun k => match k with
  | _ => .int
abbrev wsJ90 : List Cond := u_ws RJ9 TJ9 0
theorem nmJ9 : ∀ a, a < 0 → ∀ b, b < 0 → a ≠ b → (TJ9 a).2.1 ≠ (TJ9 b).2.1 := by decide +kernel
theorem tyJ9_ok : ∀ k, k < 0 → parseFieldDescriptor (TJ9 k).2.2.1 = some (tyJ9 k) := by decide +kernel
abbrev cJ9_max_7cf53 : ByteArray := prog_13_method_65_code
def yJ9_max_7cf53 : MethodName := ⟨RJ9, "max", "(II)I"⟩
abbrev cJ9_min_7cf53 : ByteArray := prog_13_method_69_code
def yJ9_min_7cf53 : MethodName := ⟨RJ9, "min", "(II)I"⟩
def RJ10 : String := "java/lang/System"
def TJ10 : u_T := fun k => match k with
  | _ => ("", "", "", false)
def tyJ10 : Nat → FieldType := fun k => match k with
  | _ => .int
abbrev wsJ100 : List Cond := u_ws RJ10 TJ10 0
theorem nmJ10 : ∀ a, a < 0 → ∀ b, b < 0 → a ≠ b → (TJ10 a).2.1 ≠ (TJ10 b).2.1 := by decide +kernel
theorem tyJ10_ok : ∀ k, k < 0 → parseFieldDescriptor (TJ10 k).2.2.1 = some (tyJ10 k) := by decide +kernel
def RJ7 : String := "java/util/Arrays"
def TJ7 : u_T := fun k => match k with
  | _ => ("", "", "", false)
def tyJ7 : Nat → FieldType := fun k => match k with
  | _ => .int
abbrev wsJ70 : List Cond := u_ws RJ7 TJ7 0
theorem nmJ7 : ∀ a, a < 0 → ∀ b, b < 0 → a ≠ b → (TJ7 a).2.1 ≠ (TJ7 b).2.1 := by decide +kernel
theorem tyJ7_ok : ∀ k, k < 0 → parseFieldDescriptor (TJ7 k).2.2.1 = some (tyJ7 k) := by decide +kernel
abbrev cJ7_fill_53178 : ByteArray := prog_15_method_103_code
def yJ7_fill_53178 : MethodName := ⟨RJ7, "fill", "([II)V"⟩
def RL : String := "HairBridgeLaw"
abbrev cL_law : ByteArray := code
def yL_law : MethodName := ⟨RL, "law", "([I)Z"⟩
abbrev vwCl : List vw_C := [(RX0, TX0, 8), (RX1, TX1, 4), (RX2, TX2, 2), (RX3, TX3, 3), (RX4, TX4, 9), (RX5, TX5, 4), (RX6, TX6, 3), (RX7, TX7, 4), (RX8, TX8, 8), (RX9, TX9, 37)]
set_option maxRecDepth 100000 in
theorem inX0 : ∀ w ∈ u_ws RX0 TX0 8, w ∈ lw_tbl := by decide +kernel
set_option maxRecDepth 100000 in
theorem inX1 : ∀ w ∈ u_ws RX1 TX1 4, w ∈ lw_tbl := by decide +kernel
set_option maxRecDepth 100000 in
theorem inX2 : ∀ w ∈ u_ws RX2 TX2 2, w ∈ lw_tbl := by decide +kernel
set_option maxRecDepth 100000 in
theorem inX3 : ∀ w ∈ u_ws RX3 TX3 3, w ∈ lw_tbl := by decide +kernel
set_option maxRecDepth 100000 in
theorem inX4 : ∀ w ∈ u_ws RX4 TX4 9, w ∈ lw_tbl := by decide +kernel
set_option maxRecDepth 100000 in
theorem inX5 : ∀ w ∈ u_ws RX5 TX5 4, w ∈ lw_tbl := by decide +kernel
set_option maxRecDepth 100000 in
theorem inX6 : ∀ w ∈ u_ws RX6 TX6 3, w ∈ lw_tbl := by decide +kernel
set_option maxRecDepth 100000 in
theorem inX7 : ∀ w ∈ u_ws RX7 TX7 4, w ∈ lw_tbl := by decide +kernel
set_option maxRecDepth 100000 in
theorem inX8 : ∀ w ∈ u_ws RX8 TX8 8, w ∈ lw_tbl := by decide +kernel
set_option maxRecDepth 100000 in
theorem inX9 : ∀ w ∈ u_ws RX9 TX9 37, w ∈ lw_tbl := by decide +kernel
end
section
theorem dX0_init_0 : decode cX0_init 0 = .ok (.aload_n 0, 1) := by decide +kernel
theorem dX0_init_1 : decode cX0_init 1 = .ok (.invokespecial 3, 3) := by decide +kernel
theorem dX0_init_4 : decode cX0_init 4 = .ok (.aload_n 0, 1) := by decide +kernel
theorem dX0_init_5 : decode cX0_init 5 = .ok (.bipush 6, 2) := by decide +kernel
theorem dX0_init_7 : decode cX0_init 7 = .ok (.newarray .int, 2) := by decide +kernel
theorem dX0_init_9 : decode cX0_init 9 = .ok (.putfield 9, 3) := by decide +kernel
theorem dX0_init_12 : decode cX0_init 12 = .ok (.aload_n 0, 1) := by decide +kernel
theorem dX0_init_13 : decode cX0_init 13 = .ok (.bipush 6, 2) := by decide +kernel
theorem dX0_init_15 : decode cX0_init 15 = .ok (.newarray .int, 2) := by decide +kernel
theorem dX0_init_17 : decode cX0_init 17 = .ok (.putfield 15, 3) := by decide +kernel
theorem dX0_init_20 : decode cX0_init 20 = .ok (.aload_n 0, 1) := by decide +kernel
theorem dX0_init_21 : decode cX0_init 21 = .ok (.bipush 6, 2) := by decide +kernel
theorem dX0_init_23 : decode cX0_init 23 = .ok (.newarray .int, 2) := by decide +kernel
theorem dX0_init_25 : decode cX0_init 25 = .ok (.putfield 18, 3) := by decide +kernel
theorem dX0_init_28 : decode cX0_init 28 = .ok (.aload_n 0, 1) := by decide +kernel
theorem dX0_init_29 : decode cX0_init 29 = .ok (.bipush 6, 2) := by decide +kernel
theorem dX0_init_31 : decode cX0_init 31 = .ok (.newarray .int, 2) := by decide +kernel
theorem dX0_init_33 : decode cX0_init 33 = .ok (.putfield 21, 3) := by decide +kernel
theorem dX0_init_36 : decode cX0_init 36 = .ok (.aload_n 0, 1) := by decide +kernel
theorem dX0_init_37 : decode cX0_init 37 = .ok (.iconst 4, 1) := by decide +kernel
theorem dX0_init_38 : decode cX0_init 38 = .ok (.anewarray 24, 3) := by decide +kernel
theorem dX0_init_41 : decode cX0_init 41 = .ok (.putfield 26, 3) := by decide +kernel
theorem dX0_init_44 : decode cX0_init 44 = .ok (.aload_n 0, 1) := by decide +kernel
theorem dX0_init_45 : decode cX0_init 45 = .ok (.iconst 4, 1) := by decide +kernel
theorem dX0_init_46 : decode cX0_init 46 = .ok (.newarray .int, 2) := by decide +kernel
theorem dX0_init_48 : decode cX0_init 48 = .ok (.putfield 30, 3) := by decide +kernel
theorem dX0_init_51 : decode cX0_init 51 = .ok (.aload_n 0, 1) := by decide +kernel
theorem dX0_init_52 : decode cX0_init 52 = .ok (.getfield 9, 3) := by decide +kernel
theorem dX0_init_55 : decode cX0_init 55 = .ok (.bipush 10, 2) := by decide +kernel
theorem dX0_init_57 : decode cX0_init 57 = .ok (.invokestatic 33, 3) := by decide +kernel
theorem dX0_init_60 : decode cX0_init 60 = .ok (.aload_n 0, 1) := by decide +kernel
theorem dX0_init_61 : decode cX0_init 61 = .ok (.getfield 15, 3) := by decide +kernel
theorem dX0_init_64 : decode cX0_init 64 = .ok (.iconst 5, 1) := by decide +kernel
theorem dX0_init_65 : decode cX0_init 65 = .ok (.invokestatic 33, 3) := by decide +kernel
theorem dX0_init_68 : decode cX0_init 68 = .ok (.iconst 0, 1) := by decide +kernel
theorem dX0_init_69 : decode cX0_init 69 = .ok (.istore_n 1, 1) := by decide +kernel
theorem dX0_init_70 : decode cX0_init 70 = .ok (.iload_n 1, 1) := by decide +kernel
theorem dX0_init_71 : decode cX0_init 71 = .ok (.iconst 4, 1) := by decide +kernel
theorem dX0_init_72 : decode cX0_init 72 = .ok (.if_icmp .ge 22, 3) := by decide +kernel
theorem dX0_init_75 : decode cX0_init 75 = .ok (.aload_n 0, 1) := by decide +kernel
theorem dX0_init_76 : decode cX0_init 76 = .ok (.getfield 26, 3) := by decide +kernel
theorem dX0_init_79 : decode cX0_init 79 = .ok (.iload_n 1, 1) := by decide +kernel
theorem dX0_init_80 : decode cX0_init 80 = .ok (.new 24, 3) := by decide +kernel
theorem dX0_init_83 : decode cX0_init 83 = .ok (.dup, 1) := by decide +kernel
theorem dX0_init_84 : decode cX0_init 84 = .ok (.invokespecial 39, 3) := by decide +kernel
theorem dX0_init_87 : decode cX0_init 87 = .ok (.aastore, 1) := by decide +kernel
theorem dX0_init_88 : decode cX0_init 88 = .ok (.iinc 1 1, 3) := by decide +kernel
theorem dX0_init_91 : decode cX0_init 91 = .ok (.goto (-21), 3) := by decide +kernel
theorem dX0_init_94 : decode cX0_init 94 = .ok (.aload_n 0, 1) := by decide +kernel
theorem dX0_init_95 : decode cX0_init 95 = .ok (.iconst 1, 1) := by decide +kernel
theorem dX0_init_96 : decode cX0_init 96 = .ok (.putfield 40, 3) := by decide +kernel
theorem dX0_init_99 : decode cX0_init 99 = .ok (.return_, 1) := by decide +kernel
theorem dX0_become_0 : decode cX0_become 0 = .ok (.aload_n 1, 1) := by decide +kernel
theorem dX0_become_1 : decode cX0_become 1 = .ok (.getfield 9, 3) := by decide +kernel
theorem dX0_become_4 : decode cX0_become 4 = .ok (.iconst 0, 1) := by decide +kernel
theorem dX0_become_5 : decode cX0_become 5 = .ok (.aload_n 0, 1) := by decide +kernel
theorem dX0_become_6 : decode cX0_become 6 = .ok (.getfield 9, 3) := by decide +kernel
theorem dX0_become_9 : decode cX0_become 9 = .ok (.iconst 0, 1) := by decide +kernel
theorem dX0_become_10 : decode cX0_become 10 = .ok (.bipush 6, 2) := by decide +kernel
theorem dX0_become_12 : decode cX0_become 12 = .ok (.invokestatic 44, 3) := by decide +kernel
theorem dX0_become_15 : decode cX0_become 15 = .ok (.aload_n 1, 1) := by decide +kernel
theorem dX0_become_16 : decode cX0_become 16 = .ok (.getfield 15, 3) := by decide +kernel
theorem dX0_become_19 : decode cX0_become 19 = .ok (.iconst 0, 1) := by decide +kernel
theorem dX0_become_20 : decode cX0_become 20 = .ok (.aload_n 0, 1) := by decide +kernel
theorem dX0_become_21 : decode cX0_become 21 = .ok (.getfield 15, 3) := by decide +kernel
theorem dX0_become_24 : decode cX0_become 24 = .ok (.iconst 0, 1) := by decide +kernel
theorem dX0_become_25 : decode cX0_become 25 = .ok (.bipush 6, 2) := by decide +kernel
theorem dX0_become_27 : decode cX0_become 27 = .ok (.invokestatic 44, 3) := by decide +kernel
theorem dX0_become_30 : decode cX0_become 30 = .ok (.aload_n 1, 1) := by decide +kernel
theorem dX0_become_31 : decode cX0_become 31 = .ok (.getfield 18, 3) := by decide +kernel
theorem dX0_become_34 : decode cX0_become 34 = .ok (.iconst 0, 1) := by decide +kernel
theorem dX0_become_35 : decode cX0_become 35 = .ok (.aload_n 0, 1) := by decide +kernel
theorem dX0_become_36 : decode cX0_become 36 = .ok (.getfield 18, 3) := by decide +kernel
theorem dX0_become_39 : decode cX0_become 39 = .ok (.iconst 0, 1) := by decide +kernel
theorem dX0_become_40 : decode cX0_become 40 = .ok (.bipush 6, 2) := by decide +kernel
theorem dX0_become_42 : decode cX0_become 42 = .ok (.invokestatic 44, 3) := by decide +kernel
theorem dX0_become_45 : decode cX0_become 45 = .ok (.aload_n 1, 1) := by decide +kernel
theorem dX0_become_46 : decode cX0_become 46 = .ok (.getfield 21, 3) := by decide +kernel
theorem dX0_become_49 : decode cX0_become 49 = .ok (.iconst 0, 1) := by decide +kernel
theorem dX0_become_50 : decode cX0_become 50 = .ok (.aload_n 0, 1) := by decide +kernel
theorem dX0_become_51 : decode cX0_become 51 = .ok (.getfield 21, 3) := by decide +kernel
theorem dX0_become_54 : decode cX0_become 54 = .ok (.iconst 0, 1) := by decide +kernel
theorem dX0_become_55 : decode cX0_become 55 = .ok (.bipush 6, 2) := by decide +kernel
theorem dX0_become_57 : decode cX0_become 57 = .ok (.invokestatic 44, 3) := by decide +kernel
theorem dX0_become_60 : decode cX0_become 60 = .ok (.iconst 0, 1) := by decide +kernel
theorem dX0_become_61 : decode cX0_become 61 = .ok (.istore_n 2, 1) := by decide +kernel
theorem dX0_become_62 : decode cX0_become 62 = .ok (.iload_n 2, 1) := by decide +kernel
theorem dX0_become_63 : decode cX0_become 63 = .ok (.iconst 4, 1) := by decide +kernel
theorem dX0_become_64 : decode cX0_become 64 = .ok (.if_icmp .ge 24, 3) := by decide +kernel
theorem dX0_become_67 : decode cX0_become 67 = .ok (.aload_n 0, 1) := by decide +kernel
theorem dX0_become_68 : decode cX0_become 68 = .ok (.getfield 26, 3) := by decide +kernel
theorem dX0_become_71 : decode cX0_become 71 = .ok (.iload_n 2, 1) := by decide +kernel
theorem dX0_become_72 : decode cX0_become 72 = .ok (.aaload, 1) := by decide +kernel
theorem dX0_become_73 : decode cX0_become 73 = .ok (.aload_n 1, 1) := by decide +kernel
theorem dX0_become_74 : decode cX0_become 74 = .ok (.getfield 26, 3) := by decide +kernel
theorem dX0_become_77 : decode cX0_become 77 = .ok (.iload_n 2, 1) := by decide +kernel
theorem dX0_become_78 : decode cX0_become 78 = .ok (.aaload, 1) := by decide +kernel
theorem dX0_become_79 : decode cX0_become 79 = .ok (.invokevirtual 50, 3) := by decide +kernel
theorem dX0_become_82 : decode cX0_become 82 = .ok (.iinc 2 1, 3) := by decide +kernel
theorem dX0_become_85 : decode cX0_become 85 = .ok (.goto (-23), 3) := by decide +kernel
theorem dX0_become_88 : decode cX0_become 88 = .ok (.aload_n 0, 1) := by decide +kernel
theorem dX0_become_89 : decode cX0_become 89 = .ok (.aload_n 1, 1) := by decide +kernel
theorem dX0_become_90 : decode cX0_become 90 = .ok (.getfield 40, 3) := by decide +kernel
theorem dX0_become_93 : decode cX0_become 93 = .ok (.putfield 40, 3) := by decide +kernel
theorem dX0_become_96 : decode cX0_become 96 = .ok (.aload_n 0, 1) := by decide +kernel
theorem dX0_become_97 : decode cX0_become 97 = .ok (.aload_n 1, 1) := by decide +kernel
theorem dX0_become_98 : decode cX0_become 98 = .ok (.getfield 54, 3) := by decide +kernel
theorem dX0_become_101 : decode cX0_become 101 = .ok (.putfield 54, 3) := by decide +kernel
theorem dX0_become_104 : decode cX0_become 104 = .ok (.return_, 1) := by decide +kernel
theorem dX0_sin_0 : decode cX0_sin 0 = .ok (.aload_n 0, 1) := by decide +kernel
theorem dX0_sin_1 : decode cX0_sin 1 = .ok (.getfield 9, 3) := by decide +kernel
theorem dX0_sin_4 : decode cX0_sin 4 = .ok (.iload_n 1, 1) := by decide +kernel
theorem dX0_sin_5 : decode cX0_sin 5 = .ok (.iaload, 1) := by decide +kernel
theorem dX0_sin_6 : decode cX0_sin 6 = .ok (.iload_n 2, 1) := by decide +kernel
theorem dX0_sin_7 : decode cX0_sin 7 = .ok (.iadd, 1) := by decide +kernel
theorem dX0_sin_8 : decode cX0_sin 8 = .ok (.bipush 40, 2) := by decide +kernel
theorem dX0_sin_10 : decode cX0_sin 10 = .ok (.if_icmp .le 5, 3) := by decide +kernel
theorem dX0_sin_13 : decode cX0_sin 13 = .ok (.iconst 1, 1) := by decide +kernel
theorem dX0_sin_14 : decode cX0_sin 14 = .ok (.ireturn, 1) := by decide +kernel
theorem dX0_sin_15 : decode cX0_sin 15 = .ok (.aload_n 0, 1) := by decide +kernel
theorem dX0_sin_16 : decode cX0_sin 16 = .ok (.getfield 9, 3) := by decide +kernel
theorem dX0_sin_19 : decode cX0_sin 19 = .ok (.iload_n 1, 1) := by decide +kernel
theorem dX0_sin_20 : decode cX0_sin 20 = .ok (.dup2, 1) := by decide +kernel
theorem dX0_sin_21 : decode cX0_sin 21 = .ok (.iaload, 1) := by decide +kernel
theorem dX0_sin_22 : decode cX0_sin 22 = .ok (.iload_n 2, 1) := by decide +kernel
theorem dX0_sin_23 : decode cX0_sin 23 = .ok (.iadd, 1) := by decide +kernel
theorem dX0_sin_24 : decode cX0_sin 24 = .ok (.iastore, 1) := by decide +kernel
theorem dX0_sin_25 : decode cX0_sin 25 = .ok (.iconst 0, 1) := by decide +kernel
theorem dX0_sin_26 : decode cX0_sin 26 = .ok (.ireturn, 1) := by decide +kernel
theorem dX0_pray_0 : decode cX0_pray 0 = .ok (.aload_n 0, 1) := by decide +kernel
theorem dX0_pray_1 : decode cX0_pray 1 = .ok (.getfield 9, 3) := by decide +kernel
theorem dX0_pray_4 : decode cX0_pray 4 = .ok (.iload_n 1, 1) := by decide +kernel
theorem dX0_pray_5 : decode cX0_pray 5 = .ok (.iaload, 1) := by decide +kernel
theorem dX0_pray_6 : decode cX0_pray 6 = .ok (.iload_n 2, 1) := by decide +kernel
theorem dX0_pray_7 : decode cX0_pray 7 = .ok (.if_icmp .ge 5, 3) := by decide +kernel
theorem dX0_pray_10 : decode cX0_pray 10 = .ok (.iconst 2, 1) := by decide +kernel
theorem dX0_pray_11 : decode cX0_pray 11 = .ok (.ireturn, 1) := by decide +kernel
theorem dX0_pray_12 : decode cX0_pray 12 = .ok (.aload_n 0, 1) := by decide +kernel
theorem dX0_pray_13 : decode cX0_pray 13 = .ok (.getfield 18, 3) := by decide +kernel
theorem dX0_pray_16 : decode cX0_pray 16 = .ok (.iload_n 1, 1) := by decide +kernel
theorem dX0_pray_17 : decode cX0_pray 17 = .ok (.iaload, 1) := by decide +kernel
theorem dX0_pray_18 : decode cX0_pray 18 = .ok (.iload_n 2, 1) := by decide +kernel
theorem dX0_pray_19 : decode cX0_pray 19 = .ok (.iadd, 1) := by decide +kernel
theorem dX0_pray_20 : decode cX0_pray 20 = .ok (.bipush 99, 2) := by decide +kernel
theorem dX0_pray_22 : decode cX0_pray 22 = .ok (.if_icmp .le 5, 3) := by decide +kernel
theorem dX0_pray_25 : decode cX0_pray 25 = .ok (.iconst 5, 1) := by decide +kernel
theorem dX0_pray_26 : decode cX0_pray 26 = .ok (.ireturn, 1) := by decide +kernel
theorem dX0_pray_27 : decode cX0_pray 27 = .ok (.aload_n 0, 1) := by decide +kernel
theorem dX0_pray_28 : decode cX0_pray 28 = .ok (.getfield 9, 3) := by decide +kernel
theorem dX0_pray_31 : decode cX0_pray 31 = .ok (.iload_n 1, 1) := by decide +kernel
theorem dX0_pray_32 : decode cX0_pray 32 = .ok (.dup2, 1) := by decide +kernel
theorem dX0_pray_33 : decode cX0_pray 33 = .ok (.iaload, 1) := by decide +kernel
theorem dX0_pray_34 : decode cX0_pray 34 = .ok (.iload_n 2, 1) := by decide +kernel
theorem dX0_pray_35 : decode cX0_pray 35 = .ok (.isub, 1) := by decide +kernel
theorem dX0_pray_36 : decode cX0_pray 36 = .ok (.iastore, 1) := by decide +kernel
theorem dX0_pray_37 : decode cX0_pray 37 = .ok (.aload_n 0, 1) := by decide +kernel
theorem dX0_pray_38 : decode cX0_pray 38 = .ok (.getfield 18, 3) := by decide +kernel
theorem dX0_pray_41 : decode cX0_pray 41 = .ok (.iload_n 1, 1) := by decide +kernel
theorem dX0_pray_42 : decode cX0_pray 42 = .ok (.dup2, 1) := by decide +kernel
theorem dX0_pray_43 : decode cX0_pray 43 = .ok (.iaload, 1) := by decide +kernel
theorem dX0_pray_44 : decode cX0_pray 44 = .ok (.iload_n 2, 1) := by decide +kernel
theorem dX0_pray_45 : decode cX0_pray 45 = .ok (.iadd, 1) := by decide +kernel
theorem dX0_pray_46 : decode cX0_pray 46 = .ok (.iastore, 1) := by decide +kernel
theorem dX0_pray_47 : decode cX0_pray 47 = .ok (.iconst 0, 1) := by decide +kernel
theorem dX0_pray_48 : decode cX0_pray 48 = .ok (.ireturn, 1) := by decide +kernel
theorem dX0_weave_0 : decode cX0_weave 0 = .ok (.aload_n 0, 1) := by decide +kernel
theorem dX0_weave_1 : decode cX0_weave 1 = .ok (.getfield 18, 3) := by decide +kernel
theorem dX0_weave_4 : decode cX0_weave 4 = .ok (.iload_n 1, 1) := by decide +kernel
theorem dX0_weave_5 : decode cX0_weave 5 = .ok (.iaload, 1) := by decide +kernel
theorem dX0_weave_6 : decode cX0_weave 6 = .ok (.ifCond .ne 5, 3) := by decide +kernel
theorem dX0_weave_9 : decode cX0_weave 9 = .ok (.iconst 3, 1) := by decide +kernel
theorem dX0_weave_10 : decode cX0_weave 10 = .ok (.ireturn, 1) := by decide +kernel
theorem dX0_weave_11 : decode cX0_weave 11 = .ok (.aload_n 0, 1) := by decide +kernel
theorem dX0_weave_12 : decode cX0_weave 12 = .ok (.getfield 26, 3) := by decide +kernel
theorem dX0_weave_15 : decode cX0_weave 15 = .ok (.iload_n 2, 1) := by decide +kernel
theorem dX0_weave_16 : decode cX0_weave 16 = .ok (.aaload, 1) := by decide +kernel
theorem dX0_weave_17 : decode cX0_weave 17 = .ok (.invokevirtual 57, 3) := by decide +kernel
theorem dX0_weave_20 : decode cX0_weave 20 = .ok (.ifCond .ne 5, 3) := by decide +kernel
theorem dX0_weave_23 : decode cX0_weave 23 = .ok (.iconst 4, 1) := by decide +kernel
theorem dX0_weave_24 : decode cX0_weave 24 = .ok (.ireturn, 1) := by decide +kernel
theorem dX0_weave_25 : decode cX0_weave 25 = .ok (.aload_n 0, 1) := by decide +kernel
theorem dX0_weave_26 : decode cX0_weave 26 = .ok (.getfield 26, 3) := by decide +kernel
theorem dX0_weave_29 : decode cX0_weave 29 = .ok (.iload_n 2, 1) := by decide +kernel
theorem dX0_weave_30 : decode cX0_weave 30 = .ok (.aaload, 1) := by decide +kernel
theorem dX0_weave_31 : decode cX0_weave 31 = .ok (.iload_n 1, 1) := by decide +kernel
theorem dX0_weave_32 : decode cX0_weave 32 = .ok (.aload_n 0, 1) := by decide +kernel
theorem dX0_weave_33 : decode cX0_weave 33 = .ok (.getfield 18, 3) := by decide +kernel
theorem dX0_weave_36 : decode cX0_weave 36 = .ok (.iload_n 1, 1) := by decide +kernel
theorem dX0_weave_37 : decode cX0_weave 37 = .ok (.iaload, 1) := by decide +kernel
theorem dX0_weave_38 : decode cX0_weave 38 = .ok (.aload_n 0, 1) := by decide +kernel
theorem dX0_weave_39 : decode cX0_weave 39 = .ok (.getfield 54, 3) := by decide +kernel
theorem dX0_weave_42 : decode cX0_weave 42 = .ok (.invokevirtual 61, 3) := by decide +kernel
theorem dX0_weave_45 : decode cX0_weave 45 = .ok (.aload_n 0, 1) := by decide +kernel
theorem dX0_weave_46 : decode cX0_weave 46 = .ok (.getfield 18, 3) := by decide +kernel
theorem dX0_weave_49 : decode cX0_weave 49 = .ok (.iload_n 1, 1) := by decide +kernel
theorem dX0_weave_50 : decode cX0_weave 50 = .ok (.iconst 0, 1) := by decide +kernel
theorem dX0_weave_51 : decode cX0_weave 51 = .ok (.iastore, 1) := by decide +kernel
theorem dX0_weave_52 : decode cX0_weave 52 = .ok (.iconst 0, 1) := by decide +kernel
theorem dX0_weave_53 : decode cX0_weave 53 = .ok (.ireturn, 1) := by decide +kernel
theorem dX0_passWeek_0 : decode cX0_passWeek 0 = .ok (.iconst 0, 1) := by decide +kernel
theorem dX0_passWeek_1 : decode cX0_passWeek 1 = .ok (.istore_n 1, 1) := by decide +kernel
theorem dX0_passWeek_2 : decode cX0_passWeek 2 = .ok (.iload_n 1, 1) := by decide +kernel
theorem dX0_passWeek_3 : decode cX0_passWeek 3 = .ok (.iconst 4, 1) := by decide +kernel
theorem dX0_passWeek_4 : decode cX0_passWeek 4 = .ok (.if_icmp .ge 26, 3) := by decide +kernel
theorem dX0_passWeek_7 : decode cX0_passWeek 7 = .ok (.aload_n 0, 1) := by decide +kernel
theorem dX0_passWeek_8 : decode cX0_passWeek 8 = .ok (.getfield 26, 3) := by decide +kernel
theorem dX0_passWeek_11 : decode cX0_passWeek 11 = .ok (.iload_n 1, 1) := by decide +kernel
theorem dX0_passWeek_12 : decode cX0_passWeek 12 = .ok (.aaload, 1) := by decide +kernel
theorem dX0_passWeek_13 : decode cX0_passWeek 13 = .ok (.aload_n 0, 1) := by decide +kernel
theorem dX0_passWeek_14 : decode cX0_passWeek 14 = .ok (.getfield 40, 3) := by decide +kernel
theorem dX0_passWeek_17 : decode cX0_passWeek 17 = .ok (.aload_n 0, 1) := by decide +kernel
theorem dX0_passWeek_18 : decode cX0_passWeek 18 = .ok (.getfield 21, 3) := by decide +kernel
theorem dX0_passWeek_21 : decode cX0_passWeek 21 = .ok (.invokevirtual 65, 3) := by decide +kernel
theorem dX0_passWeek_24 : decode cX0_passWeek 24 = .ok (.iinc 1 1, 3) := by decide +kernel
theorem dX0_passWeek_27 : decode cX0_passWeek 27 = .ok (.goto (-25), 3) := by decide +kernel
theorem dX0_passWeek_30 : decode cX0_passWeek 30 = .ok (.aload_n 0, 1) := by decide +kernel
theorem dX0_passWeek_31 : decode cX0_passWeek 31 = .ok (.dup, 1) := by decide +kernel
theorem dX0_passWeek_32 : decode cX0_passWeek 32 = .ok (.getfield 54, 3) := by decide +kernel
theorem dX0_passWeek_35 : decode cX0_passWeek 35 = .ok (.iconst 1, 1) := by decide +kernel
theorem dX0_passWeek_36 : decode cX0_passWeek 36 = .ok (.iadd, 1) := by decide +kernel
theorem dX0_passWeek_37 : decode cX0_passWeek 37 = .ok (.putfield 54, 3) := by decide +kernel
theorem dX0_passWeek_40 : decode cX0_passWeek 40 = .ok (.return_, 1) := by decide +kernel
theorem dX0_giveAll_0 : decode cX0_giveAll 0 = .ok (.iconst 0, 1) := by decide +kernel
theorem dX0_giveAll_1 : decode cX0_giveAll 1 = .ok (.istore 4, 2) := by decide +kernel
theorem dX0_giveAll_3 : decode cX0_giveAll 3 = .ok (.iload 4, 2) := by decide +kernel
theorem dX0_giveAll_5 : decode cX0_giveAll 5 = .ok (.bipush 6, 2) := by decide +kernel
theorem dX0_giveAll_7 : decode cX0_giveAll 7 = .ok (.if_icmp .ge 72, 3) := by decide +kernel
theorem dX0_giveAll_10 : decode cX0_giveAll 10 = .ok (.iload_n 1, 1) := by decide +kernel
theorem dX0_giveAll_11 : decode cX0_giveAll 11 = .ok (.iload 4, 2) := by decide +kernel
theorem dX0_giveAll_13 : decode cX0_giveAll 13 = .ok (.ishr, 1) := by decide +kernel
theorem dX0_giveAll_14 : decode cX0_giveAll 14 = .ok (.iconst 1, 1) := by decide +kernel
theorem dX0_giveAll_15 : decode cX0_giveAll 15 = .ok (.iand, 1) := by decide +kernel
theorem dX0_giveAll_16 : decode cX0_giveAll 16 = .ok (.ifCond .eq 57, 3) := by decide +kernel
theorem dX0_giveAll_19 : decode cX0_giveAll 19 = .ok (.bipush 40, 2) := by decide +kernel
theorem dX0_giveAll_21 : decode cX0_giveAll 21 = .ok (.aload_n 0, 1) := by decide +kernel
theorem dX0_giveAll_22 : decode cX0_giveAll 22 = .ok (.getfield 9, 3) := by decide +kernel
theorem dX0_giveAll_25 : decode cX0_giveAll 25 = .ok (.iload 4, 2) := by decide +kernel
theorem dX0_giveAll_27 : decode cX0_giveAll 27 = .ok (.iaload, 1) := by decide +kernel
theorem dX0_giveAll_28 : decode cX0_giveAll 28 = .ok (.iload_n 2, 1) := by decide +kernel
theorem dX0_giveAll_29 : decode cX0_giveAll 29 = .ok (.iadd, 1) := by decide +kernel
theorem dX0_giveAll_30 : decode cX0_giveAll 30 = .ok (.invokestatic 69, 3) := by decide +kernel
theorem dX0_giveAll_33 : decode cX0_giveAll 33 = .ok (.istore 5, 2) := by decide +kernel
theorem dX0_giveAll_35 : decode cX0_giveAll 35 = .ok (.aload_n 0, 1) := by decide +kernel
theorem dX0_giveAll_36 : decode cX0_giveAll 36 = .ok (.getfield 9, 3) := by decide +kernel
theorem dX0_giveAll_39 : decode cX0_giveAll 39 = .ok (.iload 4, 2) := by decide +kernel
theorem dX0_giveAll_41 : decode cX0_giveAll 41 = .ok (.iconst 0, 1) := by decide +kernel
theorem dX0_giveAll_42 : decode cX0_giveAll 42 = .ok (.iastore, 1) := by decide +kernel
theorem dX0_giveAll_43 : decode cX0_giveAll 43 = .ok (.aload_n 0, 1) := by decide +kernel
theorem dX0_giveAll_44 : decode cX0_giveAll 44 = .ok (.getfield 18, 3) := by decide +kernel
theorem dX0_giveAll_47 : decode cX0_giveAll 47 = .ok (.iload 4, 2) := by decide +kernel
theorem dX0_giveAll_49 : decode cX0_giveAll 49 = .ok (.bipush 99, 2) := by decide +kernel
theorem dX0_giveAll_51 : decode cX0_giveAll 51 = .ok (.aload_n 0, 1) := by decide +kernel
theorem dX0_giveAll_52 : decode cX0_giveAll 52 = .ok (.getfield 18, 3) := by decide +kernel
theorem dX0_giveAll_55 : decode cX0_giveAll 55 = .ok (.iload 4, 2) := by decide +kernel
theorem dX0_giveAll_57 : decode cX0_giveAll 57 = .ok (.iaload, 1) := by decide +kernel
theorem dX0_giveAll_58 : decode cX0_giveAll 58 = .ok (.iload 5, 2) := by decide +kernel
theorem dX0_giveAll_60 : decode cX0_giveAll 60 = .ok (.iadd, 1) := by decide +kernel
theorem dX0_giveAll_61 : decode cX0_giveAll 61 = .ok (.invokestatic 69, 3) := by decide +kernel
theorem dX0_giveAll_64 : decode cX0_giveAll 64 = .ok (.iastore, 1) := by decide +kernel
theorem dX0_giveAll_65 : decode cX0_giveAll 65 = .ok (.aload_n 0, 1) := by decide +kernel
theorem dX0_giveAll_66 : decode cX0_giveAll 66 = .ok (.iload 4, 2) := by decide +kernel
theorem dX0_giveAll_68 : decode cX0_giveAll 68 = .ok (.iload_n 3, 1) := by decide +kernel
theorem dX0_giveAll_69 : decode cX0_giveAll 69 = .ok (.invokevirtual 75, 3) := by decide +kernel
theorem dX0_giveAll_72 : decode cX0_giveAll 72 = .ok (.pop, 1) := by decide +kernel
theorem dX0_giveAll_73 : decode cX0_giveAll 73 = .ok (.iinc 4 1, 3) := by decide +kernel
theorem dX0_giveAll_76 : decode cX0_giveAll 76 = .ok (.goto (-73), 3) := by decide +kernel
theorem dX0_giveAll_79 : decode cX0_giveAll 79 = .ok (.return_, 1) := by decide +kernel
theorem dX0_drawDeeds_0 : decode cX0_drawDeeds 0 = .ok (.iload_n 1, 1) := by decide +kernel
theorem dX0_drawDeeds_1 : decode cX0_drawDeeds 1 = .ok (.istore_n 2, 1) := by decide +kernel
theorem dX0_drawDeeds_2 : decode cX0_drawDeeds 2 = .ok (.iconst 0, 1) := by decide +kernel
theorem dX0_drawDeeds_3 : decode cX0_drawDeeds 3 = .ok (.istore_n 3, 1) := by decide +kernel
theorem dX0_drawDeeds_4 : decode cX0_drawDeeds 4 = .ok (.iload_n 3, 1) := by decide +kernel
theorem dX0_drawDeeds_5 : decode cX0_drawDeeds 5 = .ok (.bipush 6, 2) := by decide +kernel
theorem dX0_drawDeeds_7 : decode cX0_drawDeeds 7 = .ok (.if_icmp .ge 80, 3) := by decide +kernel
theorem dX0_drawDeeds_10 : decode cX0_drawDeeds 10 = .ok (.bipush 75, 2) := by decide +kernel
theorem dX0_drawDeeds_12 : decode cX0_drawDeeds 12 = .ok (.iload_n 2, 1) := by decide +kernel
theorem dX0_drawDeeds_13 : decode cX0_drawDeeds 13 = .ok (.imul, 1) := by decide +kernel
theorem dX0_drawDeeds_14 : decode cX0_drawDeeds 14 = .ok (.bipush 74, 2) := by decide +kernel
theorem dX0_drawDeeds_16 : decode cX0_drawDeeds 16 = .ok (.iadd, 1) := by decide +kernel
theorem dX0_drawDeeds_17 : decode cX0_drawDeeds 17 = .ok (.ldc 78, 2) := by decide +kernel
theorem dX0_drawDeeds_19 : decode cX0_drawDeeds 19 = .ok (.irem, 1) := by decide +kernel
theorem dX0_drawDeeds_20 : decode cX0_drawDeeds 20 = .ok (.istore_n 2, 1) := by decide +kernel
theorem dX0_drawDeeds_21 : decode cX0_drawDeeds 21 = .ok (.iload_n 2, 1) := by decide +kernel
theorem dX0_drawDeeds_22 : decode cX0_drawDeeds 22 = .ok (.iconst 3, 1) := by decide +kernel
theorem dX0_drawDeeds_23 : decode cX0_drawDeeds 23 = .ok (.irem, 1) := by decide +kernel
theorem dX0_drawDeeds_24 : decode cX0_drawDeeds 24 = .ok (.lookupswitch 48 #[(0, 28), (1, 38)], 28) := by decide +kernel
theorem dX0_drawDeeds_52 : decode cX0_drawDeeds 52 = .ok (.aload_n 0, 1) := by decide +kernel
theorem dX0_drawDeeds_53 : decode cX0_drawDeeds 53 = .ok (.iload_n 3, 1) := by decide +kernel
theorem dX0_drawDeeds_54 : decode cX0_drawDeeds 54 = .ok (.iconst 1, 1) := by decide +kernel
theorem dX0_drawDeeds_55 : decode cX0_drawDeeds 55 = .ok (.invokevirtual 79, 3) := by decide +kernel
theorem dX0_drawDeeds_58 : decode cX0_drawDeeds 58 = .ok (.pop, 1) := by decide +kernel
theorem dX0_drawDeeds_59 : decode cX0_drawDeeds 59 = .ok (.goto 22, 3) := by decide +kernel
theorem dX0_drawDeeds_62 : decode cX0_drawDeeds 62 = .ok (.aload_n 0, 1) := by decide +kernel
theorem dX0_drawDeeds_63 : decode cX0_drawDeeds 63 = .ok (.iload_n 3, 1) := by decide +kernel
theorem dX0_drawDeeds_64 : decode cX0_drawDeeds 64 = .ok (.iconst 1, 1) := by decide +kernel
theorem dX0_drawDeeds_65 : decode cX0_drawDeeds 65 = .ok (.invokevirtual 82, 3) := by decide +kernel
theorem dX0_drawDeeds_68 : decode cX0_drawDeeds 68 = .ok (.pop, 1) := by decide +kernel
theorem dX0_drawDeeds_69 : decode cX0_drawDeeds 69 = .ok (.goto 12, 3) := by decide +kernel
theorem dX0_drawDeeds_72 : decode cX0_drawDeeds 72 = .ok (.aload_n 0, 1) := by decide +kernel
theorem dX0_drawDeeds_73 : decode cX0_drawDeeds 73 = .ok (.iload_n 3, 1) := by decide +kernel
theorem dX0_drawDeeds_74 : decode cX0_drawDeeds 74 = .ok (.iload_n 2, 1) := by decide +kernel
theorem dX0_drawDeeds_75 : decode cX0_drawDeeds 75 = .ok (.iconst 4, 1) := by decide +kernel
theorem dX0_drawDeeds_76 : decode cX0_drawDeeds 76 = .ok (.irem, 1) := by decide +kernel
theorem dX0_drawDeeds_77 : decode cX0_drawDeeds 77 = .ok (.invokevirtual 75, 3) := by decide +kernel
theorem dX0_drawDeeds_80 : decode cX0_drawDeeds 80 = .ok (.pop, 1) := by decide +kernel
theorem dX0_drawDeeds_81 : decode cX0_drawDeeds 81 = .ok (.iinc 3 1, 3) := by decide +kernel
theorem dX0_drawDeeds_84 : decode cX0_drawDeeds 84 = .ok (.goto (-80), 3) := by decide +kernel
theorem dX0_drawDeeds_87 : decode cX0_drawDeeds 87 = .ok (.iload_n 2, 1) := by decide +kernel
theorem dX0_drawDeeds_88 : decode cX0_drawDeeds 88 = .ok (.ireturn, 1) := by decide +kernel
theorem dX0_bearsLess_0 : decode cX0_bearsLess 0 = .ok (.iconst 0, 1) := by decide +kernel
theorem dX0_bearsLess_1 : decode cX0_bearsLess 1 = .ok (.istore_n 2, 1) := by decide +kernel
theorem dX0_bearsLess_2 : decode cX0_bearsLess 2 = .ok (.iload_n 2, 1) := by decide +kernel
theorem dX0_bearsLess_3 : decode cX0_bearsLess 3 = .ok (.iconst 4, 1) := by decide +kernel
theorem dX0_bearsLess_4 : decode cX0_bearsLess 4 = .ok (.if_icmp .ge 29, 3) := by decide +kernel
theorem dX0_bearsLess_7 : decode cX0_bearsLess 7 = .ok (.aload_n 0, 1) := by decide +kernel
theorem dX0_bearsLess_8 : decode cX0_bearsLess 8 = .ok (.getfield 30, 3) := by decide +kernel
theorem dX0_bearsLess_11 : decode cX0_bearsLess 11 = .ok (.iload_n 2, 1) := by decide +kernel
theorem dX0_bearsLess_12 : decode cX0_bearsLess 12 = .ok (.aload_n 0, 1) := by decide +kernel
theorem dX0_bearsLess_13 : decode cX0_bearsLess 13 = .ok (.getfield 26, 3) := by decide +kernel
theorem dX0_bearsLess_16 : decode cX0_bearsLess 16 = .ok (.iload_n 2, 1) := by decide +kernel
theorem dX0_bearsLess_17 : decode cX0_bearsLess 17 = .ok (.aaload, 1) := by decide +kernel
theorem dX0_bearsLess_18 : decode cX0_bearsLess 18 = .ok (.iload_n 1, 1) := by decide +kernel
theorem dX0_bearsLess_19 : decode cX0_bearsLess 19 = .ok (.aload_n 0, 1) := by decide +kernel
theorem dX0_bearsLess_20 : decode cX0_bearsLess 20 = .ok (.getfield 15, 3) := by decide +kernel
theorem dX0_bearsLess_23 : decode cX0_bearsLess 23 = .ok (.invokevirtual 85, 3) := by decide +kernel
theorem dX0_bearsLess_26 : decode cX0_bearsLess 26 = .ok (.iastore, 1) := by decide +kernel
theorem dX0_bearsLess_27 : decode cX0_bearsLess 27 = .ok (.iinc 2 1, 3) := by decide +kernel
theorem dX0_bearsLess_30 : decode cX0_bearsLess 30 = .ok (.goto (-28), 3) := by decide +kernel
theorem dX0_bearsLess_33 : decode cX0_bearsLess 33 = .ok (.aload_n 0, 1) := by decide +kernel
theorem dX0_bearsLess_34 : decode cX0_bearsLess 34 = .ok (.getfield 30, 3) := by decide +kernel
theorem dX0_bearsLess_37 : decode cX0_bearsLess 37 = .ok (.invokestatic 89, 3) := by decide +kernel
theorem dX0_bearsLess_40 : decode cX0_bearsLess 40 = .ok (.ireturn, 1) := by decide +kernel
theorem dX0_brokenUnder_0 : decode cX0_brokenUnder 0 = .ok (.iconst 0, 1) := by decide +kernel
theorem dX0_brokenUnder_1 : decode cX0_brokenUnder 1 = .ok (.istore_n 2, 1) := by decide +kernel
theorem dX0_brokenUnder_2 : decode cX0_brokenUnder 2 = .ok (.iconst 0, 1) := by decide +kernel
theorem dX0_brokenUnder_3 : decode cX0_brokenUnder 3 = .ok (.istore_n 3, 1) := by decide +kernel
theorem dX0_brokenUnder_4 : decode cX0_brokenUnder 4 = .ok (.iload_n 3, 1) := by decide +kernel
theorem dX0_brokenUnder_5 : decode cX0_brokenUnder 5 = .ok (.iconst 4, 1) := by decide +kernel
theorem dX0_brokenUnder_6 : decode cX0_brokenUnder 6 = .ok (.if_icmp .ge 44, 3) := by decide +kernel
theorem dX0_brokenUnder_9 : decode cX0_brokenUnder 9 = .ok (.aload_n 0, 1) := by decide +kernel
theorem dX0_brokenUnder_10 : decode cX0_brokenUnder 10 = .ok (.getfield 30, 3) := by decide +kernel
theorem dX0_brokenUnder_13 : decode cX0_brokenUnder 13 = .ok (.iload_n 3, 1) := by decide +kernel
theorem dX0_brokenUnder_14 : decode cX0_brokenUnder 14 = .ok (.aload_n 0, 1) := by decide +kernel
theorem dX0_brokenUnder_15 : decode cX0_brokenUnder 15 = .ok (.getfield 26, 3) := by decide +kernel
theorem dX0_brokenUnder_18 : decode cX0_brokenUnder 18 = .ok (.iload_n 3, 1) := by decide +kernel
theorem dX0_brokenUnder_19 : decode cX0_brokenUnder 19 = .ok (.aaload, 1) := by decide +kernel
theorem dX0_brokenUnder_20 : decode cX0_brokenUnder 20 = .ok (.iconst 0, 1) := by decide +kernel
theorem dX0_brokenUnder_21 : decode cX0_brokenUnder 21 = .ok (.aload_n 0, 1) := by decide +kernel
theorem dX0_brokenUnder_22 : decode cX0_brokenUnder 22 = .ok (.getfield 15, 3) := by decide +kernel
theorem dX0_brokenUnder_25 : decode cX0_brokenUnder 25 = .ok (.invokevirtual 85, 3) := by decide +kernel
theorem dX0_brokenUnder_28 : decode cX0_brokenUnder 28 = .ok (.iastore, 1) := by decide +kernel
theorem dX0_brokenUnder_29 : decode cX0_brokenUnder 29 = .ok (.aload_n 0, 1) := by decide +kernel
theorem dX0_brokenUnder_30 : decode cX0_brokenUnder 30 = .ok (.getfield 30, 3) := by decide +kernel
theorem dX0_brokenUnder_33 : decode cX0_brokenUnder 33 = .ok (.iload_n 3, 1) := by decide +kernel
theorem dX0_brokenUnder_34 : decode cX0_brokenUnder 34 = .ok (.iaload, 1) := by decide +kernel
theorem dX0_brokenUnder_35 : decode cX0_brokenUnder 35 = .ok (.ifCond .le 9, 3) := by decide +kernel
theorem dX0_brokenUnder_38 : decode cX0_brokenUnder 38 = .ok (.iload_n 2, 1) := by decide +kernel
theorem dX0_brokenUnder_39 : decode cX0_brokenUnder 39 = .ok (.iconst 1, 1) := by decide +kernel
theorem dX0_brokenUnder_40 : decode cX0_brokenUnder 40 = .ok (.iload_n 3, 1) := by decide +kernel
theorem dX0_brokenUnder_41 : decode cX0_brokenUnder 41 = .ok (.ishl, 1) := by decide +kernel
theorem dX0_brokenUnder_42 : decode cX0_brokenUnder 42 = .ok (.ior, 1) := by decide +kernel
theorem dX0_brokenUnder_43 : decode cX0_brokenUnder 43 = .ok (.istore_n 2, 1) := by decide +kernel
theorem dX0_brokenUnder_44 : decode cX0_brokenUnder 44 = .ok (.iinc 3 1, 3) := by decide +kernel
theorem dX0_brokenUnder_47 : decode cX0_brokenUnder 47 = .ok (.goto (-43), 3) := by decide +kernel
theorem dX0_brokenUnder_50 : decode cX0_brokenUnder 50 = .ok (.iconst 0, 1) := by decide +kernel
theorem dX0_brokenUnder_51 : decode cX0_brokenUnder 51 = .ok (.istore_n 3, 1) := by decide +kernel
theorem dX0_brokenUnder_52 : decode cX0_brokenUnder 52 = .ok (.iconst 0, 1) := by decide +kernel
theorem dX0_brokenUnder_53 : decode cX0_brokenUnder 53 = .ok (.istore 4, 2) := by decide +kernel
theorem dX0_brokenUnder_55 : decode cX0_brokenUnder 55 = .ok (.iload 4, 2) := by decide +kernel
theorem dX0_brokenUnder_57 : decode cX0_brokenUnder 57 = .ok (.iconst 4, 1) := by decide +kernel
theorem dX0_brokenUnder_58 : decode cX0_brokenUnder 58 = .ok (.if_icmp .ge 29, 3) := by decide +kernel
theorem dX0_brokenUnder_61 : decode cX0_brokenUnder 61 = .ok (.aload_n 0, 1) := by decide +kernel
theorem dX0_brokenUnder_62 : decode cX0_brokenUnder 62 = .ok (.iload_n 2, 1) := by decide +kernel
theorem dX0_brokenUnder_63 : decode cX0_brokenUnder 63 = .ok (.iload_n 1, 1) := by decide +kernel
theorem dX0_brokenUnder_64 : decode cX0_brokenUnder 64 = .ok (.invokevirtual 93, 3) := by decide +kernel
theorem dX0_brokenUnder_67 : decode cX0_brokenUnder 67 = .ok (.istore 5, 2) := by decide +kernel
theorem dX0_brokenUnder_69 : decode cX0_brokenUnder 69 = .ok (.iload_n 3, 1) := by decide +kernel
theorem dX0_brokenUnder_70 : decode cX0_brokenUnder 70 = .ok (.iload 5, 2) := by decide +kernel
theorem dX0_brokenUnder_72 : decode cX0_brokenUnder 72 = .ok (.ior, 1) := by decide +kernel
theorem dX0_brokenUnder_73 : decode cX0_brokenUnder 73 = .ok (.istore_n 3, 1) := by decide +kernel
theorem dX0_brokenUnder_74 : decode cX0_brokenUnder 74 = .ok (.iload_n 2, 1) := by decide +kernel
theorem dX0_brokenUnder_75 : decode cX0_brokenUnder 75 = .ok (.iload 5, 2) := by decide +kernel
theorem dX0_brokenUnder_77 : decode cX0_brokenUnder 77 = .ok (.iconst (-1), 1) := by decide +kernel
theorem dX0_brokenUnder_78 : decode cX0_brokenUnder 78 = .ok (.ixor, 1) := by decide +kernel
theorem dX0_brokenUnder_79 : decode cX0_brokenUnder 79 = .ok (.iand, 1) := by decide +kernel
theorem dX0_brokenUnder_80 : decode cX0_brokenUnder 80 = .ok (.istore_n 2, 1) := by decide +kernel
theorem dX0_brokenUnder_81 : decode cX0_brokenUnder 81 = .ok (.iinc 4 1, 3) := by decide +kernel
theorem dX0_brokenUnder_84 : decode cX0_brokenUnder 84 = .ok (.goto (-29), 3) := by decide +kernel
theorem dX0_brokenUnder_87 : decode cX0_brokenUnder 87 = .ok (.iload_n 3, 1) := by decide +kernel
theorem dX0_brokenUnder_88 : decode cX0_brokenUnder 88 = .ok (.ireturn, 1) := by decide +kernel
theorem dX0_breaking_0 : decode cX0_breaking 0 = .ok (.iload_n 1, 1) := by decide +kernel
theorem dX0_breaking_1 : decode cX0_breaking 1 = .ok (.invokestatic 96, 3) := by decide +kernel
theorem dX0_breaking_4 : decode cX0_breaking 4 = .ok (.istore_n 3, 1) := by decide +kernel
theorem dX0_breaking_5 : decode cX0_breaking 5 = .ok (.iconst 0, 1) := by decide +kernel
theorem dX0_breaking_6 : decode cX0_breaking 6 = .ok (.istore 4, 2) := by decide +kernel
theorem dX0_breaking_8 : decode cX0_breaking 8 = .ok (.iconst 0, 1) := by decide +kernel
theorem dX0_breaking_9 : decode cX0_breaking 9 = .ok (.istore 5, 2) := by decide +kernel
theorem dX0_breaking_11 : decode cX0_breaking 11 = .ok (.iload 5, 2) := by decide +kernel
theorem dX0_breaking_13 : decode cX0_breaking 13 = .ok (.iconst 4, 1) := by decide +kernel
theorem dX0_breaking_14 : decode cX0_breaking 14 = .ok (.if_icmp .ge 40, 3) := by decide +kernel
theorem dX0_breaking_17 : decode cX0_breaking 17 = .ok (.iload_n 1, 1) := by decide +kernel
theorem dX0_breaking_18 : decode cX0_breaking 18 = .ok (.iload 5, 2) := by decide +kernel
theorem dX0_breaking_20 : decode cX0_breaking 20 = .ok (.ishr, 1) := by decide +kernel
theorem dX0_breaking_21 : decode cX0_breaking 21 = .ok (.iconst 1, 1) := by decide +kernel
theorem dX0_breaking_22 : decode cX0_breaking 22 = .ok (.iand, 1) := by decide +kernel
theorem dX0_breaking_23 : decode cX0_breaking 23 = .ok (.ifCond .eq 25, 3) := by decide +kernel
theorem dX0_breaking_26 : decode cX0_breaking 26 = .ok (.aload_n 0, 1) := by decide +kernel
theorem dX0_breaking_27 : decode cX0_breaking 27 = .ok (.getfield 30, 3) := by decide +kernel
theorem dX0_breaking_30 : decode cX0_breaking 30 = .ok (.iload 5, 2) := by decide +kernel
theorem dX0_breaking_32 : decode cX0_breaking 32 = .ok (.iaload, 1) := by decide +kernel
theorem dX0_breaking_33 : decode cX0_breaking 33 = .ok (.iload_n 3, 1) := by decide +kernel
theorem dX0_breaking_34 : decode cX0_breaking 34 = .ok (.imul, 1) := by decide +kernel
theorem dX0_breaking_35 : decode cX0_breaking 35 = .ok (.iload_n 2, 1) := by decide +kernel
theorem dX0_breaking_36 : decode cX0_breaking 36 = .ok (.if_icmp .ge 12, 3) := by decide +kernel
theorem dX0_breaking_39 : decode cX0_breaking 39 = .ok (.iload 4, 2) := by decide +kernel
theorem dX0_breaking_41 : decode cX0_breaking 41 = .ok (.iconst 1, 1) := by decide +kernel
theorem dX0_breaking_42 : decode cX0_breaking 42 = .ok (.iload 5, 2) := by decide +kernel
theorem dX0_breaking_44 : decode cX0_breaking 44 = .ok (.ishl, 1) := by decide +kernel
theorem dX0_breaking_45 : decode cX0_breaking 45 = .ok (.ior, 1) := by decide +kernel
theorem dX0_breaking_46 : decode cX0_breaking 46 = .ok (.istore 4, 2) := by decide +kernel
theorem dX0_breaking_48 : decode cX0_breaking 48 = .ok (.iinc 5 1, 3) := by decide +kernel
theorem dX0_breaking_51 : decode cX0_breaking 51 = .ok (.goto (-40), 3) := by decide +kernel
theorem dX0_breaking_54 : decode cX0_breaking 54 = .ok (.iload 4, 2) := by decide +kernel
theorem dX0_breaking_56 : decode cX0_breaking 56 = .ok (.ireturn, 1) := by decide +kernel
theorem dX0_powerInBasket_0 : decode cX0_powerInBasket 0 = .ok (.aload_n 0, 1) := by decide +kernel
theorem dX0_powerInBasket_1 : decode cX0_powerInBasket 1 = .ok (.getfield 18, 3) := by decide +kernel
theorem dX0_powerInBasket_4 : decode cX0_powerInBasket 4 = .ok (.iload_n 1, 1) := by decide +kernel
theorem dX0_powerInBasket_5 : decode cX0_powerInBasket 5 = .ok (.iaload, 1) := by decide +kernel
theorem dX0_powerInBasket_6 : decode cX0_powerInBasket 6 = .ok (.aload_n 0, 1) := by decide +kernel
theorem dX0_powerInBasket_7 : decode cX0_powerInBasket 7 = .ok (.getfield 15, 3) := by decide +kernel
theorem dX0_powerInBasket_10 : decode cX0_powerInBasket 10 = .ok (.iload_n 1, 1) := by decide +kernel
theorem dX0_powerInBasket_11 : decode cX0_powerInBasket 11 = .ok (.iaload, 1) := by decide +kernel
theorem dX0_powerInBasket_12 : decode cX0_powerInBasket 12 = .ok (.imul, 1) := by decide +kernel
theorem dX0_powerInBasket_13 : decode cX0_powerInBasket 13 = .ok (.ireturn, 1) := by decide +kernel
theorem dX0_inchesOf_0 : decode cX0_inchesOf 0 = .ok (.iconst 0, 1) := by decide +kernel
theorem dX0_inchesOf_1 : decode cX0_inchesOf 1 = .ok (.istore_n 2, 1) := by decide +kernel
theorem dX0_inchesOf_2 : decode cX0_inchesOf 2 = .ok (.iconst 0, 1) := by decide +kernel
theorem dX0_inchesOf_3 : decode cX0_inchesOf 3 = .ok (.istore_n 3, 1) := by decide +kernel
theorem dX0_inchesOf_4 : decode cX0_inchesOf 4 = .ok (.iload_n 3, 1) := by decide +kernel
theorem dX0_inchesOf_5 : decode cX0_inchesOf 5 = .ok (.iconst 4, 1) := by decide +kernel
theorem dX0_inchesOf_6 : decode cX0_inchesOf 6 = .ok (.if_icmp .ge 22, 3) := by decide +kernel
theorem dX0_inchesOf_9 : decode cX0_inchesOf 9 = .ok (.iload_n 2, 1) := by decide +kernel
theorem dX0_inchesOf_10 : decode cX0_inchesOf 10 = .ok (.aload_n 0, 1) := by decide +kernel
theorem dX0_inchesOf_11 : decode cX0_inchesOf 11 = .ok (.getfield 26, 3) := by decide +kernel
theorem dX0_inchesOf_14 : decode cX0_inchesOf 14 = .ok (.iload_n 3, 1) := by decide +kernel
theorem dX0_inchesOf_15 : decode cX0_inchesOf 15 = .ok (.aaload, 1) := by decide +kernel
theorem dX0_inchesOf_16 : decode cX0_inchesOf 16 = .ok (.iload_n 1, 1) := by decide +kernel
theorem dX0_inchesOf_17 : decode cX0_inchesOf 17 = .ok (.invokevirtual 102, 3) := by decide +kernel
theorem dX0_inchesOf_20 : decode cX0_inchesOf 20 = .ok (.iadd, 1) := by decide +kernel
theorem dX0_inchesOf_21 : decode cX0_inchesOf 21 = .ok (.istore_n 2, 1) := by decide +kernel
theorem dX0_inchesOf_22 : decode cX0_inchesOf 22 = .ok (.iinc 3 1, 3) := by decide +kernel
theorem dX0_inchesOf_25 : decode cX0_inchesOf 25 = .ok (.goto (-21), 3) := by decide +kernel
theorem dX0_inchesOf_28 : decode cX0_inchesOf 28 = .ok (.iload_n 2, 1) := by decide +kernel
theorem dX0_inchesOf_29 : decode cX0_inchesOf 29 = .ok (.ireturn, 1) := by decide +kernel
theorem dX0_powerOf_0 : decode cX0_powerOf 0 = .ok (.aload_n 0, 1) := by decide +kernel
theorem dX0_powerOf_1 : decode cX0_powerOf 1 = .ok (.iload_n 1, 1) := by decide +kernel
theorem dX0_powerOf_2 : decode cX0_powerOf 2 = .ok (.invokevirtual 105, 3) := by decide +kernel
theorem dX0_powerOf_5 : decode cX0_powerOf 5 = .ok (.aload_n 0, 1) := by decide +kernel
theorem dX0_powerOf_6 : decode cX0_powerOf 6 = .ok (.getfield 15, 3) := by decide +kernel
theorem dX0_powerOf_9 : decode cX0_powerOf 9 = .ok (.iload_n 1, 1) := by decide +kernel
theorem dX0_powerOf_10 : decode cX0_powerOf 10 = .ok (.iaload, 1) := by decide +kernel
theorem dX0_powerOf_11 : decode cX0_powerOf 11 = .ok (.imul, 1) := by decide +kernel
theorem dX0_powerOf_12 : decode cX0_powerOf 12 = .ok (.ireturn, 1) := by decide +kernel
theorem dX1_init_0 : decode cX1_init 0 = .ok (.aload_n 0, 1) := by decide +kernel
theorem dX1_init_1 : decode cX1_init 1 = .ok (.invokespecial 3, 3) := by decide +kernel
theorem dX1_init_4 : decode cX1_init 4 = .ok (.aload_n 0, 1) := by decide +kernel
theorem dX1_init_5 : decode cX1_init 5 = .ok (.new 9, 3) := by decide +kernel
theorem dX1_init_8 : decode cX1_init 8 = .ok (.dup, 1) := by decide +kernel
theorem dX1_init_9 : decode cX1_init 9 = .ok (.invokespecial 11, 3) := by decide +kernel
theorem dX1_init_12 : decode cX1_init 12 = .ok (.putfield 12, 3) := by decide +kernel
theorem dX1_init_15 : decode cX1_init 15 = .ok (.aload_n 0, 1) := by decide +kernel
theorem dX1_init_16 : decode cX1_init 16 = .ok (.bipush 7, 2) := by decide +kernel
theorem dX1_init_18 : decode cX1_init 18 = .ok (.newarray .int, 2) := by decide +kernel
theorem dX1_init_20 : decode cX1_init 20 = .ok (.putfield 18, 3) := by decide +kernel
theorem dX1_init_23 : decode cX1_init 23 = .ok (.aload_n 0, 1) := by decide +kernel
theorem dX1_init_24 : decode cX1_init 24 = .ok (.sipush 448, 3) := by decide +kernel
theorem dX1_init_27 : decode cX1_init 27 = .ok (.newarray .int, 2) := by decide +kernel
theorem dX1_init_29 : decode cX1_init 29 = .ok (.putfield 22, 3) := by decide +kernel
theorem dX1_init_32 : decode cX1_init 32 = .ok (.aload_n 0, 1) := by decide +kernel
theorem dX1_init_33 : decode cX1_init 33 = .ok (.bipush 6, 2) := by decide +kernel
theorem dX1_init_35 : decode cX1_init 35 = .ok (.newarray .int, 2) := by decide +kernel
theorem dX1_init_37 : decode cX1_init 37 = .ok (.putfield 25, 3) := by decide +kernel
theorem dX1_init_40 : decode cX1_init 40 = .ok (.return_, 1) := by decide +kernel
theorem dX1_most_0 : decode cX1_most 0 = .ok (.aload_n 0, 1) := by decide +kernel
theorem dX1_most_1 : decode cX1_most 1 = .ok (.getfield 22, 3) := by decide +kernel
theorem dX1_most_4 : decode cX1_most 4 = .ok (.iconst 0, 1) := by decide +kernel
theorem dX1_most_5 : decode cX1_most 5 = .ok (.iaload, 1) := by decide +kernel
theorem dX1_most_6 : decode cX1_most 6 = .ok (.ireturn, 1) := by decide +kernel
theorem dX1_turn_0 : decode cX1_turn 0 = .ok (.aload_n 0, 1) := by decide +kernel
theorem dX1_turn_1 : decode cX1_turn 1 = .ok (.getfield 25, 3) := by decide +kernel
theorem dX1_turn_4 : decode cX1_turn 4 = .ok (.iload_n 1, 1) := by decide +kernel
theorem dX1_turn_5 : decode cX1_turn 5 = .ok (.iaload, 1) := by decide +kernel
theorem dX1_turn_6 : decode cX1_turn 6 = .ok (.ireturn, 1) := by decide +kernel
theorem dX1_reckon_0 : decode cX1_reckon 0 = .ok (.aload_n 0, 1) := by decide +kernel
theorem dX1_reckon_1 : decode cX1_reckon 1 = .ok (.getfield 12, 3) := by decide +kernel
theorem dX1_reckon_4 : decode cX1_reckon 4 = .ok (.aload_n 2, 1) := by decide +kernel
theorem dX1_reckon_5 : decode cX1_reckon 5 = .ok (.invokevirtual 28, 3) := by decide +kernel
theorem dX1_reckon_8 : decode cX1_reckon 8 = .ok (.iconst 0, 1) := by decide +kernel
theorem dX1_reckon_9 : decode cX1_reckon 9 = .ok (.istore_n 3, 1) := by decide +kernel
theorem dX1_reckon_10 : decode cX1_reckon 10 = .ok (.iload_n 3, 1) := by decide +kernel
theorem dX1_reckon_11 : decode cX1_reckon 11 = .ok (.aload_n 0, 1) := by decide +kernel
theorem dX1_reckon_12 : decode cX1_reckon 12 = .ok (.getfield 12, 3) := by decide +kernel
theorem dX1_reckon_15 : decode cX1_reckon 15 = .ok (.getfield 32, 3) := by decide +kernel
theorem dX1_reckon_18 : decode cX1_reckon 18 = .ok (.if_icmp .gt 20, 3) := by decide +kernel
theorem dX1_reckon_21 : decode cX1_reckon 21 = .ok (.aload_n 0, 1) := by decide +kernel
theorem dX1_reckon_22 : decode cX1_reckon 22 = .ok (.getfield 18, 3) := by decide +kernel
theorem dX1_reckon_25 : decode cX1_reckon 25 = .ok (.iload_n 3, 1) := by decide +kernel
theorem dX1_reckon_26 : decode cX1_reckon 26 = .ok (.aload_n 1, 1) := by decide +kernel
theorem dX1_reckon_27 : decode cX1_reckon 27 = .ok (.iload_n 3, 1) := by decide +kernel
theorem dX1_reckon_28 : decode cX1_reckon 28 = .ok (.invokevirtual 36, 3) := by decide +kernel
theorem dX1_reckon_31 : decode cX1_reckon 31 = .ok (.iastore, 1) := by decide +kernel
theorem dX1_reckon_32 : decode cX1_reckon 32 = .ok (.iinc 3 1, 3) := by decide +kernel
theorem dX1_reckon_35 : decode cX1_reckon 35 = .ok (.goto (-25), 3) := by decide +kernel
theorem dX1_reckon_38 : decode cX1_reckon 38 = .ok (.iconst 1, 1) := by decide +kernel
theorem dX1_reckon_39 : decode cX1_reckon 39 = .ok (.aload_n 0, 1) := by decide +kernel
theorem dX1_reckon_40 : decode cX1_reckon 40 = .ok (.getfield 12, 3) := by decide +kernel
theorem dX1_reckon_43 : decode cX1_reckon 43 = .ok (.getfield 32, 3) := by decide +kernel
theorem dX1_reckon_46 : decode cX1_reckon 46 = .ok (.ishl, 1) := by decide +kernel
theorem dX1_reckon_47 : decode cX1_reckon 47 = .ok (.iconst 1, 1) := by decide +kernel
theorem dX1_reckon_48 : decode cX1_reckon 48 = .ok (.isub, 1) := by decide +kernel
theorem dX1_reckon_49 : decode cX1_reckon 49 = .ok (.istore_n 3, 1) := by decide +kernel
theorem dX1_reckon_50 : decode cX1_reckon 50 = .ok (.iload_n 3, 1) := by decide +kernel
theorem dX1_reckon_51 : decode cX1_reckon 51 = .ok (.ifCond .lt 45, 3) := by decide +kernel
theorem dX1_reckon_54 : decode cX1_reckon 54 = .ok (.iload_n 3, 1) := by decide +kernel
theorem dX1_reckon_55 : decode cX1_reckon 55 = .ok (.invokestatic 42, 3) := by decide +kernel
theorem dX1_reckon_58 : decode cX1_reckon 58 = .ok (.istore 4, 2) := by decide +kernel
theorem dX1_reckon_60 : decode cX1_reckon 60 = .ok (.iload 4, 2) := by decide +kernel
theorem dX1_reckon_62 : decode cX1_reckon 62 = .ok (.ifCond .lt 28, 3) := by decide +kernel
theorem dX1_reckon_65 : decode cX1_reckon 65 = .ok (.aload_n 0, 1) := by decide +kernel
theorem dX1_reckon_66 : decode cX1_reckon 66 = .ok (.getfield 22, 3) := by decide +kernel
theorem dX1_reckon_69 : decode cX1_reckon 69 = .ok (.iload_n 3, 1) := by decide +kernel
theorem dX1_reckon_70 : decode cX1_reckon 70 = .ok (.bipush 7, 2) := by decide +kernel
theorem dX1_reckon_72 : decode cX1_reckon 72 = .ok (.imul, 1) := by decide +kernel
theorem dX1_reckon_73 : decode cX1_reckon 73 = .ok (.iload 4, 2) := by decide +kernel
theorem dX1_reckon_75 : decode cX1_reckon 75 = .ok (.iadd, 1) := by decide +kernel
theorem dX1_reckon_76 : decode cX1_reckon 76 = .ok (.aload_n 0, 1) := by decide +kernel
theorem dX1_reckon_77 : decode cX1_reckon 77 = .ok (.iload_n 3, 1) := by decide +kernel
theorem dX1_reckon_78 : decode cX1_reckon 78 = .ok (.iload 4, 2) := by decide +kernel
theorem dX1_reckon_80 : decode cX1_reckon 80 = .ok (.invokevirtual 47, 3) := by decide +kernel
theorem dX1_reckon_83 : decode cX1_reckon 83 = .ok (.iastore, 1) := by decide +kernel
theorem dX1_reckon_84 : decode cX1_reckon 84 = .ok (.iinc 4 (-1), 3) := by decide +kernel
theorem dX1_reckon_87 : decode cX1_reckon 87 = .ok (.goto (-27), 3) := by decide +kernel
theorem dX1_reckon_90 : decode cX1_reckon 90 = .ok (.iinc 3 (-1), 3) := by decide +kernel
theorem dX1_reckon_93 : decode cX1_reckon 93 = .ok (.goto (-43), 3) := by decide +kernel
theorem dX1_reckon_96 : decode cX1_reckon 96 = .ok (.aload_n 0, 1) := by decide +kernel
theorem dX1_reckon_97 : decode cX1_reckon 97 = .ok (.invokevirtual 51, 3) := by decide +kernel
theorem dX1_reckon_100 : decode cX1_reckon 100 = .ok (.return_, 1) := by decide +kernel
theorem dX1_mostFrom_0 : decode cX1_mostFrom 0 = .ok (.iconst 0, 1) := by decide +kernel
theorem dX1_mostFrom_1 : decode cX1_mostFrom 1 = .ok (.istore_n 3, 1) := by decide +kernel
theorem dX1_mostFrom_2 : decode cX1_mostFrom 2 = .ok (.iconst 0, 1) := by decide +kernel
theorem dX1_mostFrom_3 : decode cX1_mostFrom 3 = .ok (.istore 4, 2) := by decide +kernel
theorem dX1_mostFrom_5 : decode cX1_mostFrom 5 = .ok (.iload 4, 2) := by decide +kernel
theorem dX1_mostFrom_7 : decode cX1_mostFrom 7 = .ok (.aload_n 0, 1) := by decide +kernel
theorem dX1_mostFrom_8 : decode cX1_mostFrom 8 = .ok (.getfield 12, 3) := by decide +kernel
theorem dX1_mostFrom_11 : decode cX1_mostFrom 11 = .ok (.getfield 32, 3) := by decide +kernel
theorem dX1_mostFrom_14 : decode cX1_mostFrom 14 = .ok (.if_icmp .ge 31, 3) := by decide +kernel
theorem dX1_mostFrom_17 : decode cX1_mostFrom 17 = .ok (.iload_n 1, 1) := by decide +kernel
theorem dX1_mostFrom_18 : decode cX1_mostFrom 18 = .ok (.iload 4, 2) := by decide +kernel
theorem dX1_mostFrom_20 : decode cX1_mostFrom 20 = .ok (.ishr, 1) := by decide +kernel
theorem dX1_mostFrom_21 : decode cX1_mostFrom 21 = .ok (.iconst 1, 1) := by decide +kernel
theorem dX1_mostFrom_22 : decode cX1_mostFrom 22 = .ok (.iand, 1) := by decide +kernel
theorem dX1_mostFrom_23 : decode cX1_mostFrom 23 = .ok (.ifCond .ne 16, 3) := by decide +kernel
theorem dX1_mostFrom_26 : decode cX1_mostFrom 26 = .ok (.iload_n 3, 1) := by decide +kernel
theorem dX1_mostFrom_27 : decode cX1_mostFrom 27 = .ok (.aload_n 0, 1) := by decide +kernel
theorem dX1_mostFrom_28 : decode cX1_mostFrom 28 = .ok (.iload 4, 2) := by decide +kernel
theorem dX1_mostFrom_30 : decode cX1_mostFrom 30 = .ok (.iload_n 1, 1) := by decide +kernel
theorem dX1_mostFrom_31 : decode cX1_mostFrom 31 = .ok (.iload_n 2, 1) := by decide +kernel
theorem dX1_mostFrom_32 : decode cX1_mostFrom 32 = .ok (.invokevirtual 54, 3) := by decide +kernel
theorem dX1_mostFrom_35 : decode cX1_mostFrom 35 = .ok (.invokestatic 58, 3) := by decide +kernel
theorem dX1_mostFrom_38 : decode cX1_mostFrom 38 = .ok (.istore_n 3, 1) := by decide +kernel
theorem dX1_mostFrom_39 : decode cX1_mostFrom 39 = .ok (.iinc 4 1, 3) := by decide +kernel
theorem dX1_mostFrom_42 : decode cX1_mostFrom 42 = .ok (.goto (-37), 3) := by decide +kernel
theorem dX1_mostFrom_45 : decode cX1_mostFrom 45 = .ok (.iload_n 3, 1) := by decide +kernel
theorem dX1_mostFrom_46 : decode cX1_mostFrom 46 = .ok (.ireturn, 1) := by decide +kernel
theorem dX1_crosses_0 : decode cX1_crosses 0 = .ok (.aload_n 0, 1) := by decide +kernel
theorem dX1_crosses_1 : decode cX1_crosses 1 = .ok (.getfield 12, 3) := by decide +kernel
theorem dX1_crosses_4 : decode cX1_crosses 4 = .ok (.getfield 63, 3) := by decide +kernel
theorem dX1_crosses_7 : decode cX1_crosses 7 = .ok (.iload_n 1, 1) := by decide +kernel
theorem dX1_crosses_8 : decode cX1_crosses 8 = .ok (.iaload, 1) := by decide +kernel
theorem dX1_crosses_9 : decode cX1_crosses 9 = .ok (.aload_n 0, 1) := by decide +kernel
theorem dX1_crosses_10 : decode cX1_crosses 10 = .ok (.getfield 18, 3) := by decide +kernel
theorem dX1_crosses_13 : decode cX1_crosses 13 = .ok (.iload_n 2, 1) := by decide +kernel
theorem dX1_crosses_14 : decode cX1_crosses 14 = .ok (.iaload, 1) := by decide +kernel
theorem dX1_crosses_15 : decode cX1_crosses 15 = .ok (.if_icmp .gt 7, 3) := by decide +kernel
theorem dX1_crosses_18 : decode cX1_crosses 18 = .ok (.iconst 1, 1) := by decide +kernel
theorem dX1_crosses_19 : decode cX1_crosses 19 = .ok (.goto 4, 3) := by decide +kernel
theorem dX1_crosses_22 : decode cX1_crosses 22 = .ok (.iconst 0, 1) := by decide +kernel
theorem dX1_crosses_23 : decode cX1_crosses 23 = .ok (.ireturn, 1) := by decide +kernel
theorem dX1_worthBy_0 : decode cX1_worthBy 0 = .ok (.iload_n 2, 1) := by decide +kernel
theorem dX1_worthBy_1 : decode cX1_worthBy 1 = .ok (.iconst 1, 1) := by decide +kernel
theorem dX1_worthBy_2 : decode cX1_worthBy 2 = .ok (.iload_n 1, 1) := by decide +kernel
theorem dX1_worthBy_3 : decode cX1_worthBy 3 = .ok (.ishl, 1) := by decide +kernel
theorem dX1_worthBy_4 : decode cX1_worthBy 4 = .ok (.ior, 1) := by decide +kernel
theorem dX1_worthBy_5 : decode cX1_worthBy 5 = .ok (.bipush 7, 2) := by decide +kernel
theorem dX1_worthBy_7 : decode cX1_worthBy 7 = .ok (.imul, 1) := by decide +kernel
theorem dX1_worthBy_8 : decode cX1_worthBy 8 = .ok (.iload_n 3, 1) := by decide +kernel
theorem dX1_worthBy_9 : decode cX1_worthBy 9 = .ok (.iadd, 1) := by decide +kernel
theorem dX1_worthBy_10 : decode cX1_worthBy 10 = .ok (.istore 4, 2) := by decide +kernel
theorem dX1_worthBy_12 : decode cX1_worthBy 12 = .ok (.aload_n 0, 1) := by decide +kernel
theorem dX1_worthBy_13 : decode cX1_worthBy 13 = .ok (.iload_n 1, 1) := by decide +kernel
theorem dX1_worthBy_14 : decode cX1_worthBy 14 = .ok (.iload_n 3, 1) := by decide +kernel
theorem dX1_worthBy_15 : decode cX1_worthBy 15 = .ok (.invokevirtual 66, 3) := by decide +kernel
theorem dX1_worthBy_18 : decode cX1_worthBy 18 = .ok (.ifCond .eq 25, 3) := by decide +kernel
theorem dX1_worthBy_21 : decode cX1_worthBy 21 = .ok (.aload_n 0, 1) := by decide +kernel
theorem dX1_worthBy_22 : decode cX1_worthBy 22 = .ok (.getfield 12, 3) := by decide +kernel
theorem dX1_worthBy_25 : decode cX1_worthBy 25 = .ok (.getfield 70, 3) := by decide +kernel
theorem dX1_worthBy_28 : decode cX1_worthBy 28 = .ok (.iload_n 1, 1) := by decide +kernel
theorem dX1_worthBy_29 : decode cX1_worthBy 29 = .ok (.iaload, 1) := by decide +kernel
theorem dX1_worthBy_30 : decode cX1_worthBy 30 = .ok (.aload_n 0, 1) := by decide +kernel
theorem dX1_worthBy_31 : decode cX1_worthBy 31 = .ok (.getfield 22, 3) := by decide +kernel
theorem dX1_worthBy_34 : decode cX1_worthBy 34 = .ok (.iload 4, 2) := by decide +kernel
theorem dX1_worthBy_36 : decode cX1_worthBy 36 = .ok (.iconst 1, 1) := by decide +kernel
theorem dX1_worthBy_37 : decode cX1_worthBy 37 = .ok (.iadd, 1) := by decide +kernel
theorem dX1_worthBy_38 : decode cX1_worthBy 38 = .ok (.iaload, 1) := by decide +kernel
theorem dX1_worthBy_39 : decode cX1_worthBy 39 = .ok (.iadd, 1) := by decide +kernel
theorem dX1_worthBy_40 : decode cX1_worthBy 40 = .ok (.goto 10, 3) := by decide +kernel
theorem dX1_worthBy_43 : decode cX1_worthBy 43 = .ok (.aload_n 0, 1) := by decide +kernel
theorem dX1_worthBy_44 : decode cX1_worthBy 44 = .ok (.getfield 22, 3) := by decide +kernel
theorem dX1_worthBy_47 : decode cX1_worthBy 47 = .ok (.iload 4, 2) := by decide +kernel
theorem dX1_worthBy_49 : decode cX1_worthBy 49 = .ok (.iaload, 1) := by decide +kernel
theorem dX1_worthBy_50 : decode cX1_worthBy 50 = .ok (.ireturn, 1) := by decide +kernel
theorem dX1_findOrder_0 : decode cX1_findOrder 0 = .ok (.iconst 0, 1) := by decide +kernel
theorem dX1_findOrder_1 : decode cX1_findOrder 1 = .ok (.istore_n 1, 1) := by decide +kernel
theorem dX1_findOrder_2 : decode cX1_findOrder 2 = .ok (.iconst 0, 1) := by decide +kernel
theorem dX1_findOrder_3 : decode cX1_findOrder 3 = .ok (.istore_n 2, 1) := by decide +kernel
theorem dX1_findOrder_4 : decode cX1_findOrder 4 = .ok (.iconst 0, 1) := by decide +kernel
theorem dX1_findOrder_5 : decode cX1_findOrder 5 = .ok (.istore_n 3, 1) := by decide +kernel
theorem dX1_findOrder_6 : decode cX1_findOrder 6 = .ok (.iload_n 3, 1) := by decide +kernel
theorem dX1_findOrder_7 : decode cX1_findOrder 7 = .ok (.aload_n 0, 1) := by decide +kernel
theorem dX1_findOrder_8 : decode cX1_findOrder 8 = .ok (.getfield 12, 3) := by decide +kernel
theorem dX1_findOrder_11 : decode cX1_findOrder 11 = .ok (.getfield 32, 3) := by decide +kernel
theorem dX1_findOrder_14 : decode cX1_findOrder 14 = .ok (.if_icmp .ge 45, 3) := by decide +kernel
theorem dX1_findOrder_17 : decode cX1_findOrder 17 = .ok (.aload_n 0, 1) := by decide +kernel
theorem dX1_findOrder_18 : decode cX1_findOrder 18 = .ok (.iload_n 1, 1) := by decide +kernel
theorem dX1_findOrder_19 : decode cX1_findOrder 19 = .ok (.iload_n 2, 1) := by decide +kernel
theorem dX1_findOrder_20 : decode cX1_findOrder 20 = .ok (.invokevirtual 73, 3) := by decide +kernel
theorem dX1_findOrder_23 : decode cX1_findOrder 23 = .ok (.istore 4, 2) := by decide +kernel
theorem dX1_findOrder_25 : decode cX1_findOrder 25 = .ok (.aload_n 0, 1) := by decide +kernel
theorem dX1_findOrder_26 : decode cX1_findOrder 26 = .ok (.getfield 25, 3) := by decide +kernel
theorem dX1_findOrder_29 : decode cX1_findOrder 29 = .ok (.iload_n 3, 1) := by decide +kernel
theorem dX1_findOrder_30 : decode cX1_findOrder 30 = .ok (.iload 4, 2) := by decide +kernel
theorem dX1_findOrder_32 : decode cX1_findOrder 32 = .ok (.iastore, 1) := by decide +kernel
theorem dX1_findOrder_33 : decode cX1_findOrder 33 = .ok (.iload_n 1, 1) := by decide +kernel
theorem dX1_findOrder_34 : decode cX1_findOrder 34 = .ok (.iconst 1, 1) := by decide +kernel
theorem dX1_findOrder_35 : decode cX1_findOrder 35 = .ok (.iload 4, 2) := by decide +kernel
theorem dX1_findOrder_37 : decode cX1_findOrder 37 = .ok (.ishl, 1) := by decide +kernel
theorem dX1_findOrder_38 : decode cX1_findOrder 38 = .ok (.ior, 1) := by decide +kernel
theorem dX1_findOrder_39 : decode cX1_findOrder 39 = .ok (.istore_n 1, 1) := by decide +kernel
theorem dX1_findOrder_40 : decode cX1_findOrder 40 = .ok (.aload_n 0, 1) := by decide +kernel
theorem dX1_findOrder_41 : decode cX1_findOrder 41 = .ok (.iload 4, 2) := by decide +kernel
theorem dX1_findOrder_43 : decode cX1_findOrder 43 = .ok (.iload_n 2, 1) := by decide +kernel
theorem dX1_findOrder_44 : decode cX1_findOrder 44 = .ok (.invokevirtual 66, 3) := by decide +kernel
theorem dX1_findOrder_47 : decode cX1_findOrder 47 = .ok (.ifCond .eq 6, 3) := by decide +kernel
theorem dX1_findOrder_50 : decode cX1_findOrder 50 = .ok (.iinc 2 1, 3) := by decide +kernel
theorem dX1_findOrder_53 : decode cX1_findOrder 53 = .ok (.iinc 3 1, 3) := by decide +kernel
theorem dX1_findOrder_56 : decode cX1_findOrder 56 = .ok (.goto (-50), 3) := by decide +kernel
theorem dX1_findOrder_59 : decode cX1_findOrder 59 = .ok (.return_, 1) := by decide +kernel
theorem dX1_firstBest_0 : decode cX1_firstBest 0 = .ok (.aload_n 0, 1) := by decide +kernel
theorem dX1_firstBest_1 : decode cX1_firstBest 1 = .ok (.getfield 22, 3) := by decide +kernel
theorem dX1_firstBest_4 : decode cX1_firstBest 4 = .ok (.iload_n 1, 1) := by decide +kernel
theorem dX1_firstBest_5 : decode cX1_firstBest 5 = .ok (.bipush 7, 2) := by decide +kernel
theorem dX1_firstBest_7 : decode cX1_firstBest 7 = .ok (.imul, 1) := by decide +kernel
theorem dX1_firstBest_8 : decode cX1_firstBest 8 = .ok (.iload_n 2, 1) := by decide +kernel
theorem dX1_firstBest_9 : decode cX1_firstBest 9 = .ok (.iadd, 1) := by decide +kernel
theorem dX1_firstBest_10 : decode cX1_firstBest 10 = .ok (.iaload, 1) := by decide +kernel
theorem dX1_firstBest_11 : decode cX1_firstBest 11 = .ok (.istore_n 3, 1) := by decide +kernel
theorem dX1_firstBest_12 : decode cX1_firstBest 12 = .ok (.iconst 0, 1) := by decide +kernel
theorem dX1_firstBest_13 : decode cX1_firstBest 13 = .ok (.istore 4, 2) := by decide +kernel
theorem dX1_firstBest_15 : decode cX1_firstBest 15 = .ok (.iload 4, 2) := by decide +kernel
theorem dX1_firstBest_17 : decode cX1_firstBest 17 = .ok (.aload_n 0, 1) := by decide +kernel
theorem dX1_firstBest_18 : decode cX1_firstBest 18 = .ok (.getfield 12, 3) := by decide +kernel
theorem dX1_firstBest_21 : decode cX1_firstBest 21 = .ok (.getfield 32, 3) := by decide +kernel
theorem dX1_firstBest_24 : decode cX1_firstBest 24 = .ok (.if_icmp .ge 33, 3) := by decide +kernel
theorem dX1_firstBest_27 : decode cX1_firstBest 27 = .ok (.iload_n 1, 1) := by decide +kernel
theorem dX1_firstBest_28 : decode cX1_firstBest 28 = .ok (.iload 4, 2) := by decide +kernel
theorem dX1_firstBest_30 : decode cX1_firstBest 30 = .ok (.ishr, 1) := by decide +kernel
theorem dX1_firstBest_31 : decode cX1_firstBest 31 = .ok (.iconst 1, 1) := by decide +kernel
theorem dX1_firstBest_32 : decode cX1_firstBest 32 = .ok (.iand, 1) := by decide +kernel
theorem dX1_firstBest_33 : decode cX1_firstBest 33 = .ok (.ifCond .ne 18, 3) := by decide +kernel
theorem dX1_firstBest_36 : decode cX1_firstBest 36 = .ok (.aload_n 0, 1) := by decide +kernel
theorem dX1_firstBest_37 : decode cX1_firstBest 37 = .ok (.iload 4, 2) := by decide +kernel
theorem dX1_firstBest_39 : decode cX1_firstBest 39 = .ok (.iload_n 1, 1) := by decide +kernel
theorem dX1_firstBest_40 : decode cX1_firstBest 40 = .ok (.iload_n 2, 1) := by decide +kernel
theorem dX1_firstBest_41 : decode cX1_firstBest 41 = .ok (.invokevirtual 54, 3) := by decide +kernel
theorem dX1_firstBest_44 : decode cX1_firstBest 44 = .ok (.iload_n 3, 1) := by decide +kernel
theorem dX1_firstBest_45 : decode cX1_firstBest 45 = .ok (.if_icmp .ne 6, 3) := by decide +kernel
theorem dX1_firstBest_48 : decode cX1_firstBest 48 = .ok (.iload 4, 2) := by decide +kernel
theorem dX1_firstBest_50 : decode cX1_firstBest 50 = .ok (.ireturn, 1) := by decide +kernel
theorem dX1_firstBest_51 : decode cX1_firstBest 51 = .ok (.iinc 4 1, 3) := by decide +kernel
theorem dX1_firstBest_54 : decode cX1_firstBest 54 = .ok (.goto (-39), 3) := by decide +kernel
theorem dX1_firstBest_57 : decode cX1_firstBest 57 = .ok (.iconst 0, 1) := by decide +kernel
theorem dX1_firstBest_58 : decode cX1_firstBest 58 = .ok (.ireturn, 1) := by decide +kernel
theorem dX2_init_0 : decode cX2_init 0 = .ok (.aload_n 0, 1) := by decide +kernel
theorem dX2_init_1 : decode cX2_init 1 = .ok (.invokespecial 3, 3) := by decide +kernel
theorem dX2_init_4 : decode cX2_init 4 = .ok (.aload_n 0, 1) := by decide +kernel
theorem dX2_init_5 : decode cX2_init 5 = .ok (.bipush 60, 2) := by decide +kernel
theorem dX2_init_7 : decode cX2_init 7 = .ok (.newarray .int, 2) := by decide +kernel
theorem dX2_init_9 : decode cX2_init 9 = .ok (.putfield 9, 3) := by decide +kernel
theorem dX2_init_12 : decode cX2_init 12 = .ok (.return_, 1) := by decide +kernel
theorem dX2_put_0 : decode cX2_put 0 = .ok (.aload_n 0, 1) := by decide +kernel
theorem dX2_put_1 : decode cX2_put 1 = .ok (.getfield 15, 3) := by decide +kernel
theorem dX2_put_4 : decode cX2_put 4 = .ok (.bipush 60, 2) := by decide +kernel
theorem dX2_put_6 : decode cX2_put 6 = .ok (.if_icmp .lt 5, 3) := by decide +kernel
theorem dX2_put_9 : decode cX2_put 9 = .ok (.iconst 0, 1) := by decide +kernel
theorem dX2_put_10 : decode cX2_put 10 = .ok (.ireturn, 1) := by decide +kernel
theorem dX2_put_11 : decode cX2_put 11 = .ok (.aload_n 0, 1) := by decide +kernel
theorem dX2_put_12 : decode cX2_put 12 = .ok (.getfield 9, 3) := by decide +kernel
theorem dX2_put_15 : decode cX2_put 15 = .ok (.aload_n 0, 1) := by decide +kernel
theorem dX2_put_16 : decode cX2_put 16 = .ok (.getfield 15, 3) := by decide +kernel
theorem dX2_put_19 : decode cX2_put 19 = .ok (.iload_n 1, 1) := by decide +kernel
theorem dX2_put_20 : decode cX2_put 20 = .ok (.iastore, 1) := by decide +kernel
theorem dX2_put_21 : decode cX2_put 21 = .ok (.aload_n 0, 1) := by decide +kernel
theorem dX2_put_22 : decode cX2_put 22 = .ok (.dup, 1) := by decide +kernel
theorem dX2_put_23 : decode cX2_put 23 = .ok (.getfield 15, 3) := by decide +kernel
theorem dX2_put_26 : decode cX2_put 26 = .ok (.iconst 1, 1) := by decide +kernel
theorem dX2_put_27 : decode cX2_put 27 = .ok (.iadd, 1) := by decide +kernel
theorem dX2_put_28 : decode cX2_put 28 = .ok (.putfield 15, 3) := by decide +kernel
theorem dX2_put_31 : decode cX2_put 31 = .ok (.iconst 1, 1) := by decide +kernel
theorem dX2_put_32 : decode cX2_put 32 = .ok (.ireturn, 1) := by decide +kernel
theorem dX2_clear_0 : decode cX2_clear 0 = .ok (.aload_n 0, 1) := by decide +kernel
theorem dX2_clear_1 : decode cX2_clear 1 = .ok (.getfield 15, 3) := by decide +kernel
theorem dX2_clear_4 : decode cX2_clear 4 = .ok (.istore_n 1, 1) := by decide +kernel
theorem dX2_clear_5 : decode cX2_clear 5 = .ok (.aload_n 0, 1) := by decide +kernel
theorem dX2_clear_6 : decode cX2_clear 6 = .ok (.iconst 0, 1) := by decide +kernel
theorem dX2_clear_7 : decode cX2_clear 7 = .ok (.putfield 15, 3) := by decide +kernel
theorem dX2_clear_10 : decode cX2_clear 10 = .ok (.iload_n 1, 1) := by decide +kernel
theorem dX2_clear_11 : decode cX2_clear 11 = .ok (.ireturn, 1) := by decide +kernel
theorem dX2_firstFault_0 : decode cX2_firstFault 0 = .ok (.iconst 0, 1) := by decide +kernel
theorem dX2_firstFault_1 : decode cX2_firstFault 1 = .ok (.istore_n 1, 1) := by decide +kernel
theorem dX2_firstFault_2 : decode cX2_firstFault 2 = .ok (.iconst 0, 1) := by decide +kernel
theorem dX2_firstFault_3 : decode cX2_firstFault 3 = .ok (.istore_n 2, 1) := by decide +kernel
theorem dX2_firstFault_4 : decode cX2_firstFault 4 = .ok (.iload_n 2, 1) := by decide +kernel
theorem dX2_firstFault_5 : decode cX2_firstFault 5 = .ok (.aload_n 0, 1) := by decide +kernel
theorem dX2_firstFault_6 : decode cX2_firstFault 6 = .ok (.getfield 15, 3) := by decide +kernel
theorem dX2_firstFault_9 : decode cX2_firstFault 9 = .ok (.if_icmp .ge 27, 3) := by decide +kernel
theorem dX2_firstFault_12 : decode cX2_firstFault 12 = .ok (.iload_n 1, 1) := by decide +kernel
theorem dX2_firstFault_13 : decode cX2_firstFault 13 = .ok (.aload_n 0, 1) := by decide +kernel
theorem dX2_firstFault_14 : decode cX2_firstFault 14 = .ok (.getfield 9, 3) := by decide +kernel
theorem dX2_firstFault_17 : decode cX2_firstFault 17 = .ok (.iload_n 2, 1) := by decide +kernel
theorem dX2_firstFault_18 : decode cX2_firstFault 18 = .ok (.iaload, 1) := by decide +kernel
theorem dX2_firstFault_19 : decode cX2_firstFault 19 = .ok (.invokestatic 19, 3) := by decide +kernel
theorem dX2_firstFault_22 : decode cX2_firstFault 22 = .ok (.istore_n 1, 1) := by decide +kernel
theorem dX2_firstFault_23 : decode cX2_firstFault 23 = .ok (.iload_n 1, 1) := by decide +kernel
theorem dX2_firstFault_24 : decode cX2_firstFault 24 = .ok (.iconst 3, 1) := by decide +kernel
theorem dX2_firstFault_25 : decode cX2_firstFault 25 = .ok (.if_icmp .ne 5, 3) := by decide +kernel
theorem dX2_firstFault_28 : decode cX2_firstFault 28 = .ok (.iload_n 2, 1) := by decide +kernel
theorem dX2_firstFault_29 : decode cX2_firstFault 29 = .ok (.ireturn, 1) := by decide +kernel
theorem dX2_firstFault_30 : decode cX2_firstFault 30 = .ok (.iinc 2 1, 3) := by decide +kernel
theorem dX2_firstFault_33 : decode cX2_firstFault 33 = .ok (.goto (-29), 3) := by decide +kernel
theorem dX2_firstFault_36 : decode cX2_firstFault 36 = .ok (.iload_n 1, 1) := by decide +kernel
theorem dX2_firstFault_37 : decode cX2_firstFault 37 = .ok (.ifCond .ne 8, 3) := by decide +kernel
theorem dX2_firstFault_40 : decode cX2_firstFault 40 = .ok (.bipush (-6), 2) := by decide +kernel
theorem dX2_firstFault_42 : decode cX2_firstFault 42 = .ok (.goto 7, 3) := by decide +kernel
theorem dX2_firstFault_45 : decode cX2_firstFault 45 = .ok (.aload_n 0, 1) := by decide +kernel
theorem dX2_firstFault_46 : decode cX2_firstFault 46 = .ok (.getfield 15, 3) := by decide +kernel
theorem dX2_firstFault_49 : decode cX2_firstFault 49 = .ok (.ireturn, 1) := by decide +kernel
theorem dX2_behind_0 : decode cX2_behind 0 = .ok (.iload_n 0, 1) := by decide +kernel
theorem dX2_behind_1 : decode cX2_behind 1 = .ok (.lookupswitch 87 #[(0, 27), (1, 54)], 27) := by decide +kernel
theorem dX2_behind_28 : decode cX2_behind 28 = .ok (.iload_n 1, 1) := by decide +kernel
theorem dX2_behind_29 : decode cX2_behind 29 = .ok (.bipush 46, 2) := by decide +kernel
theorem dX2_behind_31 : decode cX2_behind 31 = .ok (.if_icmp .ne 7, 3) := by decide +kernel
theorem dX2_behind_34 : decode cX2_behind 34 = .ok (.iconst 0, 1) := by decide +kernel
theorem dX2_behind_35 : decode cX2_behind 35 = .ok (.goto 19, 3) := by decide +kernel
theorem dX2_behind_38 : decode cX2_behind 38 = .ok (.iload_n 1, 1) := by decide +kernel
theorem dX2_behind_39 : decode cX2_behind 39 = .ok (.bipush 65, 2) := by decide +kernel
theorem dX2_behind_41 : decode cX2_behind 41 = .ok (.bipush 70, 2) := by decide +kernel
theorem dX2_behind_43 : decode cX2_behind 43 = .ok (.invokestatic 23, 3) := by decide +kernel
theorem dX2_behind_46 : decode cX2_behind 46 = .ok (.ifCond .eq 7, 3) := by decide +kernel
theorem dX2_behind_49 : decode cX2_behind 49 = .ok (.iconst 1, 1) := by decide +kernel
theorem dX2_behind_50 : decode cX2_behind 50 = .ok (.goto 4, 3) := by decide +kernel
theorem dX2_behind_53 : decode cX2_behind 53 = .ok (.iconst 3, 1) := by decide +kernel
theorem dX2_behind_54 : decode cX2_behind 54 = .ok (.ireturn, 1) := by decide +kernel
theorem dX2_behind_55 : decode cX2_behind 55 = .ok (.iload_n 1, 1) := by decide +kernel
theorem dX2_behind_56 : decode cX2_behind 56 = .ok (.bipush 43, 2) := by decide +kernel
theorem dX2_behind_58 : decode cX2_behind 58 = .ok (.if_icmp .eq 9, 3) := by decide +kernel
theorem dX2_behind_61 : decode cX2_behind 61 = .ok (.iload_n 1, 1) := by decide +kernel
theorem dX2_behind_62 : decode cX2_behind 62 = .ok (.bipush 45, 2) := by decide +kernel
theorem dX2_behind_64 : decode cX2_behind 64 = .ok (.if_icmp .ne 7, 3) := by decide +kernel
theorem dX2_behind_67 : decode cX2_behind 67 = .ok (.iconst 2, 1) := by decide +kernel
theorem dX2_behind_68 : decode cX2_behind 68 = .ok (.goto 19, 3) := by decide +kernel
theorem dX2_behind_71 : decode cX2_behind 71 = .ok (.iload_n 1, 1) := by decide +kernel
theorem dX2_behind_72 : decode cX2_behind 72 = .ok (.bipush 48, 2) := by decide +kernel
theorem dX2_behind_74 : decode cX2_behind 74 = .ok (.bipush 51, 2) := by decide +kernel
theorem dX2_behind_76 : decode cX2_behind 76 = .ok (.invokestatic 23, 3) := by decide +kernel
theorem dX2_behind_79 : decode cX2_behind 79 = .ok (.ifCond .eq 7, 3) := by decide +kernel
theorem dX2_behind_82 : decode cX2_behind 82 = .ok (.iconst 0, 1) := by decide +kernel
theorem dX2_behind_83 : decode cX2_behind 83 = .ok (.goto 4, 3) := by decide +kernel
theorem dX2_behind_86 : decode cX2_behind 86 = .ok (.iconst 3, 1) := by decide +kernel
theorem dX2_behind_87 : decode cX2_behind 87 = .ok (.ireturn, 1) := by decide +kernel
theorem dX2_behind_88 : decode cX2_behind 88 = .ok (.iload_n 1, 1) := by decide +kernel
theorem dX2_behind_89 : decode cX2_behind 89 = .ok (.bipush 49, 2) := by decide +kernel
theorem dX2_behind_91 : decode cX2_behind 91 = .ok (.bipush 57, 2) := by decide +kernel
theorem dX2_behind_93 : decode cX2_behind 93 = .ok (.invokestatic 23, 3) := by decide +kernel
theorem dX2_behind_96 : decode cX2_behind 96 = .ok (.ifCond .eq 7, 3) := by decide +kernel
theorem dX2_behind_99 : decode cX2_behind 99 = .ok (.iconst 0, 1) := by decide +kernel
theorem dX2_behind_100 : decode cX2_behind 100 = .ok (.goto 4, 3) := by decide +kernel
theorem dX2_behind_103 : decode cX2_behind 103 = .ok (.iconst 3, 1) := by decide +kernel
theorem dX2_behind_104 : decode cX2_behind 104 = .ok (.ireturn, 1) := by decide +kernel
theorem dX2_parts_0 : decode cX2_parts 0 = .ok (.iload_n 0, 1) := by decide +kernel
theorem dX2_parts_1 : decode cX2_parts 1 = .ok (.bipush 8, 2) := by decide +kernel
theorem dX2_parts_3 : decode cX2_parts 3 = .ok (.idiv, 1) := by decide +kernel
theorem dX2_parts_4 : decode cX2_parts 4 = .ok (.ireturn, 1) := by decide +kernel
theorem dX2_why_0 : decode cX2_why 0 = .ok (.iload_n 0, 1) := by decide +kernel
theorem dX2_why_1 : decode cX2_why 1 = .ok (.bipush 8, 2) := by decide +kernel
theorem dX2_why_3 : decode cX2_why 3 = .ok (.irem, 1) := by decide +kernel
theorem dX2_why_4 : decode cX2_why 4 = .ok (.ireturn, 1) := by decide +kernel
theorem dX2_follow_0 : decode cX2_follow 0 = .ok (.iconst 0, 1) := by decide +kernel
theorem dX2_follow_1 : decode cX2_follow 1 = .ok (.istore_n 2, 1) := by decide +kernel
theorem dX2_follow_2 : decode cX2_follow 2 = .ok (.iconst 0, 1) := by decide +kernel
theorem dX2_follow_3 : decode cX2_follow 3 = .ok (.istore_n 3, 1) := by decide +kernel
theorem dX2_follow_4 : decode cX2_follow 4 = .ok (.iconst 0, 1) := by decide +kernel
theorem dX2_follow_5 : decode cX2_follow 5 = .ok (.istore 4, 2) := by decide +kernel
theorem dX2_follow_7 : decode cX2_follow 7 = .ok (.iconst 0, 1) := by decide +kernel
theorem dX2_follow_8 : decode cX2_follow 8 = .ok (.istore 5, 2) := by decide +kernel
theorem dX2_follow_10 : decode cX2_follow 10 = .ok (.iload 5, 2) := by decide +kernel
theorem dX2_follow_12 : decode cX2_follow 12 = .ok (.aload_n 0, 1) := by decide +kernel
theorem dX2_follow_13 : decode cX2_follow 13 = .ok (.getfield 15, 3) := by decide +kernel
theorem dX2_follow_16 : decode cX2_follow 16 = .ok (.if_icmp .ge 63, 3) := by decide +kernel
theorem dX2_follow_19 : decode cX2_follow 19 = .ok (.iload_n 3, 1) := by decide +kernel
theorem dX2_follow_20 : decode cX2_follow 20 = .ok (.iconst 3, 1) := by decide +kernel
theorem dX2_follow_21 : decode cX2_follow 21 = .ok (.if_icmp .eq 58, 3) := by decide +kernel
theorem dX2_follow_24 : decode cX2_follow 24 = .ok (.iload_n 3, 1) := by decide +kernel
theorem dX2_follow_25 : decode cX2_follow 25 = .ok (.aload_n 0, 1) := by decide +kernel
theorem dX2_follow_26 : decode cX2_follow 26 = .ok (.getfield 9, 3) := by decide +kernel
theorem dX2_follow_29 : decode cX2_follow 29 = .ok (.iload 5, 2) := by decide +kernel
theorem dX2_follow_31 : decode cX2_follow 31 = .ok (.iaload, 1) := by decide +kernel
theorem dX2_follow_32 : decode cX2_follow 32 = .ok (.invokestatic 19, 3) := by decide +kernel
theorem dX2_follow_35 : decode cX2_follow 35 = .ok (.istore_n 3, 1) := by decide +kernel
theorem dX2_follow_36 : decode cX2_follow 36 = .ok (.iload_n 3, 1) := by decide +kernel
theorem dX2_follow_37 : decode cX2_follow 37 = .ok (.ifCond .ne 36, 3) := by decide +kernel
theorem dX2_follow_40 : decode cX2_follow 40 = .ok (.aload_n 0, 1) := by decide +kernel
theorem dX2_follow_41 : decode cX2_follow 41 = .ok (.aload_n 1, 1) := by decide +kernel
theorem dX2_follow_42 : decode cX2_follow 42 = .ok (.iload 4, 2) := by decide +kernel
theorem dX2_follow_44 : decode cX2_follow 44 = .ok (.iload 5, 2) := by decide +kernel
theorem dX2_follow_46 : decode cX2_follow 46 = .ok (.invokevirtual 27, 3) := by decide +kernel
theorem dX2_follow_49 : decode cX2_follow 49 = .ok (.istore 6, 2) := by decide +kernel
theorem dX2_follow_51 : decode cX2_follow 51 = .ok (.iload 6, 2) := by decide +kernel
theorem dX2_follow_53 : decode cX2_follow 53 = .ok (.ifCond .eq 11, 3) := by decide +kernel
theorem dX2_follow_56 : decode cX2_follow 56 = .ok (.iload_n 2, 1) := by decide +kernel
theorem dX2_follow_57 : decode cX2_follow 57 = .ok (.bipush 8, 2) := by decide +kernel
theorem dX2_follow_59 : decode cX2_follow 59 = .ok (.imul, 1) := by decide +kernel
theorem dX2_follow_60 : decode cX2_follow 60 = .ok (.iload 6, 2) := by decide +kernel
theorem dX2_follow_62 : decode cX2_follow 62 = .ok (.iadd, 1) := by decide +kernel
theorem dX2_follow_63 : decode cX2_follow 63 = .ok (.ireturn, 1) := by decide +kernel
theorem dX2_follow_64 : decode cX2_follow 64 = .ok (.iinc 2 1, 3) := by decide +kernel
theorem dX2_follow_67 : decode cX2_follow 67 = .ok (.iload 5, 2) := by decide +kernel
theorem dX2_follow_69 : decode cX2_follow 69 = .ok (.iconst 1, 1) := by decide +kernel
theorem dX2_follow_70 : decode cX2_follow 70 = .ok (.iadd, 1) := by decide +kernel
theorem dX2_follow_71 : decode cX2_follow 71 = .ok (.istore 4, 2) := by decide +kernel
theorem dX2_follow_73 : decode cX2_follow 73 = .ok (.iinc 5 1, 3) := by decide +kernel
theorem dX2_follow_76 : decode cX2_follow 76 = .ok (.goto (-66), 3) := by decide +kernel
theorem dX2_follow_79 : decode cX2_follow 79 = .ok (.iload_n 2, 1) := by decide +kernel
theorem dX2_follow_80 : decode cX2_follow 80 = .ok (.bipush 8, 2) := by decide +kernel
theorem dX2_follow_82 : decode cX2_follow 82 = .ok (.imul, 1) := by decide +kernel
theorem dX2_follow_83 : decode cX2_follow 83 = .ok (.ireturn, 1) := by decide +kernel
theorem dX2_doPart_0 : decode cX2_doPart 0 = .ok (.iload_n 2, 1) := by decide +kernel
theorem dX2_doPart_1 : decode cX2_doPart 1 = .ok (.iload_n 3, 1) := by decide +kernel
theorem dX2_doPart_2 : decode cX2_doPart 2 = .ok (.if_icmp .ne 9, 3) := by decide +kernel
theorem dX2_doPart_5 : decode cX2_doPart 5 = .ok (.aload_n 1, 1) := by decide +kernel
theorem dX2_doPart_6 : decode cX2_doPart 6 = .ok (.invokevirtual 31, 3) := by decide +kernel
theorem dX2_doPart_9 : decode cX2_doPart 9 = .ok (.iconst 0, 1) := by decide +kernel
theorem dX2_doPart_10 : decode cX2_doPart 10 = .ok (.ireturn, 1) := by decide +kernel
theorem dX2_doPart_11 : decode cX2_doPart 11 = .ok (.aload_n 0, 1) := by decide +kernel
theorem dX2_doPart_12 : decode cX2_doPart 12 = .ok (.getfield 9, 3) := by decide +kernel
theorem dX2_doPart_15 : decode cX2_doPart 15 = .ok (.iload_n 2, 1) := by decide +kernel
theorem dX2_doPart_16 : decode cX2_doPart 16 = .ok (.iaload, 1) := by decide +kernel
theorem dX2_doPart_17 : decode cX2_doPart 17 = .ok (.bipush 65, 2) := by decide +kernel
theorem dX2_doPart_19 : decode cX2_doPart 19 = .ok (.isub, 1) := by decide +kernel
theorem dX2_doPart_20 : decode cX2_doPart 20 = .ok (.istore 4, 2) := by decide +kernel
theorem dX2_doPart_22 : decode cX2_doPart 22 = .ok (.aload_n 0, 1) := by decide +kernel
theorem dX2_doPart_23 : decode cX2_doPart 23 = .ok (.getfield 9, 3) := by decide +kernel
theorem dX2_doPart_26 : decode cX2_doPart 26 = .ok (.iload_n 3, 1) := by decide +kernel
theorem dX2_doPart_27 : decode cX2_doPart 27 = .ok (.iaload, 1) := by decide +kernel
theorem dX2_doPart_28 : decode cX2_doPart 28 = .ok (.bipush 48, 2) := by decide +kernel
theorem dX2_doPart_30 : decode cX2_doPart 30 = .ok (.isub, 1) := by decide +kernel
theorem dX2_doPart_31 : decode cX2_doPart 31 = .ok (.istore 5, 2) := by decide +kernel
theorem dX2_doPart_33 : decode cX2_doPart 33 = .ok (.aload_n 0, 1) := by decide +kernel
theorem dX2_doPart_34 : decode cX2_doPart 34 = .ok (.getfield 9, 3) := by decide +kernel
theorem dX2_doPart_37 : decode cX2_doPart 37 = .ok (.iload_n 2, 1) := by decide +kernel
theorem dX2_doPart_38 : decode cX2_doPart 38 = .ok (.iconst 1, 1) := by decide +kernel
theorem dX2_doPart_39 : decode cX2_doPart 39 = .ok (.iadd, 1) := by decide +kernel
theorem dX2_doPart_40 : decode cX2_doPart 40 = .ok (.iaload, 1) := by decide +kernel
theorem dX2_doPart_41 : decode cX2_doPart 41 = .ok (.lookupswitch 45 #[(43, 27), (45, 36)], 27) := by decide +kernel
theorem dX2_doPart_68 : decode cX2_doPart 68 = .ok (.aload_n 1, 1) := by decide +kernel
theorem dX2_doPart_69 : decode cX2_doPart 69 = .ok (.iload 4, 2) := by decide +kernel
theorem dX2_doPart_71 : decode cX2_doPart 71 = .ok (.iload 5, 2) := by decide +kernel
theorem dX2_doPart_73 : decode cX2_doPart 73 = .ok (.invokevirtual 36, 3) := by decide +kernel
theorem dX2_doPart_76 : decode cX2_doPart 76 = .ok (.ireturn, 1) := by decide +kernel
theorem dX2_doPart_77 : decode cX2_doPart 77 = .ok (.aload_n 1, 1) := by decide +kernel
theorem dX2_doPart_78 : decode cX2_doPart 78 = .ok (.iload 4, 2) := by decide +kernel
theorem dX2_doPart_80 : decode cX2_doPart 80 = .ok (.iload 5, 2) := by decide +kernel
theorem dX2_doPart_82 : decode cX2_doPart 82 = .ok (.invokevirtual 39, 3) := by decide +kernel
theorem dX2_doPart_85 : decode cX2_doPart 85 = .ok (.ireturn, 1) := by decide +kernel
theorem dX2_doPart_86 : decode cX2_doPart 86 = .ok (.aload_n 1, 1) := by decide +kernel
theorem dX2_doPart_87 : decode cX2_doPart 87 = .ok (.iload 4, 2) := by decide +kernel
theorem dX2_doPart_89 : decode cX2_doPart 89 = .ok (.iload 5, 2) := by decide +kernel
theorem dX2_doPart_91 : decode cX2_doPart 91 = .ok (.invokevirtual 42, 3) := by decide +kernel
theorem dX2_doPart_94 : decode cX2_doPart 94 = .ok (.ireturn, 1) := by decide +kernel
theorem dX3_init_0 : decode cX3_init 0 = .ok (.aload_n 0, 1) := by decide +kernel
theorem dX3_init_1 : decode cX3_init 1 = .ok (.invokespecial 3, 3) := by decide +kernel
theorem dX3_init_4 : decode cX3_init 4 = .ok (.aload_n 0, 1) := by decide +kernel
theorem dX3_init_5 : decode cX3_init 5 = .ok (.bipush 6, 2) := by decide +kernel
theorem dX3_init_7 : decode cX3_init 7 = .ok (.newarray .int, 2) := by decide +kernel
theorem dX3_init_9 : decode cX3_init 9 = .ok (.putfield 9, 3) := by decide +kernel
theorem dX3_init_12 : decode cX3_init 12 = .ok (.aload_n 0, 1) := by decide +kernel
theorem dX3_init_13 : decode cX3_init 13 = .ok (.bipush 6, 2) := by decide +kernel
theorem dX3_init_15 : decode cX3_init 15 = .ok (.newarray .int, 2) := by decide +kernel
theorem dX3_init_17 : decode cX3_init 17 = .ok (.putfield 15, 3) := by decide +kernel
theorem dX3_init_20 : decode cX3_init 20 = .ok (.return_, 1) := by decide +kernel
theorem dX3_become_0 : decode cX3_become 0 = .ok (.aload_n 0, 1) := by decide +kernel
theorem dX3_become_1 : decode cX3_become 1 = .ok (.aload_n 1, 1) := by decide +kernel
theorem dX3_become_2 : decode cX3_become 2 = .ok (.getfield 18, 3) := by decide +kernel
theorem dX3_become_5 : decode cX3_become 5 = .ok (.putfield 18, 3) := by decide +kernel
theorem dX3_become_8 : decode cX3_become 8 = .ok (.aload_n 1, 1) := by decide +kernel
theorem dX3_become_9 : decode cX3_become 9 = .ok (.getfield 9, 3) := by decide +kernel
theorem dX3_become_12 : decode cX3_become 12 = .ok (.iconst 0, 1) := by decide +kernel
theorem dX3_become_13 : decode cX3_become 13 = .ok (.aload_n 0, 1) := by decide +kernel
theorem dX3_become_14 : decode cX3_become 14 = .ok (.getfield 9, 3) := by decide +kernel
theorem dX3_become_17 : decode cX3_become 17 = .ok (.iconst 0, 1) := by decide +kernel
theorem dX3_become_18 : decode cX3_become 18 = .ok (.aload_n 0, 1) := by decide +kernel
theorem dX3_become_19 : decode cX3_become 19 = .ok (.getfield 18, 3) := by decide +kernel
theorem dX3_become_22 : decode cX3_become 22 = .ok (.invokestatic 22, 3) := by decide +kernel
theorem dX3_become_25 : decode cX3_become 25 = .ok (.aload_n 1, 1) := by decide +kernel
theorem dX3_become_26 : decode cX3_become 26 = .ok (.getfield 15, 3) := by decide +kernel
theorem dX3_become_29 : decode cX3_become 29 = .ok (.iconst 0, 1) := by decide +kernel
theorem dX3_become_30 : decode cX3_become 30 = .ok (.aload_n 0, 1) := by decide +kernel
theorem dX3_become_31 : decode cX3_become 31 = .ok (.getfield 15, 3) := by decide +kernel
theorem dX3_become_34 : decode cX3_become 34 = .ok (.iconst 0, 1) := by decide +kernel
theorem dX3_become_35 : decode cX3_become 35 = .ok (.aload_n 0, 1) := by decide +kernel
theorem dX3_become_36 : decode cX3_become 36 = .ok (.getfield 18, 3) := by decide +kernel
theorem dX3_become_39 : decode cX3_become 39 = .ok (.invokestatic 22, 3) := by decide +kernel
theorem dX3_become_42 : decode cX3_become 42 = .ok (.return_, 1) := by decide +kernel
theorem dX3_put_0 : decode cX3_put 0 = .ok (.aload_n 0, 1) := by decide +kernel
theorem dX3_put_1 : decode cX3_put 1 = .ok (.getfield 18, 3) := by decide +kernel
theorem dX3_put_4 : decode cX3_put 4 = .ok (.bipush 6, 2) := by decide +kernel
theorem dX3_put_6 : decode cX3_put 6 = .ok (.if_icmp .lt 5, 3) := by decide +kernel
theorem dX3_put_9 : decode cX3_put 9 = .ok (.iconst 0, 1) := by decide +kernel
theorem dX3_put_10 : decode cX3_put 10 = .ok (.ireturn, 1) := by decide +kernel
theorem dX3_put_11 : decode cX3_put 11 = .ok (.aload_n 0, 1) := by decide +kernel
theorem dX3_put_12 : decode cX3_put 12 = .ok (.getfield 9, 3) := by decide +kernel
theorem dX3_put_15 : decode cX3_put 15 = .ok (.aload_n 0, 1) := by decide +kernel
theorem dX3_put_16 : decode cX3_put 16 = .ok (.getfield 18, 3) := by decide +kernel
theorem dX3_put_19 : decode cX3_put 19 = .ok (.iload_n 1, 1) := by decide +kernel
theorem dX3_put_20 : decode cX3_put 20 = .ok (.iastore, 1) := by decide +kernel
theorem dX3_put_21 : decode cX3_put 21 = .ok (.aload_n 0, 1) := by decide +kernel
theorem dX3_put_22 : decode cX3_put 22 = .ok (.getfield 15, 3) := by decide +kernel
theorem dX3_put_25 : decode cX3_put 25 = .ok (.aload_n 0, 1) := by decide +kernel
theorem dX3_put_26 : decode cX3_put 26 = .ok (.getfield 18, 3) := by decide +kernel
theorem dX3_put_29 : decode cX3_put 29 = .ok (.iload_n 2, 1) := by decide +kernel
theorem dX3_put_30 : decode cX3_put 30 = .ok (.iastore, 1) := by decide +kernel
theorem dX3_put_31 : decode cX3_put 31 = .ok (.aload_n 0, 1) := by decide +kernel
theorem dX3_put_32 : decode cX3_put 32 = .ok (.dup, 1) := by decide +kernel
theorem dX3_put_33 : decode cX3_put 33 = .ok (.getfield 18, 3) := by decide +kernel
theorem dX3_put_36 : decode cX3_put 36 = .ok (.iconst 1, 1) := by decide +kernel
theorem dX3_put_37 : decode cX3_put 37 = .ok (.iadd, 1) := by decide +kernel
theorem dX3_put_38 : decode cX3_put 38 = .ok (.putfield 18, 3) := by decide +kernel
theorem dX3_put_41 : decode cX3_put 41 = .ok (.iconst 1, 1) := by decide +kernel
theorem dX3_put_42 : decode cX3_put 42 = .ok (.ireturn, 1) := by decide +kernel
theorem dX3_clear_0 : decode cX3_clear 0 = .ok (.aload_n 0, 1) := by decide +kernel
theorem dX3_clear_1 : decode cX3_clear 1 = .ok (.getfield 18, 3) := by decide +kernel
theorem dX3_clear_4 : decode cX3_clear 4 = .ok (.istore_n 1, 1) := by decide +kernel
theorem dX3_clear_5 : decode cX3_clear 5 = .ok (.aload_n 0, 1) := by decide +kernel
theorem dX3_clear_6 : decode cX3_clear 6 = .ok (.iconst 0, 1) := by decide +kernel
theorem dX3_clear_7 : decode cX3_clear 7 = .ok (.putfield 18, 3) := by decide +kernel
theorem dX3_clear_10 : decode cX3_clear 10 = .ok (.iload_n 1, 1) := by decide +kernel
theorem dX3_clear_11 : decode cX3_clear 11 = .ok (.ireturn, 1) := by decide +kernel
end
section
theorem dX4_init_0 : decode cX4_init 0 = .ok (.aload_n 0, 1) := by decide +kernel
theorem dX4_init_1 : decode cX4_init 1 = .ok (.invokespecial 3, 3) := by decide +kernel
theorem dX4_init_4 : decode cX4_init 4 = .ok (.aload_n 0, 1) := by decide +kernel
theorem dX4_init_5 : decode cX4_init 5 = .ok (.iconst 5, 1) := by decide +kernel
theorem dX4_init_6 : decode cX4_init 6 = .ok (.anewarray 9, 3) := by decide +kernel
theorem dX4_init_9 : decode cX4_init 9 = .ok (.putfield 11, 3) := by decide +kernel
theorem dX4_init_12 : decode cX4_init 12 = .ok (.iconst 0, 1) := by decide +kernel
theorem dX4_init_13 : decode cX4_init 13 = .ok (.istore_n 1, 1) := by decide +kernel
theorem dX4_init_14 : decode cX4_init 14 = .ok (.iload_n 1, 1) := by decide +kernel
theorem dX4_init_15 : decode cX4_init 15 = .ok (.iconst 4, 1) := by decide +kernel
theorem dX4_init_16 : decode cX4_init 16 = .ok (.if_icmp .gt 22, 3) := by decide +kernel
theorem dX4_init_19 : decode cX4_init 19 = .ok (.aload_n 0, 1) := by decide +kernel
theorem dX4_init_20 : decode cX4_init 20 = .ok (.getfield 11, 3) := by decide +kernel
theorem dX4_init_23 : decode cX4_init 23 = .ok (.iload_n 1, 1) := by decide +kernel
theorem dX4_init_24 : decode cX4_init 24 = .ok (.new 9, 3) := by decide +kernel
theorem dX4_init_27 : decode cX4_init 27 = .ok (.dup, 1) := by decide +kernel
theorem dX4_init_28 : decode cX4_init 28 = .ok (.invokespecial 17, 3) := by decide +kernel
theorem dX4_init_31 : decode cX4_init 31 = .ok (.aastore, 1) := by decide +kernel
theorem dX4_init_32 : decode cX4_init 32 = .ok (.iinc 1 1, 3) := by decide +kernel
theorem dX4_init_35 : decode cX4_init 35 = .ok (.goto (-21), 3) := by decide +kernel
theorem dX4_init_38 : decode cX4_init 38 = .ok (.aload_n 0, 1) := by decide +kernel
theorem dX4_init_39 : decode cX4_init 39 = .ok (.iconst 4, 1) := by decide +kernel
theorem dX4_init_40 : decode cX4_init 40 = .ok (.iconst 4, 1) := by decide +kernel
theorem dX4_init_41 : decode cX4_init 41 = .ok (.multianewarray 18 2, 4) := by decide +kernel
theorem dX4_init_45 : decode cX4_init 45 = .ok (.putfield 20, 3) := by decide +kernel
theorem dX4_init_48 : decode cX4_init 48 = .ok (.aload_n 0, 1) := by decide +kernel
theorem dX4_init_49 : decode cX4_init 49 = .ok (.iconst 4, 1) := by decide +kernel
theorem dX4_init_50 : decode cX4_init 50 = .ok (.iconst 4, 1) := by decide +kernel
theorem dX4_init_51 : decode cX4_init 51 = .ok (.multianewarray 18 2, 4) := by decide +kernel
theorem dX4_init_55 : decode cX4_init 55 = .ok (.putfield 23, 3) := by decide +kernel
theorem dX4_init_58 : decode cX4_init 58 = .ok (.aload_n 0, 1) := by decide +kernel
theorem dX4_init_59 : decode cX4_init 59 = .ok (.bipush 6, 2) := by decide +kernel
theorem dX4_init_61 : decode cX4_init 61 = .ok (.newarray .int, 2) := by decide +kernel
theorem dX4_init_63 : decode cX4_init 63 = .ok (.putfield 26, 3) := by decide +kernel
theorem dX4_init_66 : decode cX4_init 66 = .ok (.aload_n 0, 1) := by decide +kernel
theorem dX4_init_67 : decode cX4_init 67 = .ok (.iconst 4, 1) := by decide +kernel
theorem dX4_init_68 : decode cX4_init 68 = .ok (.newarray .int, 2) := by decide +kernel
theorem dX4_init_70 : decode cX4_init 70 = .ok (.putfield 30, 3) := by decide +kernel
theorem dX4_init_73 : decode cX4_init 73 = .ok (.aload_n 0, 1) := by decide +kernel
theorem dX4_init_74 : decode cX4_init 74 = .ok (.iconst 4, 1) := by decide +kernel
theorem dX4_init_75 : decode cX4_init 75 = .ok (.newarray .int, 2) := by decide +kernel
theorem dX4_init_77 : decode cX4_init 77 = .ok (.putfield 33, 3) := by decide +kernel
theorem dX4_init_80 : decode cX4_init 80 = .ok (.return_, 1) := by decide +kernel
theorem dX4_fewestInches_0 : decode cX4_fewestInches 0 = .ok (.aload_n 0, 1) := by decide +kernel
theorem dX4_fewestInches_1 : decode cX4_fewestInches 1 = .ok (.iload_n 2, 1) := by decide +kernel
theorem dX4_fewestInches_2 : decode cX4_fewestInches 2 = .ok (.putfield 36, 3) := by decide +kernel
theorem dX4_fewestInches_5 : decode cX4_fewestInches 5 = .ok (.aload_n 0, 1) := by decide +kernel
theorem dX4_fewestInches_6 : decode cX4_fewestInches 6 = .ok (.iload_n 3, 1) := by decide +kernel
theorem dX4_fewestInches_7 : decode cX4_fewestInches 7 = .ok (.putfield 40, 3) := by decide +kernel
theorem dX4_fewestInches_10 : decode cX4_fewestInches 10 = .ok (.aload_n 0, 1) := by decide +kernel
theorem dX4_fewestInches_11 : decode cX4_fewestInches 11 = .ok (.sipush 595, 3) := by decide +kernel
theorem dX4_fewestInches_14 : decode cX4_fewestInches 14 = .ok (.putfield 43, 3) := by decide +kernel
theorem dX4_fewestInches_17 : decode cX4_fewestInches 17 = .ok (.aload_n 0, 1) := by decide +kernel
theorem dX4_fewestInches_18 : decode cX4_fewestInches 18 = .ok (.getfield 11, 3) := by decide +kernel
theorem dX4_fewestInches_21 : decode cX4_fewestInches 21 = .ok (.iconst 0, 1) := by decide +kernel
theorem dX4_fewestInches_22 : decode cX4_fewestInches 22 = .ok (.aaload, 1) := by decide +kernel
theorem dX4_fewestInches_23 : decode cX4_fewestInches 23 = .ok (.aload_n 1, 1) := by decide +kernel
theorem dX4_fewestInches_24 : decode cX4_fewestInches 24 = .ok (.invokevirtual 46, 3) := by decide +kernel
theorem dX4_fewestInches_27 : decode cX4_fewestInches 27 = .ok (.aload_n 0, 1) := by decide +kernel
theorem dX4_fewestInches_28 : decode cX4_fewestInches 28 = .ok (.aload_n 1, 1) := by decide +kernel
theorem dX4_fewestInches_29 : decode cX4_fewestInches 29 = .ok (.invokevirtual 50, 3) := by decide +kernel
theorem dX4_fewestInches_32 : decode cX4_fewestInches 32 = .ok (.aload_n 0, 1) := by decide +kernel
theorem dX4_fewestInches_33 : decode cX4_fewestInches 33 = .ok (.iconst 0, 1) := by decide +kernel
theorem dX4_fewestInches_34 : decode cX4_fewestInches 34 = .ok (.iconst 0, 1) := by decide +kernel
theorem dX4_fewestInches_35 : decode cX4_fewestInches 35 = .ok (.invokevirtual 53, 3) := by decide +kernel
theorem dX4_fewestInches_38 : decode cX4_fewestInches 38 = .ok (.aload_n 0, 1) := by decide +kernel
theorem dX4_fewestInches_39 : decode cX4_fewestInches 39 = .ok (.getfield 43, 3) := by decide +kernel
theorem dX4_fewestInches_42 : decode cX4_fewestInches 42 = .ok (.sipush 595, 3) := by decide +kernel
theorem dX4_fewestInches_45 : decode cX4_fewestInches 45 = .ok (.if_icmp .ne 8, 3) := by decide +kernel
theorem dX4_fewestInches_48 : decode cX4_fewestInches 48 = .ok (.bipush (-6), 2) := by decide +kernel
theorem dX4_fewestInches_50 : decode cX4_fewestInches 50 = .ok (.goto 7, 3) := by decide +kernel
theorem dX4_fewestInches_53 : decode cX4_fewestInches 53 = .ok (.aload_n 0, 1) := by decide +kernel
theorem dX4_fewestInches_54 : decode cX4_fewestInches 54 = .ok (.getfield 43, 3) := by decide +kernel
theorem dX4_fewestInches_57 : decode cX4_fewestInches 57 = .ok (.ireturn, 1) := by decide +kernel
theorem dX4_wovenAhead_0 : decode cX4_wovenAhead 0 = .ok (.aload_n 0, 1) := by decide +kernel
theorem dX4_wovenAhead_1 : decode cX4_wovenAhead 1 = .ok (.getfield 33, 3) := by decide +kernel
theorem dX4_wovenAhead_4 : decode cX4_wovenAhead 4 = .ok (.iload_n 1, 1) := by decide +kernel
theorem dX4_wovenAhead_5 : decode cX4_wovenAhead 5 = .ok (.iaload, 1) := by decide +kernel
theorem dX4_wovenAhead_6 : decode cX4_wovenAhead 6 = .ok (.ireturn, 1) := by decide +kernel
theorem dX4_sortByBasket_0 : decode cX4_sortByBasket 0 = .ok (.iconst 0, 1) := by decide +kernel
theorem dX4_sortByBasket_1 : decode cX4_sortByBasket 1 = .ok (.istore_n 2, 1) := by decide +kernel
theorem dX4_sortByBasket_2 : decode cX4_sortByBasket 2 = .ok (.iload_n 2, 1) := by decide +kernel
theorem dX4_sortByBasket_3 : decode cX4_sortByBasket 3 = .ok (.bipush 6, 2) := by decide +kernel
theorem dX4_sortByBasket_5 : decode cX4_sortByBasket 5 = .ok (.if_icmp .ge 70, 3) := by decide +kernel
theorem dX4_sortByBasket_8 : decode cX4_sortByBasket 8 = .ok (.aload_n 1, 1) := by decide +kernel
theorem dX4_sortByBasket_9 : decode cX4_sortByBasket 9 = .ok (.iload_n 2, 1) := by decide +kernel
theorem dX4_sortByBasket_10 : decode cX4_sortByBasket 10 = .ok (.invokevirtual 57, 3) := by decide +kernel
theorem dX4_sortByBasket_13 : decode cX4_sortByBasket 13 = .ok (.istore_n 3, 1) := by decide +kernel
theorem dX4_sortByBasket_14 : decode cX4_sortByBasket 14 = .ok (.iload_n 2, 1) := by decide +kernel
theorem dX4_sortByBasket_15 : decode cX4_sortByBasket 15 = .ok (.istore 4, 2) := by decide +kernel
theorem dX4_sortByBasket_17 : decode cX4_sortByBasket 17 = .ok (.iload 4, 2) := by decide +kernel
theorem dX4_sortByBasket_19 : decode cX4_sortByBasket 19 = .ok (.ifCond .le 42, 3) := by decide +kernel
theorem dX4_sortByBasket_22 : decode cX4_sortByBasket 22 = .ok (.aload_n 1, 1) := by decide +kernel
theorem dX4_sortByBasket_23 : decode cX4_sortByBasket 23 = .ok (.aload_n 0, 1) := by decide +kernel
theorem dX4_sortByBasket_24 : decode cX4_sortByBasket 24 = .ok (.getfield 26, 3) := by decide +kernel
theorem dX4_sortByBasket_27 : decode cX4_sortByBasket 27 = .ok (.iload 4, 2) := by decide +kernel
theorem dX4_sortByBasket_29 : decode cX4_sortByBasket 29 = .ok (.iconst 1, 1) := by decide +kernel
theorem dX4_sortByBasket_30 : decode cX4_sortByBasket 30 = .ok (.isub, 1) := by decide +kernel
theorem dX4_sortByBasket_31 : decode cX4_sortByBasket 31 = .ok (.iaload, 1) := by decide +kernel
theorem dX4_sortByBasket_32 : decode cX4_sortByBasket 32 = .ok (.invokevirtual 57, 3) := by decide +kernel
theorem dX4_sortByBasket_35 : decode cX4_sortByBasket 35 = .ok (.iload_n 3, 1) := by decide +kernel
theorem dX4_sortByBasket_36 : decode cX4_sortByBasket 36 = .ok (.if_icmp .ge 25, 3) := by decide +kernel
theorem dX4_sortByBasket_39 : decode cX4_sortByBasket 39 = .ok (.aload_n 0, 1) := by decide +kernel
theorem dX4_sortByBasket_40 : decode cX4_sortByBasket 40 = .ok (.getfield 26, 3) := by decide +kernel
theorem dX4_sortByBasket_43 : decode cX4_sortByBasket 43 = .ok (.iload 4, 2) := by decide +kernel
theorem dX4_sortByBasket_45 : decode cX4_sortByBasket 45 = .ok (.aload_n 0, 1) := by decide +kernel
theorem dX4_sortByBasket_46 : decode cX4_sortByBasket 46 = .ok (.getfield 26, 3) := by decide +kernel
theorem dX4_sortByBasket_49 : decode cX4_sortByBasket 49 = .ok (.iload 4, 2) := by decide +kernel
theorem dX4_sortByBasket_51 : decode cX4_sortByBasket 51 = .ok (.iconst 1, 1) := by decide +kernel
theorem dX4_sortByBasket_52 : decode cX4_sortByBasket 52 = .ok (.isub, 1) := by decide +kernel
theorem dX4_sortByBasket_53 : decode cX4_sortByBasket 53 = .ok (.iaload, 1) := by decide +kernel
theorem dX4_sortByBasket_54 : decode cX4_sortByBasket 54 = .ok (.iastore, 1) := by decide +kernel
theorem dX4_sortByBasket_55 : decode cX4_sortByBasket 55 = .ok (.iinc 4 (-1), 3) := by decide +kernel
theorem dX4_sortByBasket_58 : decode cX4_sortByBasket 58 = .ok (.goto (-41), 3) := by decide +kernel
theorem dX4_sortByBasket_61 : decode cX4_sortByBasket 61 = .ok (.aload_n 0, 1) := by decide +kernel
theorem dX4_sortByBasket_62 : decode cX4_sortByBasket 62 = .ok (.getfield 26, 3) := by decide +kernel
theorem dX4_sortByBasket_65 : decode cX4_sortByBasket 65 = .ok (.iload 4, 2) := by decide +kernel
theorem dX4_sortByBasket_67 : decode cX4_sortByBasket 67 = .ok (.iload_n 2, 1) := by decide +kernel
theorem dX4_sortByBasket_68 : decode cX4_sortByBasket 68 = .ok (.iastore, 1) := by decide +kernel
theorem dX4_sortByBasket_69 : decode cX4_sortByBasket 69 = .ok (.iinc 2 1, 3) := by decide +kernel
theorem dX4_sortByBasket_72 : decode cX4_sortByBasket 72 = .ok (.goto (-70), 3) := by decide +kernel
theorem dX4_sortByBasket_75 : decode cX4_sortByBasket 75 = .ok (.return_, 1) := by decide +kernel
theorem dX4_tryFrom_0 : decode cX4_tryFrom 0 = .ok (.iload_n 1, 1) := by decide +kernel
theorem dX4_tryFrom_1 : decode cX4_tryFrom 1 = .ok (.aload_n 0, 1) := by decide +kernel
theorem dX4_tryFrom_2 : decode cX4_tryFrom 2 = .ok (.getfield 36, 3) := by decide +kernel
theorem dX4_tryFrom_5 : decode cX4_tryFrom 5 = .ok (.if_icmp .lt 26, 3) := by decide +kernel
theorem dX4_tryFrom_8 : decode cX4_tryFrom 8 = .ok (.aload_n 0, 1) := by decide +kernel
theorem dX4_tryFrom_9 : decode cX4_tryFrom 9 = .ok (.iload_n 2, 1) := by decide +kernel
theorem dX4_tryFrom_10 : decode cX4_tryFrom 10 = .ok (.putfield 43, 3) := by decide +kernel
theorem dX4_tryFrom_13 : decode cX4_tryFrom 13 = .ok (.aload_n 0, 1) := by decide +kernel
theorem dX4_tryFrom_14 : decode cX4_tryFrom 14 = .ok (.getfield 30, 3) := by decide +kernel
theorem dX4_tryFrom_17 : decode cX4_tryFrom 17 = .ok (.iconst 0, 1) := by decide +kernel
theorem dX4_tryFrom_18 : decode cX4_tryFrom 18 = .ok (.aload_n 0, 1) := by decide +kernel
theorem dX4_tryFrom_19 : decode cX4_tryFrom 19 = .ok (.getfield 33, 3) := by decide +kernel
theorem dX4_tryFrom_22 : decode cX4_tryFrom 22 = .ok (.iconst 0, 1) := by decide +kernel
theorem dX4_tryFrom_23 : decode cX4_tryFrom 23 = .ok (.aload_n 0, 1) := by decide +kernel
theorem dX4_tryFrom_24 : decode cX4_tryFrom 24 = .ok (.getfield 36, 3) := by decide +kernel
theorem dX4_tryFrom_27 : decode cX4_tryFrom 27 = .ok (.invokestatic 61, 3) := by decide +kernel
theorem dX4_tryFrom_30 : decode cX4_tryFrom 30 = .ok (.return_, 1) := by decide +kernel
theorem dX4_tryFrom_31 : decode cX4_tryFrom 31 = .ok (.aload_n 0, 1) := by decide +kernel
theorem dX4_tryFrom_32 : decode cX4_tryFrom 32 = .ok (.iload_n 1, 1) := by decide +kernel
theorem dX4_tryFrom_33 : decode cX4_tryFrom 33 = .ok (.invokevirtual 67, 3) := by decide +kernel
theorem dX4_tryFrom_36 : decode cX4_tryFrom 36 = .ok (.ifCond .eq 4, 3) := by decide +kernel
theorem dX4_tryFrom_39 : decode cX4_tryFrom 39 = .ok (.return_, 1) := by decide +kernel
theorem dX4_tryFrom_40 : decode cX4_tryFrom 40 = .ok (.aload_n 0, 1) := by decide +kernel
theorem dX4_tryFrom_41 : decode cX4_tryFrom 41 = .ok (.iload_n 1, 1) := by decide +kernel
theorem dX4_tryFrom_42 : decode cX4_tryFrom 42 = .ok (.invokevirtual 71, 3) := by decide +kernel
theorem dX4_tryFrom_45 : decode cX4_tryFrom 45 = .ok (.aload_n 0, 1) := by decide +kernel
theorem dX4_tryFrom_46 : decode cX4_tryFrom 46 = .ok (.iload_n 1, 1) := by decide +kernel
theorem dX4_tryFrom_47 : decode cX4_tryFrom 47 = .ok (.iload_n 2, 1) := by decide +kernel
theorem dX4_tryFrom_48 : decode cX4_tryFrom 48 = .ok (.iconst (-1), 1) := by decide +kernel
theorem dX4_tryFrom_49 : decode cX4_tryFrom 49 = .ok (.iconst 0, 1) := by decide +kernel
theorem dX4_tryFrom_50 : decode cX4_tryFrom 50 = .ok (.invokevirtual 75, 3) := by decide +kernel
theorem dX4_tryFrom_53 : decode cX4_tryFrom 53 = .ok (.iconst 0, 1) := by decide +kernel
theorem dX4_tryFrom_54 : decode cX4_tryFrom 54 = .ok (.istore_n 3, 1) := by decide +kernel
theorem dX4_tryFrom_55 : decode cX4_tryFrom 55 = .ok (.iload_n 3, 1) := by decide +kernel
theorem dX4_tryFrom_56 : decode cX4_tryFrom 56 = .ok (.bipush 6, 2) := by decide +kernel
theorem dX4_tryFrom_58 : decode cX4_tryFrom 58 = .ok (.if_icmp .ge 54, 3) := by decide +kernel
theorem dX4_tryFrom_61 : decode cX4_tryFrom 61 = .ok (.aload_n 0, 1) := by decide +kernel
theorem dX4_tryFrom_62 : decode cX4_tryFrom 62 = .ok (.getfield 11, 3) := by decide +kernel
theorem dX4_tryFrom_65 : decode cX4_tryFrom 65 = .ok (.iload_n 1, 1) := by decide +kernel
theorem dX4_tryFrom_66 : decode cX4_tryFrom 66 = .ok (.aaload, 1) := by decide +kernel
theorem dX4_tryFrom_67 : decode cX4_tryFrom 67 = .ok (.getfield 79, 3) := by decide +kernel
theorem dX4_tryFrom_70 : decode cX4_tryFrom 70 = .ok (.iload_n 3, 1) := by decide +kernel
theorem dX4_tryFrom_71 : decode cX4_tryFrom 71 = .ok (.iaload, 1) := by decide +kernel
theorem dX4_tryFrom_72 : decode cX4_tryFrom 72 = .ok (.istore 4, 2) := by decide +kernel
theorem dX4_tryFrom_74 : decode cX4_tryFrom 74 = .ok (.iconst 0, 1) := by decide +kernel
theorem dX4_tryFrom_75 : decode cX4_tryFrom 75 = .ok (.istore 5, 2) := by decide +kernel
theorem dX4_tryFrom_77 : decode cX4_tryFrom 77 = .ok (.iload 5, 2) := by decide +kernel
theorem dX4_tryFrom_79 : decode cX4_tryFrom 79 = .ok (.iconst 4, 1) := by decide +kernel
theorem dX4_tryFrom_80 : decode cX4_tryFrom 80 = .ok (.if_icmp .ge 26, 3) := by decide +kernel
theorem dX4_tryFrom_83 : decode cX4_tryFrom 83 = .ok (.iload 4, 2) := by decide +kernel
theorem dX4_tryFrom_85 : decode cX4_tryFrom 85 = .ok (.ifCond .le 21, 3) := by decide +kernel
theorem dX4_tryFrom_88 : decode cX4_tryFrom 88 = .ok (.aload_n 0, 1) := by decide +kernel
theorem dX4_tryFrom_89 : decode cX4_tryFrom 89 = .ok (.iload_n 1, 1) := by decide +kernel
theorem dX4_tryFrom_90 : decode cX4_tryFrom 90 = .ok (.iload_n 2, 1) := by decide +kernel
theorem dX4_tryFrom_91 : decode cX4_tryFrom 91 = .ok (.iload 4, 2) := by decide +kernel
theorem dX4_tryFrom_93 : decode cX4_tryFrom 93 = .ok (.iadd, 1) := by decide +kernel
theorem dX4_tryFrom_94 : decode cX4_tryFrom 94 = .ok (.iload_n 3, 1) := by decide +kernel
theorem dX4_tryFrom_95 : decode cX4_tryFrom 95 = .ok (.iload 5, 2) := by decide +kernel
theorem dX4_tryFrom_97 : decode cX4_tryFrom 97 = .ok (.invokevirtual 75, 3) := by decide +kernel
theorem dX4_tryFrom_100 : decode cX4_tryFrom 100 = .ok (.iinc 5 1, 3) := by decide +kernel
theorem dX4_tryFrom_103 : decode cX4_tryFrom 103 = .ok (.goto (-26), 3) := by decide +kernel
theorem dX4_tryFrom_106 : decode cX4_tryFrom 106 = .ok (.iinc 3 1, 3) := by decide +kernel
theorem dX4_tryFrom_109 : decode cX4_tryFrom 109 = .ok (.goto (-54), 3) := by decide +kernel
theorem dX4_tryFrom_112 : decode cX4_tryFrom 112 = .ok (.return_, 1) := by decide +kernel
theorem dX4_tryStep_0 : decode cX4_tryStep 0 = .ok (.iload_n 2, 1) := by decide +kernel
theorem dX4_tryStep_1 : decode cX4_tryStep 1 = .ok (.aload_n 0, 1) := by decide +kernel
theorem dX4_tryStep_2 : decode cX4_tryStep 2 = .ok (.getfield 43, 3) := by decide +kernel
theorem dX4_tryStep_5 : decode cX4_tryStep 5 = .ok (.if_icmp .ge 14, 3) := by decide +kernel
theorem dX4_tryStep_8 : decode cX4_tryStep 8 = .ok (.aload_n 0, 1) := by decide +kernel
theorem dX4_tryStep_9 : decode cX4_tryStep 9 = .ok (.iload_n 1, 1) := by decide +kernel
theorem dX4_tryStep_10 : decode cX4_tryStep 10 = .ok (.iload_n 3, 1) := by decide +kernel
theorem dX4_tryStep_11 : decode cX4_tryStep 11 = .ok (.iload 4, 2) := by decide +kernel
theorem dX4_tryStep_13 : decode cX4_tryStep 13 = .ok (.invokevirtual 82, 3) := by decide +kernel
theorem dX4_tryStep_16 : decode cX4_tryStep 16 = .ok (.ifCond .ne 4, 3) := by decide +kernel
theorem dX4_tryStep_19 : decode cX4_tryStep 19 = .ok (.return_, 1) := by decide +kernel
theorem dX4_tryStep_20 : decode cX4_tryStep 20 = .ok (.aload_n 0, 1) := by decide +kernel
theorem dX4_tryStep_21 : decode cX4_tryStep 21 = .ok (.getfield 11, 3) := by decide +kernel
theorem dX4_tryStep_24 : decode cX4_tryStep 24 = .ok (.iload_n 1, 1) := by decide +kernel
theorem dX4_tryStep_25 : decode cX4_tryStep 25 = .ok (.iconst 1, 1) := by decide +kernel
theorem dX4_tryStep_26 : decode cX4_tryStep 26 = .ok (.iadd, 1) := by decide +kernel
theorem dX4_tryStep_27 : decode cX4_tryStep 27 = .ok (.aaload, 1) := by decide +kernel
theorem dX4_tryStep_28 : decode cX4_tryStep 28 = .ok (.astore 5, 2) := by decide +kernel
theorem dX4_tryStep_30 : decode cX4_tryStep 30 = .ok (.aload 5, 2) := by decide +kernel
theorem dX4_tryStep_32 : decode cX4_tryStep 32 = .ok (.aload_n 0, 1) := by decide +kernel
theorem dX4_tryStep_33 : decode cX4_tryStep 33 = .ok (.getfield 11, 3) := by decide +kernel
theorem dX4_tryStep_36 : decode cX4_tryStep 36 = .ok (.iload_n 1, 1) := by decide +kernel
theorem dX4_tryStep_37 : decode cX4_tryStep 37 = .ok (.aaload, 1) := by decide +kernel
theorem dX4_tryStep_38 : decode cX4_tryStep 38 = .ok (.invokevirtual 46, 3) := by decide +kernel
theorem dX4_tryStep_41 : decode cX4_tryStep 41 = .ok (.iload_n 3, 1) := by decide +kernel
theorem dX4_tryStep_42 : decode cX4_tryStep 42 = .ok (.iconst (-1), 1) := by decide +kernel
theorem dX4_tryStep_43 : decode cX4_tryStep 43 = .ok (.if_icmp .eq 12, 3) := by decide +kernel
theorem dX4_tryStep_46 : decode cX4_tryStep 46 = .ok (.aload 5, 2) := by decide +kernel
theorem dX4_tryStep_48 : decode cX4_tryStep 48 = .ok (.iload_n 3, 1) := by decide +kernel
theorem dX4_tryStep_49 : decode cX4_tryStep 49 = .ok (.iload 4, 2) := by decide +kernel
theorem dX4_tryStep_51 : decode cX4_tryStep 51 = .ok (.invokevirtual 86, 3) := by decide +kernel
theorem dX4_tryStep_54 : decode cX4_tryStep 54 = .ok (.pop, 1) := by decide +kernel
theorem dX4_tryStep_55 : decode cX4_tryStep 55 = .ok (.aload 5, 2) := by decide +kernel
theorem dX4_tryStep_57 : decode cX4_tryStep 57 = .ok (.invokevirtual 90, 3) := by decide +kernel
theorem dX4_tryStep_60 : decode cX4_tryStep 60 = .ok (.aload_n 0, 1) := by decide +kernel
theorem dX4_tryStep_61 : decode cX4_tryStep 61 = .ok (.getfield 30, 3) := by decide +kernel
theorem dX4_tryStep_64 : decode cX4_tryStep 64 = .ok (.iload_n 1, 1) := by decide +kernel
theorem dX4_tryStep_65 : decode cX4_tryStep 65 = .ok (.iload_n 3, 1) := by decide +kernel
theorem dX4_tryStep_66 : decode cX4_tryStep 66 = .ok (.iconst (-1), 1) := by decide +kernel
theorem dX4_tryStep_67 : decode cX4_tryStep 67 = .ok (.if_icmp .ne 8, 3) := by decide +kernel
theorem dX4_tryStep_70 : decode cX4_tryStep 70 = .ok (.bipush (-6), 2) := by decide +kernel
theorem dX4_tryStep_72 : decode cX4_tryStep 72 = .ok (.goto 10, 3) := by decide +kernel
theorem dX4_tryStep_75 : decode cX4_tryStep 75 = .ok (.bipush 10, 2) := by decide +kernel
theorem dX4_tryStep_77 : decode cX4_tryStep 77 = .ok (.iload_n 3, 1) := by decide +kernel
theorem dX4_tryStep_78 : decode cX4_tryStep 78 = .ok (.imul, 1) := by decide +kernel
theorem dX4_tryStep_79 : decode cX4_tryStep 79 = .ok (.iload 4, 2) := by decide +kernel
theorem dX4_tryStep_81 : decode cX4_tryStep 81 = .ok (.iadd, 1) := by decide +kernel
theorem dX4_tryStep_82 : decode cX4_tryStep 82 = .ok (.iastore, 1) := by decide +kernel
theorem dX4_tryStep_83 : decode cX4_tryStep 83 = .ok (.aload_n 0, 1) := by decide +kernel
theorem dX4_tryStep_84 : decode cX4_tryStep 84 = .ok (.iload_n 1, 1) := by decide +kernel
theorem dX4_tryStep_85 : decode cX4_tryStep 85 = .ok (.iconst 1, 1) := by decide +kernel
theorem dX4_tryStep_86 : decode cX4_tryStep 86 = .ok (.iadd, 1) := by decide +kernel
theorem dX4_tryStep_87 : decode cX4_tryStep 87 = .ok (.iload_n 2, 1) := by decide +kernel
theorem dX4_tryStep_88 : decode cX4_tryStep 88 = .ok (.invokevirtual 53, 3) := by decide +kernel
theorem dX4_tryStep_91 : decode cX4_tryStep 91 = .ok (.return_, 1) := by decide +kernel
theorem dX4_holdsBehind_0 : decode cX4_holdsBehind 0 = .ok (.aload_n 0, 1) := by decide +kernel
theorem dX4_holdsBehind_1 : decode cX4_holdsBehind 1 = .ok (.getfield 20, 3) := by decide +kernel
theorem dX4_holdsBehind_4 : decode cX4_holdsBehind 4 = .ok (.iload_n 1, 1) := by decide +kernel
theorem dX4_holdsBehind_5 : decode cX4_holdsBehind 5 = .ok (.aaload, 1) := by decide +kernel
theorem dX4_holdsBehind_6 : decode cX4_holdsBehind 6 = .ok (.astore 4, 2) := by decide +kernel
theorem dX4_holdsBehind_8 : decode cX4_holdsBehind 8 = .ok (.iload_n 2, 1) := by decide +kernel
theorem dX4_holdsBehind_9 : decode cX4_holdsBehind 9 = .ok (.iconst (-1), 1) := by decide +kernel
theorem dX4_holdsBehind_10 : decode cX4_holdsBehind 10 = .ok (.if_icmp .ne 21, 3) := by decide +kernel
theorem dX4_holdsBehind_13 : decode cX4_holdsBehind 13 = .ok (.aload 4, 2) := by decide +kernel
theorem dX4_holdsBehind_15 : decode cX4_holdsBehind 15 = .ok (.invokestatic 93, 3) := by decide +kernel
theorem dX4_holdsBehind_18 : decode cX4_holdsBehind 18 = .ok (.aload_n 0, 1) := by decide +kernel
theorem dX4_holdsBehind_19 : decode cX4_holdsBehind 19 = .ok (.getfield 40, 3) := by decide +kernel
theorem dX4_holdsBehind_22 : decode cX4_holdsBehind 22 = .ok (.if_icmp .lt 7, 3) := by decide +kernel
theorem dX4_holdsBehind_25 : decode cX4_holdsBehind 25 = .ok (.iconst 1, 1) := by decide +kernel
theorem dX4_holdsBehind_26 : decode cX4_holdsBehind 26 = .ok (.goto 4, 3) := by decide +kernel
theorem dX4_holdsBehind_29 : decode cX4_holdsBehind 29 = .ok (.iconst 0, 1) := by decide +kernel
theorem dX4_holdsBehind_30 : decode cX4_holdsBehind 30 = .ok (.ireturn, 1) := by decide +kernel
theorem dX4_holdsBehind_31 : decode cX4_holdsBehind 31 = .ok (.aload_n 0, 1) := by decide +kernel
theorem dX4_holdsBehind_32 : decode cX4_holdsBehind 32 = .ok (.getfield 11, 3) := by decide +kernel
theorem dX4_holdsBehind_35 : decode cX4_holdsBehind 35 = .ok (.iload_n 1, 1) := by decide +kernel
theorem dX4_holdsBehind_36 : decode cX4_holdsBehind 36 = .ok (.aaload, 1) := by decide +kernel
theorem dX4_holdsBehind_37 : decode cX4_holdsBehind 37 = .ok (.astore 5, 2) := by decide +kernel
theorem dX4_holdsBehind_39 : decode cX4_holdsBehind 39 = .ok (.aload 4, 2) := by decide +kernel
theorem dX4_holdsBehind_41 : decode cX4_holdsBehind 41 = .ok (.iload_n 3, 1) := by decide +kernel
theorem dX4_holdsBehind_42 : decode cX4_holdsBehind 42 = .ok (.iaload, 1) := by decide +kernel
theorem dX4_holdsBehind_43 : decode cX4_holdsBehind 43 = .ok (.istore 6, 2) := by decide +kernel
theorem dX4_holdsBehind_45 : decode cX4_holdsBehind 45 = .ok (.aload 4, 2) := by decide +kernel
theorem dX4_holdsBehind_47 : decode cX4_holdsBehind 47 = .ok (.iload_n 3, 1) := by decide +kernel
theorem dX4_holdsBehind_48 : decode cX4_holdsBehind 48 = .ok (.dup2, 1) := by decide +kernel
theorem dX4_holdsBehind_49 : decode cX4_holdsBehind 49 = .ok (.iaload, 1) := by decide +kernel
theorem dX4_holdsBehind_50 : decode cX4_holdsBehind 50 = .ok (.iconst 0, 1) := by decide +kernel
theorem dX4_holdsBehind_51 : decode cX4_holdsBehind 51 = .ok (.aload 5, 2) := by decide +kernel
theorem dX4_holdsBehind_53 : decode cX4_holdsBehind 53 = .ok (.getfield 79, 3) := by decide +kernel
theorem dX4_holdsBehind_56 : decode cX4_holdsBehind 56 = .ok (.iload_n 2, 1) := by decide +kernel
theorem dX4_holdsBehind_57 : decode cX4_holdsBehind 57 = .ok (.iaload, 1) := by decide +kernel
theorem dX4_holdsBehind_58 : decode cX4_holdsBehind 58 = .ok (.aload_n 0, 1) := by decide +kernel
theorem dX4_holdsBehind_59 : decode cX4_holdsBehind 59 = .ok (.getfield 23, 3) := by decide +kernel
theorem dX4_holdsBehind_62 : decode cX4_holdsBehind 62 = .ok (.iload_n 1, 1) := by decide +kernel
theorem dX4_holdsBehind_63 : decode cX4_holdsBehind 63 = .ok (.aaload, 1) := by decide +kernel
theorem dX4_holdsBehind_64 : decode cX4_holdsBehind 64 = .ok (.iload_n 3, 1) := by decide +kernel
theorem dX4_holdsBehind_65 : decode cX4_holdsBehind 65 = .ok (.iaload, 1) := by decide +kernel
theorem dX4_holdsBehind_66 : decode cX4_holdsBehind 66 = .ok (.isub, 1) := by decide +kernel
theorem dX4_holdsBehind_67 : decode cX4_holdsBehind 67 = .ok (.invokestatic 97, 3) := by decide +kernel
theorem dX4_holdsBehind_70 : decode cX4_holdsBehind 70 = .ok (.aload 5, 2) := by decide +kernel
theorem dX4_holdsBehind_72 : decode cX4_holdsBehind 72 = .ok (.getfield 102, 3) := by decide +kernel
theorem dX4_holdsBehind_75 : decode cX4_holdsBehind 75 = .ok (.iload_n 2, 1) := by decide +kernel
theorem dX4_holdsBehind_76 : decode cX4_holdsBehind 76 = .ok (.iaload, 1) := by decide +kernel
theorem dX4_holdsBehind_77 : decode cX4_holdsBehind 77 = .ok (.imul, 1) := by decide +kernel
theorem dX4_holdsBehind_78 : decode cX4_holdsBehind 78 = .ok (.iadd, 1) := by decide +kernel
theorem dX4_holdsBehind_79 : decode cX4_holdsBehind 79 = .ok (.iastore, 1) := by decide +kernel
theorem dX4_holdsBehind_80 : decode cX4_holdsBehind 80 = .ok (.aload 5, 2) := by decide +kernel
theorem dX4_holdsBehind_82 : decode cX4_holdsBehind 82 = .ok (.getfield 105, 3) := by decide +kernel
theorem dX4_holdsBehind_85 : decode cX4_holdsBehind 85 = .ok (.iload_n 3, 1) := by decide +kernel
theorem dX4_holdsBehind_86 : decode cX4_holdsBehind 86 = .ok (.aaload, 1) := by decide +kernel
theorem dX4_holdsBehind_87 : decode cX4_holdsBehind 87 = .ok (.invokevirtual 109, 3) := by decide +kernel
theorem dX4_holdsBehind_90 : decode cX4_holdsBehind 90 = .ok (.ifCond .eq 19, 3) := by decide +kernel
theorem dX4_holdsBehind_93 : decode cX4_holdsBehind 93 = .ok (.aload 4, 2) := by decide +kernel
theorem dX4_holdsBehind_95 : decode cX4_holdsBehind 95 = .ok (.invokestatic 93, 3) := by decide +kernel
theorem dX4_holdsBehind_98 : decode cX4_holdsBehind 98 = .ok (.aload_n 0, 1) := by decide +kernel
theorem dX4_holdsBehind_99 : decode cX4_holdsBehind 99 = .ok (.getfield 40, 3) := by decide +kernel
theorem dX4_holdsBehind_102 : decode cX4_holdsBehind 102 = .ok (.if_icmp .lt 7, 3) := by decide +kernel
theorem dX4_holdsBehind_105 : decode cX4_holdsBehind 105 = .ok (.iconst 1, 1) := by decide +kernel
theorem dX4_holdsBehind_106 : decode cX4_holdsBehind 106 = .ok (.goto 4, 3) := by decide +kernel
theorem dX4_holdsBehind_109 : decode cX4_holdsBehind 109 = .ok (.iconst 0, 1) := by decide +kernel
theorem dX4_holdsBehind_110 : decode cX4_holdsBehind 110 = .ok (.istore 7, 2) := by decide +kernel
theorem dX4_holdsBehind_112 : decode cX4_holdsBehind 112 = .ok (.aload 4, 2) := by decide +kernel
theorem dX4_holdsBehind_114 : decode cX4_holdsBehind 114 = .ok (.iload_n 3, 1) := by decide +kernel
theorem dX4_holdsBehind_115 : decode cX4_holdsBehind 115 = .ok (.iload 6, 2) := by decide +kernel
theorem dX4_holdsBehind_117 : decode cX4_holdsBehind 117 = .ok (.iastore, 1) := by decide +kernel
theorem dX4_holdsBehind_118 : decode cX4_holdsBehind 118 = .ok (.iload 7, 2) := by decide +kernel
theorem dX4_holdsBehind_120 : decode cX4_holdsBehind 120 = .ok (.ireturn, 1) := by decide +kernel
theorem dX4_foresee_0 : decode cX4_foresee 0 = .ok (.aload_n 0, 1) := by decide +kernel
theorem dX4_foresee_1 : decode cX4_foresee 1 = .ok (.getfield 11, 3) := by decide +kernel
theorem dX4_foresee_4 : decode cX4_foresee 4 = .ok (.iload_n 1, 1) := by decide +kernel
theorem dX4_foresee_5 : decode cX4_foresee 5 = .ok (.aaload, 1) := by decide +kernel
theorem dX4_foresee_6 : decode cX4_foresee 6 = .ok (.astore_n 2, 1) := by decide +kernel
theorem dX4_foresee_7 : decode cX4_foresee 7 = .ok (.iconst 0, 1) := by decide +kernel
theorem dX4_foresee_8 : decode cX4_foresee 8 = .ok (.istore_n 3, 1) := by decide +kernel
theorem dX4_foresee_9 : decode cX4_foresee 9 = .ok (.iload_n 3, 1) := by decide +kernel
theorem dX4_foresee_10 : decode cX4_foresee 10 = .ok (.iconst 4, 1) := by decide +kernel
theorem dX4_foresee_11 : decode cX4_foresee 11 = .ok (.if_icmp .ge 60, 3) := by decide +kernel
theorem dX4_foresee_14 : decode cX4_foresee 14 = .ok (.aload_n 0, 1) := by decide +kernel
theorem dX4_foresee_15 : decode cX4_foresee 15 = .ok (.getfield 20, 3) := by decide +kernel
theorem dX4_foresee_18 : decode cX4_foresee 18 = .ok (.iload_n 1, 1) := by decide +kernel
theorem dX4_foresee_19 : decode cX4_foresee 19 = .ok (.aaload, 1) := by decide +kernel
theorem dX4_foresee_20 : decode cX4_foresee 20 = .ok (.iload_n 3, 1) := by decide +kernel
theorem dX4_foresee_21 : decode cX4_foresee 21 = .ok (.aload_n 2, 1) := by decide +kernel
theorem dX4_foresee_22 : decode cX4_foresee 22 = .ok (.getfield 105, 3) := by decide +kernel
theorem dX4_foresee_25 : decode cX4_foresee 25 = .ok (.iload_n 3, 1) := by decide +kernel
theorem dX4_foresee_26 : decode cX4_foresee 26 = .ok (.aaload, 1) := by decide +kernel
theorem dX4_foresee_27 : decode cX4_foresee 27 = .ok (.aload_n 2, 1) := by decide +kernel
theorem dX4_foresee_28 : decode cX4_foresee 28 = .ok (.getfield 115, 3) := by decide +kernel
theorem dX4_foresee_31 : decode cX4_foresee 31 = .ok (.aload_n 2, 1) := by decide +kernel
theorem dX4_foresee_32 : decode cX4_foresee 32 = .ok (.getfield 102, 3) := by decide +kernel
theorem dX4_foresee_35 : decode cX4_foresee 35 = .ok (.invokevirtual 118, 3) := by decide +kernel
theorem dX4_foresee_38 : decode cX4_foresee 38 = .ok (.iastore, 1) := by decide +kernel
theorem dX4_foresee_39 : decode cX4_foresee 39 = .ok (.aload_n 0, 1) := by decide +kernel
theorem dX4_foresee_40 : decode cX4_foresee 40 = .ok (.getfield 23, 3) := by decide +kernel
theorem dX4_foresee_43 : decode cX4_foresee 43 = .ok (.iload_n 1, 1) := by decide +kernel
theorem dX4_foresee_44 : decode cX4_foresee 44 = .ok (.aaload, 1) := by decide +kernel
theorem dX4_foresee_45 : decode cX4_foresee 45 = .ok (.iload_n 3, 1) := by decide +kernel
theorem dX4_foresee_46 : decode cX4_foresee 46 = .ok (.iconst 0, 1) := by decide +kernel
theorem dX4_foresee_47 : decode cX4_foresee 47 = .ok (.aload_n 2, 1) := by decide +kernel
theorem dX4_foresee_48 : decode cX4_foresee 48 = .ok (.getfield 115, 3) := by decide +kernel
theorem dX4_foresee_51 : decode cX4_foresee 51 = .ok (.aload_n 2, 1) := by decide +kernel
theorem dX4_foresee_52 : decode cX4_foresee 52 = .ok (.getfield 105, 3) := by decide +kernel
theorem dX4_foresee_55 : decode cX4_foresee 55 = .ok (.iload_n 3, 1) := by decide +kernel
theorem dX4_foresee_56 : decode cX4_foresee 56 = .ok (.aaload, 1) := by decide +kernel
theorem dX4_foresee_57 : decode cX4_foresee 57 = .ok (.invokevirtual 122, 3) := by decide +kernel
theorem dX4_foresee_60 : decode cX4_foresee 60 = .ok (.isub, 1) := by decide +kernel
theorem dX4_foresee_61 : decode cX4_foresee 61 = .ok (.invokestatic 97, 3) := by decide +kernel
theorem dX4_foresee_64 : decode cX4_foresee 64 = .ok (.iastore, 1) := by decide +kernel
theorem dX4_foresee_65 : decode cX4_foresee 65 = .ok (.iinc 3 1, 3) := by decide +kernel
theorem dX4_foresee_68 : decode cX4_foresee 68 = .ok (.goto (-59), 3) := by decide +kernel
theorem dX4_foresee_71 : decode cX4_foresee 71 = .ok (.return_, 1) := by decide +kernel
theorem dX4_isHopeless_0 : decode cX4_isHopeless 0 = .ok (.aload_n 0, 1) := by decide +kernel
theorem dX4_isHopeless_1 : decode cX4_isHopeless 1 = .ok (.getfield 11, 3) := by decide +kernel
theorem dX4_isHopeless_4 : decode cX4_isHopeless 4 = .ok (.iload_n 1, 1) := by decide +kernel
theorem dX4_isHopeless_5 : decode cX4_isHopeless 5 = .ok (.aaload, 1) := by decide +kernel
theorem dX4_isHopeless_6 : decode cX4_isHopeless 6 = .ok (.astore_n 2, 1) := by decide +kernel
theorem dX4_isHopeless_7 : decode cX4_isHopeless 7 = .ok (.aload_n 0, 1) := by decide +kernel
theorem dX4_isHopeless_8 : decode cX4_isHopeless 8 = .ok (.getfield 36, 3) := by decide +kernel
theorem dX4_isHopeless_11 : decode cX4_isHopeless 11 = .ok (.iload_n 1, 1) := by decide +kernel
theorem dX4_isHopeless_12 : decode cX4_isHopeless 12 = .ok (.isub, 1) := by decide +kernel
theorem dX4_isHopeless_13 : decode cX4_isHopeless 13 = .ok (.istore_n 3, 1) := by decide +kernel
theorem dX4_isHopeless_14 : decode cX4_isHopeless 14 = .ok (.iconst 0, 1) := by decide +kernel
theorem dX4_isHopeless_15 : decode cX4_isHopeless 15 = .ok (.istore 4, 2) := by decide +kernel
theorem dX4_isHopeless_17 : decode cX4_isHopeless 17 = .ok (.iconst 0, 1) := by decide +kernel
theorem dX4_isHopeless_18 : decode cX4_isHopeless 18 = .ok (.istore 5, 2) := by decide +kernel
theorem dX4_isHopeless_20 : decode cX4_isHopeless 20 = .ok (.iload 5, 2) := by decide +kernel
theorem dX4_isHopeless_22 : decode cX4_isHopeless 22 = .ok (.iconst 4, 1) := by decide +kernel
theorem dX4_isHopeless_23 : decode cX4_isHopeless 23 = .ok (.if_icmp .ge 34, 3) := by decide +kernel
theorem dX4_isHopeless_26 : decode cX4_isHopeless 26 = .ok (.iload 4, 2) := by decide +kernel
theorem dX4_isHopeless_28 : decode cX4_isHopeless 28 = .ok (.aload_n 2, 1) := by decide +kernel
theorem dX4_isHopeless_29 : decode cX4_isHopeless 29 = .ok (.getfield 105, 3) := by decide +kernel
theorem dX4_isHopeless_32 : decode cX4_isHopeless 32 = .ok (.iload 5, 2) := by decide +kernel
theorem dX4_isHopeless_34 : decode cX4_isHopeless 34 = .ok (.aaload, 1) := by decide +kernel
theorem dX4_isHopeless_35 : decode cX4_isHopeless 35 = .ok (.aload_n 2, 1) := by decide +kernel
theorem dX4_isHopeless_36 : decode cX4_isHopeless 36 = .ok (.getfield 115, 3) := by decide +kernel
theorem dX4_isHopeless_39 : decode cX4_isHopeless 39 = .ok (.iload_n 3, 1) := by decide +kernel
theorem dX4_isHopeless_40 : decode cX4_isHopeless 40 = .ok (.imul, 1) := by decide +kernel
theorem dX4_isHopeless_41 : decode cX4_isHopeless 41 = .ok (.aload_n 2, 1) := by decide +kernel
theorem dX4_isHopeless_42 : decode cX4_isHopeless 42 = .ok (.getfield 102, 3) := by decide +kernel
theorem dX4_isHopeless_45 : decode cX4_isHopeless 45 = .ok (.invokevirtual 118, 3) := by decide +kernel
theorem dX4_isHopeless_48 : decode cX4_isHopeless 48 = .ok (.iadd, 1) := by decide +kernel
theorem dX4_isHopeless_49 : decode cX4_isHopeless 49 = .ok (.istore 4, 2) := by decide +kernel
theorem dX4_isHopeless_51 : decode cX4_isHopeless 51 = .ok (.iinc 5 1, 3) := by decide +kernel
theorem dX4_isHopeless_54 : decode cX4_isHopeless 54 = .ok (.goto (-34), 3) := by decide +kernel
theorem dX4_isHopeless_57 : decode cX4_isHopeless 57 = .ok (.iconst 0, 1) := by decide +kernel
theorem dX4_isHopeless_58 : decode cX4_isHopeless 58 = .ok (.istore 5, 2) := by decide +kernel
theorem dX4_isHopeless_60 : decode cX4_isHopeless 60 = .ok (.iload 5, 2) := by decide +kernel
theorem dX4_isHopeless_62 : decode cX4_isHopeless 62 = .ok (.bipush 6, 2) := by decide +kernel
theorem dX4_isHopeless_64 : decode cX4_isHopeless 64 = .ok (.if_icmp .ge 46, 3) := by decide +kernel
theorem dX4_isHopeless_67 : decode cX4_isHopeless 67 = .ok (.iload_n 3, 1) := by decide +kernel
theorem dX4_isHopeless_68 : decode cX4_isHopeless 68 = .ok (.ifCond .le 42, 3) := by decide +kernel
theorem dX4_isHopeless_71 : decode cX4_isHopeless 71 = .ok (.aload_n 0, 1) := by decide +kernel
theorem dX4_isHopeless_72 : decode cX4_isHopeless 72 = .ok (.getfield 26, 3) := by decide +kernel
theorem dX4_isHopeless_75 : decode cX4_isHopeless 75 = .ok (.iload 5, 2) := by decide +kernel
theorem dX4_isHopeless_77 : decode cX4_isHopeless 77 = .ok (.iaload, 1) := by decide +kernel
theorem dX4_isHopeless_78 : decode cX4_isHopeless 78 = .ok (.istore 6, 2) := by decide +kernel
theorem dX4_isHopeless_80 : decode cX4_isHopeless 80 = .ok (.aload_n 2, 1) := by decide +kernel
theorem dX4_isHopeless_81 : decode cX4_isHopeless 81 = .ok (.getfield 79, 3) := by decide +kernel
theorem dX4_isHopeless_84 : decode cX4_isHopeless 84 = .ok (.iload 6, 2) := by decide +kernel
theorem dX4_isHopeless_86 : decode cX4_isHopeless 86 = .ok (.iaload, 1) := by decide +kernel
theorem dX4_isHopeless_87 : decode cX4_isHopeless 87 = .ok (.ifCond .le 17, 3) := by decide +kernel
theorem dX4_isHopeless_90 : decode cX4_isHopeless 90 = .ok (.iload 4, 2) := by decide +kernel
theorem dX4_isHopeless_92 : decode cX4_isHopeless 92 = .ok (.aload_n 2, 1) := by decide +kernel
theorem dX4_isHopeless_93 : decode cX4_isHopeless 93 = .ok (.iload 6, 2) := by decide +kernel
theorem dX4_isHopeless_95 : decode cX4_isHopeless 95 = .ok (.invokevirtual 57, 3) := by decide +kernel
theorem dX4_isHopeless_98 : decode cX4_isHopeless 98 = .ok (.iadd, 1) := by decide +kernel
theorem dX4_isHopeless_99 : decode cX4_isHopeless 99 = .ok (.istore 4, 2) := by decide +kernel
theorem dX4_isHopeless_101 : decode cX4_isHopeless 101 = .ok (.iinc 3 (-1), 3) := by decide +kernel
theorem dX4_isHopeless_104 : decode cX4_isHopeless 104 = .ok (.iinc 5 1, 3) := by decide +kernel
theorem dX4_isHopeless_107 : decode cX4_isHopeless 107 = .ok (.goto (-47), 3) := by decide +kernel
theorem dX4_isHopeless_110 : decode cX4_isHopeless 110 = .ok (.iload 4, 2) := by decide +kernel
theorem dX4_isHopeless_112 : decode cX4_isHopeless 112 = .ok (.aload_n 0, 1) := by decide +kernel
theorem dX4_isHopeless_113 : decode cX4_isHopeless 113 = .ok (.getfield 40, 3) := by decide +kernel
theorem dX4_isHopeless_116 : decode cX4_isHopeless 116 = .ok (.if_icmp .ge 7, 3) := by decide +kernel
theorem dX4_isHopeless_119 : decode cX4_isHopeless 119 = .ok (.iconst 1, 1) := by decide +kernel
theorem dX4_isHopeless_120 : decode cX4_isHopeless 120 = .ok (.goto 4, 3) := by decide +kernel
theorem dX4_isHopeless_123 : decode cX4_isHopeless 123 = .ok (.iconst 0, 1) := by decide +kernel
theorem dX4_isHopeless_124 : decode cX4_isHopeless 124 = .ok (.ireturn, 1) := by decide +kernel
theorem dX5_init_0 : decode cX5_init 0 = .ok (.aload_n 0, 1) := by decide +kernel
theorem dX5_init_1 : decode cX5_init 1 = .ok (.invokespecial 3, 3) := by decide +kernel
theorem dX5_init_4 : decode cX5_init 4 = .ok (.aload_n 0, 1) := by decide +kernel
theorem dX5_init_5 : decode cX5_init 5 = .ok (.bipush 8, 2) := by decide +kernel
theorem dX5_init_7 : decode cX5_init 7 = .ok (.newarray .int, 2) := by decide +kernel
theorem dX5_init_9 : decode cX5_init 9 = .ok (.putfield 9, 3) := by decide +kernel
theorem dX5_init_12 : decode cX5_init 12 = .ok (.aload_n 0, 1) := by decide +kernel
theorem dX5_init_13 : decode cX5_init 13 = .ok (.bipush 8, 2) := by decide +kernel
theorem dX5_init_15 : decode cX5_init 15 = .ok (.newarray .int, 2) := by decide +kernel
theorem dX5_init_17 : decode cX5_init 17 = .ok (.putfield 15, 3) := by decide +kernel
theorem dX5_init_20 : decode cX5_init 20 = .ok (.aload_n 0, 1) := by decide +kernel
theorem dX5_init_21 : decode cX5_init 21 = .ok (.bipush 8, 2) := by decide +kernel
theorem dX5_init_23 : decode cX5_init 23 = .ok (.newarray .int, 2) := by decide +kernel
theorem dX5_init_25 : decode cX5_init 25 = .ok (.putfield 18, 3) := by decide +kernel
theorem dX5_init_28 : decode cX5_init 28 = .ok (.return_, 1) := by decide +kernel
theorem dX5_become_0 : decode cX5_become 0 = .ok (.aload_n 0, 1) := by decide +kernel
theorem dX5_become_1 : decode cX5_become 1 = .ok (.aload_n 1, 1) := by decide +kernel
theorem dX5_become_2 : decode cX5_become 2 = .ok (.getfield 21, 3) := by decide +kernel
theorem dX5_become_5 : decode cX5_become 5 = .ok (.putfield 21, 3) := by decide +kernel
theorem dX5_become_8 : decode cX5_become 8 = .ok (.aload_n 1, 1) := by decide +kernel
theorem dX5_become_9 : decode cX5_become 9 = .ok (.getfield 9, 3) := by decide +kernel
theorem dX5_become_12 : decode cX5_become 12 = .ok (.iconst 0, 1) := by decide +kernel
theorem dX5_become_13 : decode cX5_become 13 = .ok (.aload_n 0, 1) := by decide +kernel
theorem dX5_become_14 : decode cX5_become 14 = .ok (.getfield 9, 3) := by decide +kernel
theorem dX5_become_17 : decode cX5_become 17 = .ok (.iconst 0, 1) := by decide +kernel
theorem dX5_become_18 : decode cX5_become 18 = .ok (.aload_n 0, 1) := by decide +kernel
theorem dX5_become_19 : decode cX5_become 19 = .ok (.getfield 21, 3) := by decide +kernel
theorem dX5_become_22 : decode cX5_become 22 = .ok (.invokestatic 25, 3) := by decide +kernel
theorem dX5_become_25 : decode cX5_become 25 = .ok (.aload_n 1, 1) := by decide +kernel
theorem dX5_become_26 : decode cX5_become 26 = .ok (.getfield 15, 3) := by decide +kernel
theorem dX5_become_29 : decode cX5_become 29 = .ok (.iconst 0, 1) := by decide +kernel
theorem dX5_become_30 : decode cX5_become 30 = .ok (.aload_n 0, 1) := by decide +kernel
theorem dX5_become_31 : decode cX5_become 31 = .ok (.getfield 15, 3) := by decide +kernel
theorem dX5_become_34 : decode cX5_become 34 = .ok (.iconst 0, 1) := by decide +kernel
theorem dX5_become_35 : decode cX5_become 35 = .ok (.aload_n 0, 1) := by decide +kernel
theorem dX5_become_36 : decode cX5_become 36 = .ok (.getfield 21, 3) := by decide +kernel
theorem dX5_become_39 : decode cX5_become 39 = .ok (.invokestatic 25, 3) := by decide +kernel
theorem dX5_become_42 : decode cX5_become 42 = .ok (.aload_n 1, 1) := by decide +kernel
theorem dX5_become_43 : decode cX5_become 43 = .ok (.getfield 18, 3) := by decide +kernel
theorem dX5_become_46 : decode cX5_become 46 = .ok (.iconst 0, 1) := by decide +kernel
theorem dX5_become_47 : decode cX5_become 47 = .ok (.aload_n 0, 1) := by decide +kernel
theorem dX5_become_48 : decode cX5_become 48 = .ok (.getfield 18, 3) := by decide +kernel
theorem dX5_become_51 : decode cX5_become 51 = .ok (.iconst 0, 1) := by decide +kernel
theorem dX5_become_52 : decode cX5_become 52 = .ok (.aload_n 0, 1) := by decide +kernel
theorem dX5_become_53 : decode cX5_become 53 = .ok (.getfield 21, 3) := by decide +kernel
theorem dX5_become_56 : decode cX5_become 56 = .ok (.invokestatic 25, 3) := by decide +kernel
theorem dX5_become_59 : decode cX5_become 59 = .ok (.return_, 1) := by decide +kernel
theorem dX5_hasRoom_0 : decode cX5_hasRoom 0 = .ok (.aload_n 0, 1) := by decide +kernel
theorem dX5_hasRoom_1 : decode cX5_hasRoom 1 = .ok (.getfield 21, 3) := by decide +kernel
theorem dX5_hasRoom_4 : decode cX5_hasRoom 4 = .ok (.bipush 8, 2) := by decide +kernel
theorem dX5_hasRoom_6 : decode cX5_hasRoom 6 = .ok (.if_icmp .ge 7, 3) := by decide +kernel
theorem dX5_hasRoom_9 : decode cX5_hasRoom 9 = .ok (.iconst 1, 1) := by decide +kernel
theorem dX5_hasRoom_10 : decode cX5_hasRoom 10 = .ok (.goto 4, 3) := by decide +kernel
theorem dX5_hasRoom_13 : decode cX5_hasRoom 13 = .ok (.iconst 0, 1) := by decide +kernel
theorem dX5_hasRoom_14 : decode cX5_hasRoom 14 = .ok (.ireturn, 1) := by decide +kernel
theorem dX5_add_0 : decode cX5_add 0 = .ok (.aload_n 0, 1) := by decide +kernel
theorem dX5_add_1 : decode cX5_add 1 = .ok (.invokevirtual 31, 3) := by decide +kernel
theorem dX5_add_4 : decode cX5_add 4 = .ok (.ifCond .eq 43, 3) := by decide +kernel
theorem dX5_add_7 : decode cX5_add 7 = .ok (.aload_n 0, 1) := by decide +kernel
theorem dX5_add_8 : decode cX5_add 8 = .ok (.getfield 9, 3) := by decide +kernel
theorem dX5_add_11 : decode cX5_add 11 = .ok (.aload_n 0, 1) := by decide +kernel
theorem dX5_add_12 : decode cX5_add 12 = .ok (.getfield 21, 3) := by decide +kernel
theorem dX5_add_15 : decode cX5_add 15 = .ok (.iload_n 1, 1) := by decide +kernel
theorem dX5_add_16 : decode cX5_add 16 = .ok (.iastore, 1) := by decide +kernel
theorem dX5_add_17 : decode cX5_add 17 = .ok (.aload_n 0, 1) := by decide +kernel
theorem dX5_add_18 : decode cX5_add 18 = .ok (.getfield 15, 3) := by decide +kernel
theorem dX5_add_21 : decode cX5_add 21 = .ok (.aload_n 0, 1) := by decide +kernel
theorem dX5_add_22 : decode cX5_add 22 = .ok (.getfield 21, 3) := by decide +kernel
theorem dX5_add_25 : decode cX5_add 25 = .ok (.iload_n 2, 1) := by decide +kernel
theorem dX5_add_26 : decode cX5_add 26 = .ok (.iastore, 1) := by decide +kernel
theorem dX5_add_27 : decode cX5_add 27 = .ok (.aload_n 0, 1) := by decide +kernel
theorem dX5_add_28 : decode cX5_add 28 = .ok (.getfield 18, 3) := by decide +kernel
theorem dX5_add_31 : decode cX5_add 31 = .ok (.aload_n 0, 1) := by decide +kernel
theorem dX5_add_32 : decode cX5_add 32 = .ok (.getfield 21, 3) := by decide +kernel
theorem dX5_add_35 : decode cX5_add 35 = .ok (.iload_n 3, 1) := by decide +kernel
theorem dX5_add_36 : decode cX5_add 36 = .ok (.iastore, 1) := by decide +kernel
theorem dX5_add_37 : decode cX5_add 37 = .ok (.aload_n 0, 1) := by decide +kernel
theorem dX5_add_38 : decode cX5_add 38 = .ok (.dup, 1) := by decide +kernel
theorem dX5_add_39 : decode cX5_add 39 = .ok (.getfield 21, 3) := by decide +kernel
theorem dX5_add_42 : decode cX5_add 42 = .ok (.iconst 1, 1) := by decide +kernel
theorem dX5_add_43 : decode cX5_add 43 = .ok (.iadd, 1) := by decide +kernel
theorem dX5_add_44 : decode cX5_add 44 = .ok (.putfield 21, 3) := by decide +kernel
theorem dX5_add_47 : decode cX5_add 47 = .ok (.return_, 1) := by decide +kernel
theorem dX5_lose_0 : decode cX5_lose 0 = .ok (.iload_n 1, 1) := by decide +kernel
theorem dX5_lose_1 : decode cX5_lose 1 = .ok (.istore_n 3, 1) := by decide +kernel
theorem dX5_lose_2 : decode cX5_lose 2 = .ok (.iconst 0, 1) := by decide +kernel
theorem dX5_lose_3 : decode cX5_lose 3 = .ok (.istore 4, 2) := by decide +kernel
theorem dX5_lose_5 : decode cX5_lose 5 = .ok (.iload 4, 2) := by decide +kernel
theorem dX5_lose_7 : decode cX5_lose 7 = .ok (.aload_n 0, 1) := by decide +kernel
theorem dX5_lose_8 : decode cX5_lose 8 = .ok (.getfield 21, 3) := by decide +kernel
theorem dX5_lose_11 : decode cX5_lose 11 = .ok (.if_icmp .ge 49, 3) := by decide +kernel
theorem dX5_lose_14 : decode cX5_lose 14 = .ok (.aload_n 0, 1) := by decide +kernel
theorem dX5_lose_15 : decode cX5_lose 15 = .ok (.getfield 15, 3) := by decide +kernel
theorem dX5_lose_18 : decode cX5_lose 18 = .ok (.iload 4, 2) := by decide +kernel
theorem dX5_lose_20 : decode cX5_lose 20 = .ok (.iaload, 1) := by decide +kernel
theorem dX5_lose_21 : decode cX5_lose 21 = .ok (.iload_n 3, 1) := by decide +kernel
theorem dX5_lose_22 : decode cX5_lose 22 = .ok (.if_icmp .gt 38, 3) := by decide +kernel
theorem dX5_lose_25 : decode cX5_lose 25 = .ok (.iload_n 3, 1) := by decide +kernel
theorem dX5_lose_26 : decode cX5_lose 26 = .ok (.aload_n 0, 1) := by decide +kernel
theorem dX5_lose_27 : decode cX5_lose 27 = .ok (.getfield 15, 3) := by decide +kernel
theorem dX5_lose_30 : decode cX5_lose 30 = .ok (.iload 4, 2) := by decide +kernel
theorem dX5_lose_32 : decode cX5_lose 32 = .ok (.iaload, 1) := by decide +kernel
theorem dX5_lose_33 : decode cX5_lose 33 = .ok (.isub, 1) := by decide +kernel
theorem dX5_lose_34 : decode cX5_lose 34 = .ok (.istore_n 3, 1) := by decide +kernel
theorem dX5_lose_35 : decode cX5_lose 35 = .ok (.aload_n 2, 1) := by decide +kernel
theorem dX5_lose_36 : decode cX5_lose 36 = .ok (.aload_n 0, 1) := by decide +kernel
theorem dX5_lose_37 : decode cX5_lose 37 = .ok (.getfield 9, 3) := by decide +kernel
theorem dX5_lose_40 : decode cX5_lose 40 = .ok (.iload 4, 2) := by decide +kernel
theorem dX5_lose_42 : decode cX5_lose 42 = .ok (.iaload, 1) := by decide +kernel
theorem dX5_lose_43 : decode cX5_lose 43 = .ok (.dup2, 1) := by decide +kernel
theorem dX5_lose_44 : decode cX5_lose 44 = .ok (.iaload, 1) := by decide +kernel
theorem dX5_lose_45 : decode cX5_lose 45 = .ok (.aload_n 0, 1) := by decide +kernel
theorem dX5_lose_46 : decode cX5_lose 46 = .ok (.getfield 15, 3) := by decide +kernel
theorem dX5_lose_49 : decode cX5_lose 49 = .ok (.iload 4, 2) := by decide +kernel
theorem dX5_lose_51 : decode cX5_lose 51 = .ok (.iaload, 1) := by decide +kernel
theorem dX5_lose_52 : decode cX5_lose 52 = .ok (.iadd, 1) := by decide +kernel
theorem dX5_lose_53 : decode cX5_lose 53 = .ok (.iastore, 1) := by decide +kernel
theorem dX5_lose_54 : decode cX5_lose 54 = .ok (.iinc 4 1, 3) := by decide +kernel
theorem dX5_lose_57 : decode cX5_lose 57 = .ok (.goto (-52), 3) := by decide +kernel
theorem dX5_lose_60 : decode cX5_lose 60 = .ok (.iload 4, 2) := by decide +kernel
theorem dX5_lose_62 : decode cX5_lose 62 = .ok (.aload_n 0, 1) := by decide +kernel
theorem dX5_lose_63 : decode cX5_lose 63 = .ok (.getfield 21, 3) := by decide +kernel
theorem dX5_lose_66 : decode cX5_lose 66 = .ok (.if_icmp .ge 27, 3) := by decide +kernel
theorem dX5_lose_69 : decode cX5_lose 69 = .ok (.aload_n 0, 1) := by decide +kernel
theorem dX5_lose_70 : decode cX5_lose 70 = .ok (.getfield 15, 3) := by decide +kernel
theorem dX5_lose_73 : decode cX5_lose 73 = .ok (.iload 4, 2) := by decide +kernel
theorem dX5_lose_75 : decode cX5_lose 75 = .ok (.dup2, 1) := by decide +kernel
theorem dX5_lose_76 : decode cX5_lose 76 = .ok (.iaload, 1) := by decide +kernel
theorem dX5_lose_77 : decode cX5_lose 77 = .ok (.iload_n 3, 1) := by decide +kernel
theorem dX5_lose_78 : decode cX5_lose 78 = .ok (.isub, 1) := by decide +kernel
theorem dX5_lose_79 : decode cX5_lose 79 = .ok (.iastore, 1) := by decide +kernel
theorem dX5_lose_80 : decode cX5_lose 80 = .ok (.aload_n 2, 1) := by decide +kernel
theorem dX5_lose_81 : decode cX5_lose 81 = .ok (.aload_n 0, 1) := by decide +kernel
theorem dX5_lose_82 : decode cX5_lose 82 = .ok (.getfield 9, 3) := by decide +kernel
theorem dX5_lose_85 : decode cX5_lose 85 = .ok (.iload 4, 2) := by decide +kernel
theorem dX5_lose_87 : decode cX5_lose 87 = .ok (.iaload, 1) := by decide +kernel
theorem dX5_lose_88 : decode cX5_lose 88 = .ok (.dup2, 1) := by decide +kernel
theorem dX5_lose_89 : decode cX5_lose 89 = .ok (.iaload, 1) := by decide +kernel
theorem dX5_lose_90 : decode cX5_lose 90 = .ok (.iload_n 3, 1) := by decide +kernel
theorem dX5_lose_91 : decode cX5_lose 91 = .ok (.iadd, 1) := by decide +kernel
theorem dX5_lose_92 : decode cX5_lose 92 = .ok (.iastore, 1) := by decide +kernel
theorem dX5_lose_93 : decode cX5_lose 93 = .ok (.aload_n 0, 1) := by decide +kernel
theorem dX5_lose_94 : decode cX5_lose 94 = .ok (.iload 4, 2) := by decide +kernel
theorem dX5_lose_96 : decode cX5_lose 96 = .ok (.invokevirtual 35, 3) := by decide +kernel
theorem dX5_lose_99 : decode cX5_lose 99 = .ok (.return_, 1) := by decide +kernel
theorem dX5_dropOldest_0 : decode cX5_dropOldest 0 = .ok (.iload_n 1, 1) := by decide +kernel
theorem dX5_dropOldest_1 : decode cX5_dropOldest 1 = .ok (.ifCond .le 64, 3) := by decide +kernel
theorem dX5_dropOldest_4 : decode cX5_dropOldest 4 = .ok (.aload_n 0, 1) := by decide +kernel
theorem dX5_dropOldest_5 : decode cX5_dropOldest 5 = .ok (.dup, 1) := by decide +kernel
theorem dX5_dropOldest_6 : decode cX5_dropOldest 6 = .ok (.getfield 21, 3) := by decide +kernel
theorem dX5_dropOldest_9 : decode cX5_dropOldest 9 = .ok (.iload_n 1, 1) := by decide +kernel
theorem dX5_dropOldest_10 : decode cX5_dropOldest 10 = .ok (.isub, 1) := by decide +kernel
theorem dX5_dropOldest_11 : decode cX5_dropOldest 11 = .ok (.putfield 21, 3) := by decide +kernel
theorem dX5_dropOldest_14 : decode cX5_dropOldest 14 = .ok (.aload_n 0, 1) := by decide +kernel
theorem dX5_dropOldest_15 : decode cX5_dropOldest 15 = .ok (.getfield 9, 3) := by decide +kernel
theorem dX5_dropOldest_18 : decode cX5_dropOldest 18 = .ok (.iload_n 1, 1) := by decide +kernel
theorem dX5_dropOldest_19 : decode cX5_dropOldest 19 = .ok (.aload_n 0, 1) := by decide +kernel
theorem dX5_dropOldest_20 : decode cX5_dropOldest 20 = .ok (.getfield 9, 3) := by decide +kernel
theorem dX5_dropOldest_23 : decode cX5_dropOldest 23 = .ok (.iconst 0, 1) := by decide +kernel
theorem dX5_dropOldest_24 : decode cX5_dropOldest 24 = .ok (.aload_n 0, 1) := by decide +kernel
theorem dX5_dropOldest_25 : decode cX5_dropOldest 25 = .ok (.getfield 21, 3) := by decide +kernel
theorem dX5_dropOldest_28 : decode cX5_dropOldest 28 = .ok (.invokestatic 25, 3) := by decide +kernel
theorem dX5_dropOldest_31 : decode cX5_dropOldest 31 = .ok (.aload_n 0, 1) := by decide +kernel
theorem dX5_dropOldest_32 : decode cX5_dropOldest 32 = .ok (.getfield 15, 3) := by decide +kernel
theorem dX5_dropOldest_35 : decode cX5_dropOldest 35 = .ok (.iload_n 1, 1) := by decide +kernel
theorem dX5_dropOldest_36 : decode cX5_dropOldest 36 = .ok (.aload_n 0, 1) := by decide +kernel
theorem dX5_dropOldest_37 : decode cX5_dropOldest 37 = .ok (.getfield 15, 3) := by decide +kernel
theorem dX5_dropOldest_40 : decode cX5_dropOldest 40 = .ok (.iconst 0, 1) := by decide +kernel
theorem dX5_dropOldest_41 : decode cX5_dropOldest 41 = .ok (.aload_n 0, 1) := by decide +kernel
theorem dX5_dropOldest_42 : decode cX5_dropOldest 42 = .ok (.getfield 21, 3) := by decide +kernel
theorem dX5_dropOldest_45 : decode cX5_dropOldest 45 = .ok (.invokestatic 25, 3) := by decide +kernel
theorem dX5_dropOldest_48 : decode cX5_dropOldest 48 = .ok (.aload_n 0, 1) := by decide +kernel
theorem dX5_dropOldest_49 : decode cX5_dropOldest 49 = .ok (.getfield 18, 3) := by decide +kernel
theorem dX5_dropOldest_52 : decode cX5_dropOldest 52 = .ok (.iload_n 1, 1) := by decide +kernel
theorem dX5_dropOldest_53 : decode cX5_dropOldest 53 = .ok (.aload_n 0, 1) := by decide +kernel
theorem dX5_dropOldest_54 : decode cX5_dropOldest 54 = .ok (.getfield 18, 3) := by decide +kernel
theorem dX5_dropOldest_57 : decode cX5_dropOldest 57 = .ok (.iconst 0, 1) := by decide +kernel
theorem dX5_dropOldest_58 : decode cX5_dropOldest 58 = .ok (.aload_n 0, 1) := by decide +kernel
theorem dX5_dropOldest_59 : decode cX5_dropOldest 59 = .ok (.getfield 21, 3) := by decide +kernel
theorem dX5_dropOldest_62 : decode cX5_dropOldest 62 = .ok (.invokestatic 25, 3) := by decide +kernel
theorem dX5_dropOldest_65 : decode cX5_dropOldest 65 = .ok (.return_, 1) := by decide +kernel
theorem dX5_powerLess_0 : decode cX5_powerLess 0 = .ok (.iload_n 1, 1) := by decide +kernel
theorem dX5_powerLess_1 : decode cX5_powerLess 1 = .ok (.istore_n 3, 1) := by decide +kernel
theorem dX5_powerLess_2 : decode cX5_powerLess 2 = .ok (.iconst 0, 1) := by decide +kernel
theorem dX5_powerLess_3 : decode cX5_powerLess 3 = .ok (.istore 4, 2) := by decide +kernel
theorem dX5_powerLess_5 : decode cX5_powerLess 5 = .ok (.iconst 0, 1) := by decide +kernel
theorem dX5_powerLess_6 : decode cX5_powerLess 6 = .ok (.istore 5, 2) := by decide +kernel
theorem dX5_powerLess_8 : decode cX5_powerLess 8 = .ok (.iload 5, 2) := by decide +kernel
theorem dX5_powerLess_10 : decode cX5_powerLess 10 = .ok (.aload_n 0, 1) := by decide +kernel
theorem dX5_powerLess_11 : decode cX5_powerLess 11 = .ok (.getfield 21, 3) := by decide +kernel
theorem dX5_powerLess_14 : decode cX5_powerLess 14 = .ok (.if_icmp .ge 52, 3) := by decide +kernel
theorem dX5_powerLess_17 : decode cX5_powerLess 17 = .ok (.iload_n 3, 1) := by decide +kernel
theorem dX5_powerLess_18 : decode cX5_powerLess 18 = .ok (.aload_n 0, 1) := by decide +kernel
theorem dX5_powerLess_19 : decode cX5_powerLess 19 = .ok (.getfield 15, 3) := by decide +kernel
theorem dX5_powerLess_22 : decode cX5_powerLess 22 = .ok (.iload 5, 2) := by decide +kernel
theorem dX5_powerLess_24 : decode cX5_powerLess 24 = .ok (.iaload, 1) := by decide +kernel
theorem dX5_powerLess_25 : decode cX5_powerLess 25 = .ok (.invokestatic 39, 3) := by decide +kernel
theorem dX5_powerLess_28 : decode cX5_powerLess 28 = .ok (.istore 6, 2) := by decide +kernel
theorem dX5_powerLess_30 : decode cX5_powerLess 30 = .ok (.iload_n 3, 1) := by decide +kernel
theorem dX5_powerLess_31 : decode cX5_powerLess 31 = .ok (.iload 6, 2) := by decide +kernel
theorem dX5_powerLess_33 : decode cX5_powerLess 33 = .ok (.isub, 1) := by decide +kernel
theorem dX5_powerLess_34 : decode cX5_powerLess 34 = .ok (.istore_n 3, 1) := by decide +kernel
theorem dX5_powerLess_35 : decode cX5_powerLess 35 = .ok (.iload 4, 2) := by decide +kernel
theorem dX5_powerLess_37 : decode cX5_powerLess 37 = .ok (.aload_n 0, 1) := by decide +kernel
theorem dX5_powerLess_38 : decode cX5_powerLess 38 = .ok (.getfield 15, 3) := by decide +kernel
theorem dX5_powerLess_41 : decode cX5_powerLess 41 = .ok (.iload 5, 2) := by decide +kernel
theorem dX5_powerLess_43 : decode cX5_powerLess 43 = .ok (.iaload, 1) := by decide +kernel
theorem dX5_powerLess_44 : decode cX5_powerLess 44 = .ok (.iload 6, 2) := by decide +kernel
theorem dX5_powerLess_46 : decode cX5_powerLess 46 = .ok (.isub, 1) := by decide +kernel
theorem dX5_powerLess_47 : decode cX5_powerLess 47 = .ok (.aload_n 2, 1) := by decide +kernel
theorem dX5_powerLess_48 : decode cX5_powerLess 48 = .ok (.aload_n 0, 1) := by decide +kernel
theorem dX5_powerLess_49 : decode cX5_powerLess 49 = .ok (.getfield 9, 3) := by decide +kernel
theorem dX5_powerLess_52 : decode cX5_powerLess 52 = .ok (.iload 5, 2) := by decide +kernel
theorem dX5_powerLess_54 : decode cX5_powerLess 54 = .ok (.iaload, 1) := by decide +kernel
theorem dX5_powerLess_55 : decode cX5_powerLess 55 = .ok (.iaload, 1) := by decide +kernel
theorem dX5_powerLess_56 : decode cX5_powerLess 56 = .ok (.imul, 1) := by decide +kernel
theorem dX5_powerLess_57 : decode cX5_powerLess 57 = .ok (.iadd, 1) := by decide +kernel
theorem dX5_powerLess_58 : decode cX5_powerLess 58 = .ok (.istore 4, 2) := by decide +kernel
theorem dX5_powerLess_60 : decode cX5_powerLess 60 = .ok (.iinc 5 1, 3) := by decide +kernel
theorem dX5_powerLess_63 : decode cX5_powerLess 63 = .ok (.goto (-55), 3) := by decide +kernel
theorem dX5_powerLess_66 : decode cX5_powerLess 66 = .ok (.iload 4, 2) := by decide +kernel
theorem dX5_powerLess_68 : decode cX5_powerLess 68 = .ok (.ireturn, 1) := by decide +kernel
theorem dX5_length_0 : decode cX5_length 0 = .ok (.iconst 0, 1) := by decide +kernel
theorem dX5_length_1 : decode cX5_length 1 = .ok (.istore_n 1, 1) := by decide +kernel
theorem dX5_length_2 : decode cX5_length 2 = .ok (.iconst 0, 1) := by decide +kernel
theorem dX5_length_3 : decode cX5_length 3 = .ok (.istore_n 2, 1) := by decide +kernel
theorem dX5_length_4 : decode cX5_length 4 = .ok (.iload_n 2, 1) := by decide +kernel
theorem dX5_length_5 : decode cX5_length 5 = .ok (.aload_n 0, 1) := by decide +kernel
theorem dX5_length_6 : decode cX5_length 6 = .ok (.getfield 21, 3) := by decide +kernel
theorem dX5_length_9 : decode cX5_length 9 = .ok (.if_icmp .ge 18, 3) := by decide +kernel
theorem dX5_length_12 : decode cX5_length 12 = .ok (.iload_n 1, 1) := by decide +kernel
theorem dX5_length_13 : decode cX5_length 13 = .ok (.aload_n 0, 1) := by decide +kernel
theorem dX5_length_14 : decode cX5_length 14 = .ok (.getfield 15, 3) := by decide +kernel
theorem dX5_length_17 : decode cX5_length 17 = .ok (.iload_n 2, 1) := by decide +kernel
theorem dX5_length_18 : decode cX5_length 18 = .ok (.iaload, 1) := by decide +kernel
theorem dX5_length_19 : decode cX5_length 19 = .ok (.iadd, 1) := by decide +kernel
theorem dX5_length_20 : decode cX5_length 20 = .ok (.istore_n 1, 1) := by decide +kernel
theorem dX5_length_21 : decode cX5_length 21 = .ok (.iinc 2 1, 3) := by decide +kernel
theorem dX5_length_24 : decode cX5_length 24 = .ok (.goto (-20), 3) := by decide +kernel
theorem dX5_length_27 : decode cX5_length 27 = .ok (.iload_n 1, 1) := by decide +kernel
theorem dX5_length_28 : decode cX5_length 28 = .ok (.ireturn, 1) := by decide +kernel
theorem dX5_lengthOf_0 : decode cX5_lengthOf 0 = .ok (.iconst 0, 1) := by decide +kernel
theorem dX5_lengthOf_1 : decode cX5_lengthOf 1 = .ok (.istore_n 2, 1) := by decide +kernel
theorem dX5_lengthOf_2 : decode cX5_lengthOf 2 = .ok (.iconst 0, 1) := by decide +kernel
theorem dX5_lengthOf_3 : decode cX5_lengthOf 3 = .ok (.istore_n 3, 1) := by decide +kernel
theorem dX5_lengthOf_4 : decode cX5_lengthOf 4 = .ok (.iload_n 3, 1) := by decide +kernel
theorem dX5_lengthOf_5 : decode cX5_lengthOf 5 = .ok (.aload_n 0, 1) := by decide +kernel
theorem dX5_lengthOf_6 : decode cX5_lengthOf 6 = .ok (.getfield 21, 3) := by decide +kernel
theorem dX5_lengthOf_9 : decode cX5_lengthOf 9 = .ok (.if_icmp .ge 28, 3) := by decide +kernel
theorem dX5_lengthOf_12 : decode cX5_lengthOf 12 = .ok (.aload_n 0, 1) := by decide +kernel
theorem dX5_lengthOf_13 : decode cX5_lengthOf 13 = .ok (.getfield 9, 3) := by decide +kernel
theorem dX5_lengthOf_16 : decode cX5_lengthOf 16 = .ok (.iload_n 3, 1) := by decide +kernel
theorem dX5_lengthOf_17 : decode cX5_lengthOf 17 = .ok (.iaload, 1) := by decide +kernel
theorem dX5_lengthOf_18 : decode cX5_lengthOf 18 = .ok (.iload_n 1, 1) := by decide +kernel
theorem dX5_lengthOf_19 : decode cX5_lengthOf 19 = .ok (.if_icmp .ne 12, 3) := by decide +kernel
theorem dX5_lengthOf_22 : decode cX5_lengthOf 22 = .ok (.iload_n 2, 1) := by decide +kernel
theorem dX5_lengthOf_23 : decode cX5_lengthOf 23 = .ok (.aload_n 0, 1) := by decide +kernel
theorem dX5_lengthOf_24 : decode cX5_lengthOf 24 = .ok (.getfield 15, 3) := by decide +kernel
theorem dX5_lengthOf_27 : decode cX5_lengthOf 27 = .ok (.iload_n 3, 1) := by decide +kernel
theorem dX5_lengthOf_28 : decode cX5_lengthOf 28 = .ok (.iaload, 1) := by decide +kernel
theorem dX5_lengthOf_29 : decode cX5_lengthOf 29 = .ok (.iadd, 1) := by decide +kernel
theorem dX5_lengthOf_30 : decode cX5_lengthOf 30 = .ok (.istore_n 2, 1) := by decide +kernel
theorem dX5_lengthOf_31 : decode cX5_lengthOf 31 = .ok (.iinc 3 1, 3) := by decide +kernel
theorem dX5_lengthOf_34 : decode cX5_lengthOf 34 = .ok (.goto (-30), 3) := by decide +kernel
theorem dX5_lengthOf_37 : decode cX5_lengthOf 37 = .ok (.iload_n 2, 1) := by decide +kernel
theorem dX5_lengthOf_38 : decode cX5_lengthOf 38 = .ok (.ireturn, 1) := by decide +kernel
theorem dX6_init_0 : decode cX6_init 0 = .ok (.aload_n 0, 1) := by decide +kernel
theorem dX6_init_1 : decode cX6_init 1 = .ok (.invokespecial 1, 3) := by decide +kernel
theorem dX6_init_4 : decode cX6_init 4 = .ok (.aload_n 0, 1) := by decide +kernel
theorem dX6_init_5 : decode cX6_init 5 = .ok (.new 7, 3) := by decide +kernel
theorem dX6_init_8 : decode cX6_init 8 = .ok (.dup, 1) := by decide +kernel
theorem dX6_init_9 : decode cX6_init 9 = .ok (.invokespecial 9, 3) := by decide +kernel
theorem dX6_init_12 : decode cX6_init 12 = .ok (.putfield 10, 3) := by decide +kernel
theorem dX6_init_15 : decode cX6_init 15 = .ok (.aload_n 0, 1) := by decide +kernel
theorem dX6_init_16 : decode cX6_init 16 = .ok (.new 16, 3) := by decide +kernel
theorem dX6_init_19 : decode cX6_init 19 = .ok (.dup, 1) := by decide +kernel
theorem dX6_init_20 : decode cX6_init 20 = .ok (.invokespecial 18, 3) := by decide +kernel
theorem dX6_init_23 : decode cX6_init 23 = .ok (.putfield 19, 3) := by decide +kernel
theorem dX6_init_26 : decode cX6_init 26 = .ok (.aload_n 0, 1) := by decide +kernel
theorem dX6_init_27 : decode cX6_init 27 = .ok (.new 16, 3) := by decide +kernel
theorem dX6_init_30 : decode cX6_init 30 = .ok (.dup, 1) := by decide +kernel
theorem dX6_init_31 : decode cX6_init 31 = .ok (.invokespecial 18, 3) := by decide +kernel
theorem dX6_init_34 : decode cX6_init 34 = .ok (.putfield 23, 3) := by decide +kernel
theorem dX6_init_37 : decode cX6_init 37 = .ok (.return_, 1) := by decide +kernel
theorem dX6_become_0 : decode cX6_become 0 = .ok (.aload_n 0, 1) := by decide +kernel
theorem dX6_become_1 : decode cX6_become 1 = .ok (.getfield 10, 3) := by decide +kernel
theorem dX6_become_4 : decode cX6_become 4 = .ok (.aload_n 1, 1) := by decide +kernel
theorem dX6_become_5 : decode cX6_become 5 = .ok (.getfield 10, 3) := by decide +kernel
theorem dX6_become_8 : decode cX6_become 8 = .ok (.invokevirtual 26, 3) := by decide +kernel
theorem dX6_become_11 : decode cX6_become 11 = .ok (.aload_n 0, 1) := by decide +kernel
theorem dX6_become_12 : decode cX6_become 12 = .ok (.getfield 19, 3) := by decide +kernel
theorem dX6_become_15 : decode cX6_become 15 = .ok (.aload_n 1, 1) := by decide +kernel
theorem dX6_become_16 : decode cX6_become 16 = .ok (.getfield 19, 3) := by decide +kernel
theorem dX6_become_19 : decode cX6_become 19 = .ok (.invokevirtual 30, 3) := by decide +kernel
theorem dX6_become_22 : decode cX6_become 22 = .ok (.aload_n 0, 1) := by decide +kernel
theorem dX6_become_23 : decode cX6_become 23 = .ok (.getfield 23, 3) := by decide +kernel
theorem dX6_become_26 : decode cX6_become 26 = .ok (.aload_n 1, 1) := by decide +kernel
theorem dX6_become_27 : decode cX6_become 27 = .ok (.getfield 23, 3) := by decide +kernel
theorem dX6_become_30 : decode cX6_become 30 = .ok (.invokevirtual 30, 3) := by decide +kernel
theorem dX6_become_33 : decode cX6_become 33 = .ok (.return_, 1) := by decide +kernel
theorem dX7_init_0 : decode cX7_init 0 = .ok (.aload_n 0, 1) := by decide +kernel
theorem dX7_init_1 : decode cX7_init 1 = .ok (.invokespecial 3, 3) := by decide +kernel
theorem dX7_init_4 : decode cX7_init 4 = .ok (.aload_n 0, 1) := by decide +kernel
theorem dX7_init_5 : decode cX7_init 5 = .ok (.bipush 64, 2) := by decide +kernel
theorem dX7_init_7 : decode cX7_init 7 = .ok (.newarray .int, 2) := by decide +kernel
theorem dX7_init_9 : decode cX7_init 9 = .ok (.putfield 11, 3) := by decide +kernel
theorem dX7_init_12 : decode cX7_init 12 = .ok (.aload_n 0, 1) := by decide +kernel
theorem dX7_init_13 : decode cX7_init 13 = .ok (.sipush 241, 3) := by decide +kernel
theorem dX7_init_16 : decode cX7_init 16 = .ok (.newarray .int, 2) := by decide +kernel
theorem dX7_init_18 : decode cX7_init 18 = .ok (.putfield 15, 3) := by decide +kernel
theorem dX7_init_21 : decode cX7_init 21 = .ok (.aload_n 0, 1) := by decide +kernel
theorem dX7_init_22 : decode cX7_init 22 = .ok (.bipush 64, 2) := by decide +kernel
theorem dX7_init_24 : decode cX7_init 24 = .ok (.newarray .int, 2) := by decide +kernel
theorem dX7_init_26 : decode cX7_init 26 = .ok (.putfield 18, 3) := by decide +kernel
theorem dX7_init_29 : decode cX7_init 29 = .ok (.return_, 1) := by decide +kernel
theorem dX7_find_0 : decode cX7_find 0 = .ok (.iconst 1, 1) := by decide +kernel
theorem dX7_find_1 : decode cX7_find 1 = .ok (.istore_n 3, 1) := by decide +kernel
theorem dX7_find_2 : decode cX7_find 2 = .ok (.iload_n 3, 1) := by decide +kernel
theorem dX7_find_3 : decode cX7_find 3 = .ok (.bipush 64, 2) := by decide +kernel
theorem dX7_find_5 : decode cX7_find 5 = .ok (.if_icmp .ge 36, 3) := by decide +kernel
theorem dX7_find_8 : decode cX7_find 8 = .ok (.iload_n 3, 1) := by decide +kernel
theorem dX7_find_9 : decode cX7_find 9 = .ok (.invokestatic 21, 3) := by decide +kernel
theorem dX7_find_12 : decode cX7_find 12 = .ok (.istore 4, 2) := by decide +kernel
theorem dX7_find_14 : decode cX7_find 14 = .ok (.aload_n 0, 1) := by decide +kernel
theorem dX7_find_15 : decode cX7_find 15 = .ok (.getfield 11, 3) := by decide +kernel
theorem dX7_find_18 : decode cX7_find 18 = .ok (.iload_n 3, 1) := by decide +kernel
theorem dX7_find_19 : decode cX7_find 19 = .ok (.aload_n 0, 1) := by decide +kernel
theorem dX7_find_20 : decode cX7_find 20 = .ok (.getfield 11, 3) := by decide +kernel
theorem dX7_find_23 : decode cX7_find 23 = .ok (.iload_n 3, 1) := by decide +kernel
theorem dX7_find_24 : decode cX7_find 24 = .ok (.iload_n 3, 1) := by decide +kernel
theorem dX7_find_25 : decode cX7_find 25 = .ok (.iconst 1, 1) := by decide +kernel
theorem dX7_find_26 : decode cX7_find 26 = .ok (.isub, 1) := by decide +kernel
theorem dX7_find_27 : decode cX7_find 27 = .ok (.iand, 1) := by decide +kernel
theorem dX7_find_28 : decode cX7_find 28 = .ok (.iaload, 1) := by decide +kernel
theorem dX7_find_29 : decode cX7_find 29 = .ok (.aload_n 1, 1) := by decide +kernel
theorem dX7_find_30 : decode cX7_find 30 = .ok (.iload 4, 2) := by decide +kernel
theorem dX7_find_32 : decode cX7_find 32 = .ok (.iaload, 1) := by decide +kernel
theorem dX7_find_33 : decode cX7_find 33 = .ok (.iadd, 1) := by decide +kernel
theorem dX7_find_34 : decode cX7_find 34 = .ok (.iastore, 1) := by decide +kernel
theorem dX7_find_35 : decode cX7_find 35 = .ok (.iinc 3 1, 3) := by decide +kernel
theorem dX7_find_38 : decode cX7_find 38 = .ok (.goto (-36), 3) := by decide +kernel
theorem dX7_find_41 : decode cX7_find 41 = .ok (.aload_n 0, 1) := by decide +kernel
theorem dX7_find_42 : decode cX7_find 42 = .ok (.iconst 0, 1) := by decide +kernel
theorem dX7_find_43 : decode cX7_find 43 = .ok (.putfield 27, 3) := by decide +kernel
theorem dX7_find_46 : decode cX7_find 46 = .ok (.iconst 0, 1) := by decide +kernel
theorem dX7_find_47 : decode cX7_find 47 = .ok (.istore_n 3, 1) := by decide +kernel
theorem dX7_find_48 : decode cX7_find 48 = .ok (.iload_n 3, 1) := by decide +kernel
theorem dX7_find_49 : decode cX7_find 49 = .ok (.bipush 64, 2) := by decide +kernel
theorem dX7_find_51 : decode cX7_find 51 = .ok (.if_icmp .ge 38, 3) := by decide +kernel
theorem dX7_find_54 : decode cX7_find 54 = .ok (.aload_n 0, 1) := by decide +kernel
theorem dX7_find_55 : decode cX7_find 55 = .ok (.iload_n 3, 1) := by decide +kernel
theorem dX7_find_56 : decode cX7_find 56 = .ok (.aload_n 2, 1) := by decide +kernel
theorem dX7_find_57 : decode cX7_find 57 = .ok (.invokevirtual 31, 3) := by decide +kernel
theorem dX7_find_60 : decode cX7_find 60 = .ok (.ifCond .eq 23, 3) := by decide +kernel
theorem dX7_find_63 : decode cX7_find 63 = .ok (.aload_n 0, 1) := by decide +kernel
theorem dX7_find_64 : decode cX7_find 64 = .ok (.getfield 18, 3) := by decide +kernel
theorem dX7_find_67 : decode cX7_find 67 = .ok (.aload_n 0, 1) := by decide +kernel
theorem dX7_find_68 : decode cX7_find 68 = .ok (.getfield 27, 3) := by decide +kernel
theorem dX7_find_71 : decode cX7_find 71 = .ok (.iload_n 3, 1) := by decide +kernel
theorem dX7_find_72 : decode cX7_find 72 = .ok (.iastore, 1) := by decide +kernel
theorem dX7_find_73 : decode cX7_find 73 = .ok (.aload_n 0, 1) := by decide +kernel
theorem dX7_find_74 : decode cX7_find 74 = .ok (.dup, 1) := by decide +kernel
theorem dX7_find_75 : decode cX7_find 75 = .ok (.getfield 27, 3) := by decide +kernel
theorem dX7_find_78 : decode cX7_find 78 = .ok (.iconst 1, 1) := by decide +kernel
theorem dX7_find_79 : decode cX7_find 79 = .ok (.iadd, 1) := by decide +kernel
theorem dX7_find_80 : decode cX7_find 80 = .ok (.putfield 27, 3) := by decide +kernel
theorem dX7_find_83 : decode cX7_find 83 = .ok (.iinc 3 1, 3) := by decide +kernel
theorem dX7_find_86 : decode cX7_find 86 = .ok (.goto (-38), 3) := by decide +kernel
theorem dX7_find_89 : decode cX7_find 89 = .ok (.return_, 1) := by decide +kernel
theorem dX7_fits_0 : decode cX7_fits 0 = .ok (.iconst 0, 1) := by decide +kernel
theorem dX7_fits_1 : decode cX7_fits 1 = .ok (.istore_n 3, 1) := by decide +kernel
theorem dX7_fits_2 : decode cX7_fits 2 = .ok (.iload_n 3, 1) := by decide +kernel
theorem dX7_fits_3 : decode cX7_fits 3 = .ok (.aload_n 2, 1) := by decide +kernel
theorem dX7_fits_4 : decode cX7_fits 4 = .ok (.getfield 35, 3) := by decide +kernel
theorem dX7_fits_7 : decode cX7_fits 7 = .ok (.if_icmp .ge 35, 3) := by decide +kernel
theorem dX7_fits_10 : decode cX7_fits 10 = .ok (.aload_n 0, 1) := by decide +kernel
theorem dX7_fits_11 : decode cX7_fits 11 = .ok (.getfield 11, 3) := by decide +kernel
theorem dX7_fits_14 : decode cX7_fits 14 = .ok (.aload_n 2, 1) := by decide +kernel
theorem dX7_fits_15 : decode cX7_fits 15 = .ok (.getfield 38, 3) := by decide +kernel
theorem dX7_fits_18 : decode cX7_fits 18 = .ok (.iload_n 3, 1) := by decide +kernel
theorem dX7_fits_19 : decode cX7_fits 19 = .ok (.iaload, 1) := by decide +kernel
theorem dX7_fits_20 : decode cX7_fits 20 = .ok (.iload_n 1, 1) := by decide +kernel
theorem dX7_fits_21 : decode cX7_fits 21 = .ok (.iconst (-1), 1) := by decide +kernel
theorem dX7_fits_22 : decode cX7_fits 22 = .ok (.ixor, 1) := by decide +kernel
theorem dX7_fits_23 : decode cX7_fits 23 = .ok (.iand, 1) := by decide +kernel
theorem dX7_fits_24 : decode cX7_fits 24 = .ok (.iaload, 1) := by decide +kernel
theorem dX7_fits_25 : decode cX7_fits 25 = .ok (.aload_n 2, 1) := by decide +kernel
theorem dX7_fits_26 : decode cX7_fits 26 = .ok (.getfield 41, 3) := by decide +kernel
theorem dX7_fits_29 : decode cX7_fits 29 = .ok (.iload_n 3, 1) := by decide +kernel
theorem dX7_fits_30 : decode cX7_fits 30 = .ok (.iaload, 1) := by decide +kernel
theorem dX7_fits_31 : decode cX7_fits 31 = .ok (.if_icmp .eq 5, 3) := by decide +kernel
theorem dX7_fits_34 : decode cX7_fits 34 = .ok (.iconst 0, 1) := by decide +kernel
theorem dX7_fits_35 : decode cX7_fits 35 = .ok (.ireturn, 1) := by decide +kernel
theorem dX7_fits_36 : decode cX7_fits 36 = .ok (.iinc 3 1, 3) := by decide +kernel
theorem dX7_fits_39 : decode cX7_fits 39 = .ok (.goto (-37), 3) := by decide +kernel
theorem dX7_fits_42 : decode cX7_fits 42 = .ok (.iconst 1, 1) := by decide +kernel
theorem dX7_fits_43 : decode cX7_fits 43 = .ok (.ireturn, 1) := by decide +kernel
theorem dX7_inEach_0 : decode cX7_inEach 0 = .ok (.bipush 63, 2) := by decide +kernel
theorem dX7_inEach_2 : decode cX7_inEach 2 = .ok (.istore_n 1, 1) := by decide +kernel
theorem dX7_inEach_3 : decode cX7_inEach 3 = .ok (.iconst 0, 1) := by decide +kernel
theorem dX7_inEach_4 : decode cX7_inEach 4 = .ok (.istore_n 2, 1) := by decide +kernel
theorem dX7_inEach_5 : decode cX7_inEach 5 = .ok (.iload_n 2, 1) := by decide +kernel
theorem dX7_inEach_6 : decode cX7_inEach 6 = .ok (.aload_n 0, 1) := by decide +kernel
theorem dX7_inEach_7 : decode cX7_inEach 7 = .ok (.getfield 27, 3) := by decide +kernel
theorem dX7_inEach_10 : decode cX7_inEach 10 = .ok (.if_icmp .ge 18, 3) := by decide +kernel
theorem dX7_inEach_13 : decode cX7_inEach 13 = .ok (.iload_n 1, 1) := by decide +kernel
theorem dX7_inEach_14 : decode cX7_inEach 14 = .ok (.aload_n 0, 1) := by decide +kernel
theorem dX7_inEach_15 : decode cX7_inEach 15 = .ok (.getfield 18, 3) := by decide +kernel
theorem dX7_inEach_18 : decode cX7_inEach 18 = .ok (.iload_n 2, 1) := by decide +kernel
theorem dX7_inEach_19 : decode cX7_inEach 19 = .ok (.iaload, 1) := by decide +kernel
theorem dX7_inEach_20 : decode cX7_inEach 20 = .ok (.iand, 1) := by decide +kernel
theorem dX7_inEach_21 : decode cX7_inEach 21 = .ok (.istore_n 1, 1) := by decide +kernel
theorem dX7_inEach_22 : decode cX7_inEach 22 = .ok (.iinc 2 1, 3) := by decide +kernel
theorem dX7_inEach_25 : decode cX7_inEach 25 = .ok (.goto (-20), 3) := by decide +kernel
theorem dX7_inEach_28 : decode cX7_inEach 28 = .ok (.iload_n 1, 1) := by decide +kernel
theorem dX7_inEach_29 : decode cX7_inEach 29 = .ok (.ireturn, 1) := by decide +kernel
theorem dX7_inNone_0 : decode cX7_inNone 0 = .ok (.iconst 0, 1) := by decide +kernel
theorem dX7_inNone_1 : decode cX7_inNone 1 = .ok (.istore_n 1, 1) := by decide +kernel
theorem dX7_inNone_2 : decode cX7_inNone 2 = .ok (.iconst 0, 1) := by decide +kernel
theorem dX7_inNone_3 : decode cX7_inNone 3 = .ok (.istore_n 2, 1) := by decide +kernel
theorem dX7_inNone_4 : decode cX7_inNone 4 = .ok (.iload_n 2, 1) := by decide +kernel
theorem dX7_inNone_5 : decode cX7_inNone 5 = .ok (.aload_n 0, 1) := by decide +kernel
theorem dX7_inNone_6 : decode cX7_inNone 6 = .ok (.getfield 27, 3) := by decide +kernel
theorem dX7_inNone_9 : decode cX7_inNone 9 = .ok (.if_icmp .ge 18, 3) := by decide +kernel
theorem dX7_inNone_12 : decode cX7_inNone 12 = .ok (.iload_n 1, 1) := by decide +kernel
theorem dX7_inNone_13 : decode cX7_inNone 13 = .ok (.aload_n 0, 1) := by decide +kernel
theorem dX7_inNone_14 : decode cX7_inNone 14 = .ok (.getfield 18, 3) := by decide +kernel
theorem dX7_inNone_17 : decode cX7_inNone 17 = .ok (.iload_n 2, 1) := by decide +kernel
theorem dX7_inNone_18 : decode cX7_inNone 18 = .ok (.iaload, 1) := by decide +kernel
theorem dX7_inNone_19 : decode cX7_inNone 19 = .ok (.ior, 1) := by decide +kernel
theorem dX7_inNone_20 : decode cX7_inNone 20 = .ok (.istore_n 1, 1) := by decide +kernel
theorem dX7_inNone_21 : decode cX7_inNone 21 = .ok (.iinc 2 1, 3) := by decide +kernel
theorem dX7_inNone_24 : decode cX7_inNone 24 = .ok (.goto (-20), 3) := by decide +kernel
theorem dX7_inNone_27 : decode cX7_inNone 27 = .ok (.bipush 63, 2) := by decide +kernel
theorem dX7_inNone_29 : decode cX7_inNone 29 = .ok (.iload_n 1, 1) := by decide +kernel
theorem dX7_inNone_30 : decode cX7_inNone 30 = .ok (.iconst (-1), 1) := by decide +kernel
theorem dX7_inNone_31 : decode cX7_inNone 31 = .ok (.ixor, 1) := by decide +kernel
theorem dX7_inNone_32 : decode cX7_inNone 32 = .ok (.iand, 1) := by decide +kernel
theorem dX7_inNone_33 : decode cX7_inNone 33 = .ok (.ireturn, 1) := by decide +kernel
theorem dX7_bestToAsk_0 : decode cX7_bestToAsk 0 = .ok (.iconst 1, 1) := by decide +kernel
theorem dX7_bestToAsk_1 : decode cX7_bestToAsk 1 = .ok (.istore_n 1, 1) := by decide +kernel
theorem dX7_bestToAsk_2 : decode cX7_bestToAsk 2 = .ok (.bipush 65, 2) := by decide +kernel
theorem dX7_bestToAsk_4 : decode cX7_bestToAsk 4 = .ok (.istore_n 2, 1) := by decide +kernel
theorem dX7_bestToAsk_5 : decode cX7_bestToAsk 5 = .ok (.iconst 1, 1) := by decide +kernel
theorem dX7_bestToAsk_6 : decode cX7_bestToAsk 6 = .ok (.istore_n 3, 1) := by decide +kernel
theorem dX7_bestToAsk_7 : decode cX7_bestToAsk 7 = .ok (.iload_n 3, 1) := by decide +kernel
theorem dX7_bestToAsk_8 : decode cX7_bestToAsk 8 = .ok (.bipush 64, 2) := by decide +kernel
theorem dX7_bestToAsk_10 : decode cX7_bestToAsk 10 = .ok (.if_icmp .ge 27, 3) := by decide +kernel
theorem dX7_bestToAsk_13 : decode cX7_bestToAsk 13 = .ok (.aload_n 0, 1) := by decide +kernel
theorem dX7_bestToAsk_14 : decode cX7_bestToAsk 14 = .ok (.iload_n 3, 1) := by decide +kernel
theorem dX7_bestToAsk_15 : decode cX7_bestToAsk 15 = .ok (.invokevirtual 44, 3) := by decide +kernel
theorem dX7_bestToAsk_18 : decode cX7_bestToAsk 18 = .ok (.istore 4, 2) := by decide +kernel
theorem dX7_bestToAsk_20 : decode cX7_bestToAsk 20 = .ok (.iload 4, 2) := by decide +kernel
theorem dX7_bestToAsk_22 : decode cX7_bestToAsk 22 = .ok (.iload_n 2, 1) := by decide +kernel
theorem dX7_bestToAsk_23 : decode cX7_bestToAsk 23 = .ok (.if_icmp .ge 8, 3) := by decide +kernel
theorem dX7_bestToAsk_26 : decode cX7_bestToAsk 26 = .ok (.iload 4, 2) := by decide +kernel
theorem dX7_bestToAsk_28 : decode cX7_bestToAsk 28 = .ok (.istore_n 2, 1) := by decide +kernel
theorem dX7_bestToAsk_29 : decode cX7_bestToAsk 29 = .ok (.iload_n 3, 1) := by decide +kernel
theorem dX7_bestToAsk_30 : decode cX7_bestToAsk 30 = .ok (.istore_n 1, 1) := by decide +kernel
theorem dX7_bestToAsk_31 : decode cX7_bestToAsk 31 = .ok (.iinc 3 1, 3) := by decide +kernel
theorem dX7_bestToAsk_34 : decode cX7_bestToAsk 34 = .ok (.goto (-27), 3) := by decide +kernel
theorem dX7_bestToAsk_37 : decode cX7_bestToAsk 37 = .ok (.iload_n 1, 1) := by decide +kernel
theorem dX7_bestToAsk_38 : decode cX7_bestToAsk 38 = .ok (.ireturn, 1) := by decide +kernel
theorem dX7_mostAlike_0 : decode cX7_mostAlike 0 = .ok (.iconst 0, 1) := by decide +kernel
theorem dX7_mostAlike_1 : decode cX7_mostAlike 1 = .ok (.istore_n 2, 1) := by decide +kernel
theorem dX7_mostAlike_2 : decode cX7_mostAlike 2 = .ok (.iconst 0, 1) := by decide +kernel
theorem dX7_mostAlike_3 : decode cX7_mostAlike 3 = .ok (.istore_n 3, 1) := by decide +kernel
theorem dX7_mostAlike_4 : decode cX7_mostAlike 4 = .ok (.iload_n 3, 1) := by decide +kernel
theorem dX7_mostAlike_5 : decode cX7_mostAlike 5 = .ok (.aload_n 0, 1) := by decide +kernel
theorem dX7_mostAlike_6 : decode cX7_mostAlike 6 = .ok (.getfield 27, 3) := by decide +kernel
theorem dX7_mostAlike_9 : decode cX7_mostAlike 9 = .ok (.if_icmp .ge 49, 3) := by decide +kernel
theorem dX7_mostAlike_12 : decode cX7_mostAlike 12 = .ok (.aload_n 0, 1) := by decide +kernel
theorem dX7_mostAlike_13 : decode cX7_mostAlike 13 = .ok (.getfield 11, 3) := by decide +kernel
theorem dX7_mostAlike_16 : decode cX7_mostAlike 16 = .ok (.iload_n 1, 1) := by decide +kernel
theorem dX7_mostAlike_17 : decode cX7_mostAlike 17 = .ok (.aload_n 0, 1) := by decide +kernel
theorem dX7_mostAlike_18 : decode cX7_mostAlike 18 = .ok (.getfield 18, 3) := by decide +kernel
theorem dX7_mostAlike_21 : decode cX7_mostAlike 21 = .ok (.iload_n 3, 1) := by decide +kernel
theorem dX7_mostAlike_22 : decode cX7_mostAlike 22 = .ok (.iaload, 1) := by decide +kernel
theorem dX7_mostAlike_23 : decode cX7_mostAlike 23 = .ok (.iconst (-1), 1) := by decide +kernel
theorem dX7_mostAlike_24 : decode cX7_mostAlike 24 = .ok (.ixor, 1) := by decide +kernel
theorem dX7_mostAlike_25 : decode cX7_mostAlike 25 = .ok (.iand, 1) := by decide +kernel
theorem dX7_mostAlike_26 : decode cX7_mostAlike 26 = .ok (.iaload, 1) := by decide +kernel
theorem dX7_mostAlike_27 : decode cX7_mostAlike 27 = .ok (.istore 4, 2) := by decide +kernel
theorem dX7_mostAlike_29 : decode cX7_mostAlike 29 = .ok (.aload_n 0, 1) := by decide +kernel
theorem dX7_mostAlike_30 : decode cX7_mostAlike 30 = .ok (.getfield 15, 3) := by decide +kernel
theorem dX7_mostAlike_33 : decode cX7_mostAlike 33 = .ok (.iload 4, 2) := by decide +kernel
theorem dX7_mostAlike_35 : decode cX7_mostAlike 35 = .ok (.dup2, 1) := by decide +kernel
theorem dX7_mostAlike_36 : decode cX7_mostAlike 36 = .ok (.iaload, 1) := by decide +kernel
theorem dX7_mostAlike_37 : decode cX7_mostAlike 37 = .ok (.iconst 1, 1) := by decide +kernel
theorem dX7_mostAlike_38 : decode cX7_mostAlike 38 = .ok (.iadd, 1) := by decide +kernel
theorem dX7_mostAlike_39 : decode cX7_mostAlike 39 = .ok (.iastore, 1) := by decide +kernel
theorem dX7_mostAlike_40 : decode cX7_mostAlike 40 = .ok (.iload_n 2, 1) := by decide +kernel
theorem dX7_mostAlike_41 : decode cX7_mostAlike 41 = .ok (.aload_n 0, 1) := by decide +kernel
theorem dX7_mostAlike_42 : decode cX7_mostAlike 42 = .ok (.getfield 15, 3) := by decide +kernel
theorem dX7_mostAlike_45 : decode cX7_mostAlike 45 = .ok (.iload 4, 2) := by decide +kernel
theorem dX7_mostAlike_47 : decode cX7_mostAlike 47 = .ok (.iaload, 1) := by decide +kernel
theorem dX7_mostAlike_48 : decode cX7_mostAlike 48 = .ok (.invokestatic 47, 3) := by decide +kernel
theorem dX7_mostAlike_51 : decode cX7_mostAlike 51 = .ok (.istore_n 2, 1) := by decide +kernel
theorem dX7_mostAlike_52 : decode cX7_mostAlike 52 = .ok (.iinc 3 1, 3) := by decide +kernel
theorem dX7_mostAlike_55 : decode cX7_mostAlike 55 = .ok (.goto (-51), 3) := by decide +kernel
theorem dX7_mostAlike_58 : decode cX7_mostAlike 58 = .ok (.iconst 0, 1) := by decide +kernel
theorem dX7_mostAlike_59 : decode cX7_mostAlike 59 = .ok (.istore_n 3, 1) := by decide +kernel
theorem dX7_mostAlike_60 : decode cX7_mostAlike 60 = .ok (.iload_n 3, 1) := by decide +kernel
theorem dX7_mostAlike_61 : decode cX7_mostAlike 61 = .ok (.aload_n 0, 1) := by decide +kernel
theorem dX7_mostAlike_62 : decode cX7_mostAlike 62 = .ok (.getfield 27, 3) := by decide +kernel
theorem dX7_mostAlike_65 : decode cX7_mostAlike 65 = .ok (.if_icmp .ge 30, 3) := by decide +kernel
theorem dX7_mostAlike_68 : decode cX7_mostAlike 68 = .ok (.aload_n 0, 1) := by decide +kernel
theorem dX7_mostAlike_69 : decode cX7_mostAlike 69 = .ok (.getfield 15, 3) := by decide +kernel
theorem dX7_mostAlike_72 : decode cX7_mostAlike 72 = .ok (.aload_n 0, 1) := by decide +kernel
theorem dX7_mostAlike_73 : decode cX7_mostAlike 73 = .ok (.getfield 11, 3) := by decide +kernel
theorem dX7_mostAlike_76 : decode cX7_mostAlike 76 = .ok (.iload_n 1, 1) := by decide +kernel
theorem dX7_mostAlike_77 : decode cX7_mostAlike 77 = .ok (.aload_n 0, 1) := by decide +kernel
theorem dX7_mostAlike_78 : decode cX7_mostAlike 78 = .ok (.getfield 18, 3) := by decide +kernel
theorem dX7_mostAlike_81 : decode cX7_mostAlike 81 = .ok (.iload_n 3, 1) := by decide +kernel
theorem dX7_mostAlike_82 : decode cX7_mostAlike 82 = .ok (.iaload, 1) := by decide +kernel
theorem dX7_mostAlike_83 : decode cX7_mostAlike 83 = .ok (.iconst (-1), 1) := by decide +kernel
theorem dX7_mostAlike_84 : decode cX7_mostAlike 84 = .ok (.ixor, 1) := by decide +kernel
theorem dX7_mostAlike_85 : decode cX7_mostAlike 85 = .ok (.iand, 1) := by decide +kernel
theorem dX7_mostAlike_86 : decode cX7_mostAlike 86 = .ok (.iaload, 1) := by decide +kernel
theorem dX7_mostAlike_87 : decode cX7_mostAlike 87 = .ok (.iconst 0, 1) := by decide +kernel
theorem dX7_mostAlike_88 : decode cX7_mostAlike 88 = .ok (.iastore, 1) := by decide +kernel
theorem dX7_mostAlike_89 : decode cX7_mostAlike 89 = .ok (.iinc 3 1, 3) := by decide +kernel
theorem dX7_mostAlike_92 : decode cX7_mostAlike 92 = .ok (.goto (-32), 3) := by decide +kernel
theorem dX7_mostAlike_95 : decode cX7_mostAlike 95 = .ok (.iload_n 2, 1) := by decide +kernel
theorem dX7_mostAlike_96 : decode cX7_mostAlike 96 = .ok (.ireturn, 1) := by decide +kernel
end
section
theorem dX8_init_0 : decode cX8_init 0 = .ok (.aload_n 0, 1) := by decide +kernel
theorem dX8_init_1 : decode cX8_init 1 = .ok (.invokespecial 1, 3) := by decide +kernel
theorem dX8_init_4 : decode cX8_init 4 = .ok (.aload_n 0, 1) := by decide +kernel
theorem dX8_init_5 : decode cX8_init 5 = .ok (.new 7, 3) := by decide +kernel
theorem dX8_init_8 : decode cX8_init 8 = .ok (.dup, 1) := by decide +kernel
theorem dX8_init_9 : decode cX8_init 9 = .ok (.invokespecial 9, 3) := by decide +kernel
theorem dX8_init_12 : decode cX8_init 12 = .ok (.putfield 10, 3) := by decide +kernel
theorem dX8_init_15 : decode cX8_init 15 = .ok (.aload_n 0, 1) := by decide +kernel
theorem dX8_init_16 : decode cX8_init 16 = .ok (.new 16, 3) := by decide +kernel
theorem dX8_init_19 : decode cX8_init 19 = .ok (.dup, 1) := by decide +kernel
theorem dX8_init_20 : decode cX8_init 20 = .ok (.invokespecial 18, 3) := by decide +kernel
theorem dX8_init_23 : decode cX8_init 23 = .ok (.putfield 19, 3) := by decide +kernel
theorem dX8_init_26 : decode cX8_init 26 = .ok (.aload_n 0, 1) := by decide +kernel
theorem dX8_init_27 : decode cX8_init 27 = .ok (.iconst 2, 1) := by decide +kernel
theorem dX8_init_28 : decode cX8_init 28 = .ok (.anewarray 16, 3) := by decide +kernel
theorem dX8_init_31 : decode cX8_init 31 = .ok (.putfield 23, 3) := by decide +kernel
theorem dX8_init_34 : decode cX8_init 34 = .ok (.iconst 0, 1) := by decide +kernel
theorem dX8_init_35 : decode cX8_init 35 = .ok (.istore_n 1, 1) := by decide +kernel
theorem dX8_init_36 : decode cX8_init 36 = .ok (.iload_n 1, 1) := by decide +kernel
theorem dX8_init_37 : decode cX8_init 37 = .ok (.iconst 2, 1) := by decide +kernel
theorem dX8_init_38 : decode cX8_init 38 = .ok (.if_icmp .ge 22, 3) := by decide +kernel
theorem dX8_init_41 : decode cX8_init 41 = .ok (.aload_n 0, 1) := by decide +kernel
theorem dX8_init_42 : decode cX8_init 42 = .ok (.getfield 23, 3) := by decide +kernel
theorem dX8_init_45 : decode cX8_init 45 = .ok (.iload_n 1, 1) := by decide +kernel
theorem dX8_init_46 : decode cX8_init 46 = .ok (.new 16, 3) := by decide +kernel
theorem dX8_init_49 : decode cX8_init 49 = .ok (.dup, 1) := by decide +kernel
theorem dX8_init_50 : decode cX8_init 50 = .ok (.invokespecial 18, 3) := by decide +kernel
theorem dX8_init_53 : decode cX8_init 53 = .ok (.aastore, 1) := by decide +kernel
theorem dX8_init_54 : decode cX8_init 54 = .ok (.iinc 1 1, 3) := by decide +kernel
theorem dX8_init_57 : decode cX8_init 57 = .ok (.goto (-21), 3) := by decide +kernel
theorem dX8_init_60 : decode cX8_init 60 = .ok (.aload_n 0, 1) := by decide +kernel
theorem dX8_init_61 : decode cX8_init 61 = .ok (.iconst 2, 1) := by decide +kernel
theorem dX8_init_62 : decode cX8_init 62 = .ok (.newarray .boolean, 2) := by decide +kernel
theorem dX8_init_64 : decode cX8_init 64 = .ok (.putfield 27, 3) := by decide +kernel
theorem dX8_init_67 : decode cX8_init 67 = .ok (.aload_n 0, 1) := by decide +kernel
theorem dX8_init_68 : decode cX8_init 68 = .ok (.new 31, 3) := by decide +kernel
theorem dX8_init_71 : decode cX8_init 71 = .ok (.dup, 1) := by decide +kernel
theorem dX8_init_72 : decode cX8_init 72 = .ok (.invokespecial 33, 3) := by decide +kernel
theorem dX8_init_75 : decode cX8_init 75 = .ok (.putfield 34, 3) := by decide +kernel
theorem dX8_init_78 : decode cX8_init 78 = .ok (.aload_n 0, 1) := by decide +kernel
theorem dX8_init_79 : decode cX8_init 79 = .ok (.new 38, 3) := by decide +kernel
theorem dX8_init_82 : decode cX8_init 82 = .ok (.dup, 1) := by decide +kernel
theorem dX8_init_83 : decode cX8_init 83 = .ok (.invokespecial 40, 3) := by decide +kernel
theorem dX8_init_86 : decode cX8_init 86 = .ok (.putfield 41, 3) := by decide +kernel
theorem dX8_init_89 : decode cX8_init 89 = .ok (.aload_n 0, 1) := by decide +kernel
theorem dX8_init_90 : decode cX8_init 90 = .ok (.new 45, 3) := by decide +kernel
theorem dX8_init_93 : decode cX8_init 93 = .ok (.dup, 1) := by decide +kernel
theorem dX8_init_94 : decode cX8_init 94 = .ok (.invokespecial 47, 3) := by decide +kernel
theorem dX8_init_97 : decode cX8_init 97 = .ok (.putfield 48, 3) := by decide +kernel
theorem dX8_init_100 : decode cX8_init 100 = .ok (.aload_n 0, 1) := by decide +kernel
theorem dX8_init_101 : decode cX8_init 101 = .ok (.new 52, 3) := by decide +kernel
theorem dX8_init_104 : decode cX8_init 104 = .ok (.dup, 1) := by decide +kernel
theorem dX8_init_105 : decode cX8_init 105 = .ok (.invokespecial 54, 3) := by decide +kernel
theorem dX8_init_108 : decode cX8_init 108 = .ok (.putfield 55, 3) := by decide +kernel
theorem dX8_init_111 : decode cX8_init 111 = .ok (.return_, 1) := by decide +kernel
theorem dX8_monk_0 : decode cX8_monk 0 = .ok (.iload_n 1, 1) := by decide +kernel
theorem dX8_monk_1 : decode cX8_monk 1 = .ok (.iconst 0, 1) := by decide +kernel
theorem dX8_monk_2 : decode cX8_monk 2 = .ok (.iconst 5, 1) := by decide +kernel
theorem dX8_monk_3 : decode cX8_monk 3 = .ok (.invokestatic 59, 3) := by decide +kernel
theorem dX8_monk_6 : decode cX8_monk 6 = .ok (.ifCond .ne 5, 3) := by decide +kernel
theorem dX8_monk_9 : decode cX8_monk 9 = .ok (.iconst (-1), 1) := by decide +kernel
theorem dX8_monk_10 : decode cX8_monk 10 = .ok (.ireturn, 1) := by decide +kernel
theorem dX8_monk_11 : decode cX8_monk 11 = .ok (.iload_n 2, 1) := by decide +kernel
theorem dX8_monk_12 : decode cX8_monk 12 = .ok (.iconst 0, 1) := by decide +kernel
theorem dX8_monk_13 : decode cX8_monk 13 = .ok (.iconst 1, 1) := by decide +kernel
theorem dX8_monk_14 : decode cX8_monk 14 = .ok (.invokestatic 59, 3) := by decide +kernel
theorem dX8_monk_17 : decode cX8_monk 17 = .ok (.ifCond .eq 22, 3) := by decide +kernel
theorem dX8_monk_20 : decode cX8_monk 20 = .ok (.iload_n 3, 1) := by decide +kernel
theorem dX8_monk_21 : decode cX8_monk 21 = .ok (.iconst 0, 1) := by decide +kernel
theorem dX8_monk_22 : decode cX8_monk 22 = .ok (.iload_n 2, 1) := by decide +kernel
theorem dX8_monk_23 : decode cX8_monk 23 = .ok (.ifCond .ne 8, 3) := by decide +kernel
theorem dX8_monk_26 : decode cX8_monk 26 = .ok (.bipush 40, 2) := by decide +kernel
theorem dX8_monk_28 : decode cX8_monk 28 = .ok (.goto 5, 3) := by decide +kernel
theorem dX8_monk_31 : decode cX8_monk 31 = .ok (.bipush 9, 2) := by decide +kernel
theorem dX8_monk_33 : decode cX8_monk 33 = .ok (.invokestatic 59, 3) := by decide +kernel
theorem dX8_monk_36 : decode cX8_monk 36 = .ok (.ifCond .ne 6, 3) := by decide +kernel
theorem dX8_monk_39 : decode cX8_monk 39 = .ok (.bipush (-2), 2) := by decide +kernel
theorem dX8_monk_41 : decode cX8_monk 41 = .ok (.ireturn, 1) := by decide +kernel
theorem dX8_monk_42 : decode cX8_monk 42 = .ok (.iload_n 2, 1) := by decide +kernel
theorem dX8_monk_43 : decode cX8_monk 43 = .ok (.ifCond .ne 16, 3) := by decide +kernel
theorem dX8_monk_46 : decode cX8_monk 46 = .ok (.aload_n 0, 1) := by decide +kernel
theorem dX8_monk_47 : decode cX8_monk 47 = .ok (.getfield 19, 3) := by decide +kernel
theorem dX8_monk_50 : decode cX8_monk 50 = .ok (.getfield 63, 3) := by decide +kernel
theorem dX8_monk_53 : decode cX8_monk 53 = .ok (.getfield 66, 3) := by decide +kernel
theorem dX8_monk_56 : decode cX8_monk 56 = .ok (.goto 13, 3) := by decide +kernel
theorem dX8_monk_59 : decode cX8_monk 59 = .ok (.aload_n 0, 1) := by decide +kernel
theorem dX8_monk_60 : decode cX8_monk 60 = .ok (.getfield 19, 3) := by decide +kernel
theorem dX8_monk_63 : decode cX8_monk 63 = .ok (.getfield 63, 3) := by decide +kernel
theorem dX8_monk_66 : decode cX8_monk 66 = .ok (.getfield 70, 3) := by decide +kernel
theorem dX8_monk_69 : decode cX8_monk 69 = .ok (.astore 4, 2) := by decide +kernel
theorem dX8_monk_71 : decode cX8_monk 71 = .ok (.aload 4, 2) := by decide +kernel
theorem dX8_monk_73 : decode cX8_monk 73 = .ok (.iload_n 1, 1) := by decide +kernel
theorem dX8_monk_74 : decode cX8_monk 74 = .ok (.iaload, 1) := by decide +kernel
theorem dX8_monk_75 : decode cX8_monk 75 = .ok (.istore 5, 2) := by decide +kernel
theorem dX8_monk_77 : decode cX8_monk 77 = .ok (.aload 4, 2) := by decide +kernel
theorem dX8_monk_79 : decode cX8_monk 79 = .ok (.iload_n 1, 1) := by decide +kernel
theorem dX8_monk_80 : decode cX8_monk 80 = .ok (.iload_n 3, 1) := by decide +kernel
theorem dX8_monk_81 : decode cX8_monk 81 = .ok (.iastore, 1) := by decide +kernel
theorem dX8_monk_82 : decode cX8_monk 82 = .ok (.iload 5, 2) := by decide +kernel
theorem dX8_monk_84 : decode cX8_monk 84 = .ok (.ireturn, 1) := by decide +kernel
theorem dX8_wear_0 : decode cX8_wear 0 = .ok (.iload_n 1, 1) := by decide +kernel
theorem dX8_wear_1 : decode cX8_wear 1 = .ok (.iconst 0, 1) := by decide +kernel
theorem dX8_wear_2 : decode cX8_wear 2 = .ok (.bipush 9, 2) := by decide +kernel
theorem dX8_wear_4 : decode cX8_wear 4 = .ok (.invokestatic 59, 3) := by decide +kernel
theorem dX8_wear_7 : decode cX8_wear 7 = .ok (.ifCond .ne 6, 3) := by decide +kernel
theorem dX8_wear_10 : decode cX8_wear 10 = .ok (.bipush (-2), 2) := by decide +kernel
theorem dX8_wear_12 : decode cX8_wear 12 = .ok (.ireturn, 1) := by decide +kernel
theorem dX8_wear_13 : decode cX8_wear 13 = .ok (.aload_n 0, 1) := by decide +kernel
theorem dX8_wear_14 : decode cX8_wear 14 = .ok (.getfield 19, 3) := by decide +kernel
theorem dX8_wear_17 : decode cX8_wear 17 = .ok (.getfield 63, 3) := by decide +kernel
theorem dX8_wear_20 : decode cX8_wear 20 = .ok (.getfield 73, 3) := by decide +kernel
theorem dX8_wear_23 : decode cX8_wear 23 = .ok (.istore_n 2, 1) := by decide +kernel
theorem dX8_wear_24 : decode cX8_wear 24 = .ok (.aload_n 0, 1) := by decide +kernel
theorem dX8_wear_25 : decode cX8_wear 25 = .ok (.getfield 19, 3) := by decide +kernel
theorem dX8_wear_28 : decode cX8_wear 28 = .ok (.getfield 63, 3) := by decide +kernel
theorem dX8_wear_31 : decode cX8_wear 31 = .ok (.iload_n 1, 1) := by decide +kernel
theorem dX8_wear_32 : decode cX8_wear 32 = .ok (.putfield 73, 3) := by decide +kernel
theorem dX8_wear_35 : decode cX8_wear 35 = .ok (.iload_n 2, 1) := by decide +kernel
theorem dX8_wear_36 : decode cX8_wear 36 = .ok (.ireturn, 1) := by decide +kernel
theorem dX8_say_0 : decode cX8_say 0 = .ok (.iload_n 1, 1) := by decide +kernel
theorem dX8_say_1 : decode cX8_say 1 = .ok (.bipush 33, 2) := by decide +kernel
theorem dX8_say_3 : decode cX8_say 3 = .ok (.bipush 126, 2) := by decide +kernel
theorem dX8_say_5 : decode cX8_say 5 = .ok (.invokestatic 59, 3) := by decide +kernel
theorem dX8_say_8 : decode cX8_say 8 = .ok (.ifCond .ne 6, 3) := by decide +kernel
theorem dX8_say_11 : decode cX8_say 11 = .ok (.bipush (-2), 2) := by decide +kernel
theorem dX8_say_13 : decode cX8_say 13 = .ok (.ireturn, 1) := by decide +kernel
theorem dX8_say_14 : decode cX8_say 14 = .ok (.aload_n 0, 1) := by decide +kernel
theorem dX8_say_15 : decode cX8_say 15 = .ok (.getfield 10, 3) := by decide +kernel
theorem dX8_say_18 : decode cX8_say 18 = .ok (.iload_n 1, 1) := by decide +kernel
theorem dX8_say_19 : decode cX8_say 19 = .ok (.invokevirtual 77, 3) := by decide +kernel
theorem dX8_say_22 : decode cX8_say 22 = .ok (.ifCond .eq 13, 3) := by decide +kernel
theorem dX8_say_25 : decode cX8_say 25 = .ok (.aload_n 0, 1) := by decide +kernel
theorem dX8_say_26 : decode cX8_say 26 = .ok (.getfield 10, 3) := by decide +kernel
theorem dX8_say_29 : decode cX8_say 29 = .ok (.getfield 81, 3) := by decide +kernel
theorem dX8_say_32 : decode cX8_say 32 = .ok (.goto 5, 3) := by decide +kernel
theorem dX8_say_35 : decode cX8_say 35 = .ok (.bipush (-4), 2) := by decide +kernel
theorem dX8_say_37 : decode cX8_say 37 = .ok (.ireturn, 1) := by decide +kernel
theorem dX8_wipe_0 : decode cX8_wipe 0 = .ok (.aload_n 0, 1) := by decide +kernel
theorem dX8_wipe_1 : decode cX8_wipe 1 = .ok (.getfield 10, 3) := by decide +kernel
theorem dX8_wipe_4 : decode cX8_wipe 4 = .ok (.invokevirtual 84, 3) := by decide +kernel
theorem dX8_wipe_7 : decode cX8_wipe 7 = .ok (.ireturn, 1) := by decide +kernel
theorem dX8_fault_0 : decode cX8_fault 0 = .ok (.aload_n 0, 1) := by decide +kernel
theorem dX8_fault_1 : decode cX8_fault 1 = .ok (.getfield 10, 3) := by decide +kernel
theorem dX8_fault_4 : decode cX8_fault 4 = .ok (.invokevirtual 88, 3) := by decide +kernel
theorem dX8_fault_7 : decode cX8_fault 7 = .ok (.ireturn, 1) := by decide +kernel
theorem dX8_judge_0 : decode cX8_judge 0 = .ok (.iload_n 1, 1) := by decide +kernel
theorem dX8_judge_1 : decode cX8_judge 1 = .ok (.iconst 0, 1) := by decide +kernel
theorem dX8_judge_2 : decode cX8_judge 2 = .ok (.iconst 1, 1) := by decide +kernel
theorem dX8_judge_3 : decode cX8_judge 3 = .ok (.invokestatic 59, 3) := by decide +kernel
theorem dX8_judge_6 : decode cX8_judge 6 = .ok (.ifCond .ne 6, 3) := by decide +kernel
theorem dX8_judge_9 : decode cX8_judge 9 = .ok (.bipush (-2), 2) := by decide +kernel
theorem dX8_judge_11 : decode cX8_judge 11 = .ok (.ireturn, 1) := by decide +kernel
theorem dX8_judge_12 : decode cX8_judge 12 = .ok (.aload_n 0, 1) := by decide +kernel
theorem dX8_judge_13 : decode cX8_judge 13 = .ok (.getfield 10, 3) := by decide +kernel
theorem dX8_judge_16 : decode cX8_judge 16 = .ok (.invokevirtual 88, 3) := by decide +kernel
theorem dX8_judge_19 : decode cX8_judge 19 = .ok (.bipush (-6), 2) := by decide +kernel
theorem dX8_judge_21 : decode cX8_judge 21 = .ok (.if_icmp .eq 6, 3) := by decide +kernel
theorem dX8_judge_24 : decode cX8_judge 24 = .ok (.bipush (-5), 2) := by decide +kernel
theorem dX8_judge_26 : decode cX8_judge 26 = .ok (.ireturn, 1) := by decide +kernel
theorem dX8_judge_27 : decode cX8_judge 27 = .ok (.aload_n 0, 1) := by decide +kernel
theorem dX8_judge_28 : decode cX8_judge 28 = .ok (.invokevirtual 91, 3) := by decide +kernel
theorem dX8_judge_31 : decode cX8_judge 31 = .ok (.istore_n 2, 1) := by decide +kernel
theorem dX8_judge_32 : decode cX8_judge 32 = .ok (.iload_n 2, 1) := by decide +kernel
theorem dX8_judge_33 : decode cX8_judge 33 = .ok (.invokestatic 94, 3) := by decide +kernel
theorem dX8_judge_36 : decode cX8_judge 36 = .ok (.ifCond .ne 6, 3) := by decide +kernel
theorem dX8_judge_39 : decode cX8_judge 39 = .ok (.bipush (-6), 2) := by decide +kernel
theorem dX8_judge_41 : decode cX8_judge 41 = .ok (.ireturn, 1) := by decide +kernel
theorem dX8_judge_42 : decode cX8_judge 42 = .ok (.iload_n 1, 1) := by decide +kernel
theorem dX8_judge_43 : decode cX8_judge 43 = .ok (.ifCond .ne 10, 3) := by decide +kernel
theorem dX8_judge_46 : decode cX8_judge 46 = .ok (.iload_n 2, 1) := by decide +kernel
theorem dX8_judge_47 : decode cX8_judge 47 = .ok (.invokestatic 98, 3) := by decide +kernel
theorem dX8_judge_50 : decode cX8_judge 50 = .ok (.goto 7, 3) := by decide +kernel
theorem dX8_judge_53 : decode cX8_judge 53 = .ok (.iload_n 2, 1) := by decide +kernel
theorem dX8_judge_54 : decode cX8_judge 54 = .ok (.invokestatic 94, 3) := by decide +kernel
theorem dX8_judge_57 : decode cX8_judge 57 = .ok (.ireturn, 1) := by decide +kernel
theorem dX8_done_0 : decode cX8_done 0 = .ok (.aload_n 0, 1) := by decide +kernel
theorem dX8_done_1 : decode cX8_done 1 = .ok (.getfield 10, 3) := by decide +kernel
theorem dX8_done_4 : decode cX8_done 4 = .ok (.invokevirtual 88, 3) := by decide +kernel
theorem dX8_done_7 : decode cX8_done 7 = .ok (.bipush (-6), 2) := by decide +kernel
theorem dX8_done_9 : decode cX8_done 9 = .ok (.if_icmp .eq 6, 3) := by decide +kernel
theorem dX8_done_12 : decode cX8_done 12 = .ok (.bipush (-5), 2) := by decide +kernel
theorem dX8_done_14 : decode cX8_done 14 = .ok (.ireturn, 1) := by decide +kernel
theorem dX8_done_15 : decode cX8_done 15 = .ok (.aload_n 0, 1) := by decide +kernel
theorem dX8_done_16 : decode cX8_done 16 = .ok (.invokevirtual 91, 3) := by decide +kernel
theorem dX8_done_19 : decode cX8_done 19 = .ok (.istore_n 1, 1) := by decide +kernel
theorem dX8_done_20 : decode cX8_done 20 = .ok (.iload_n 1, 1) := by decide +kernel
theorem dX8_done_21 : decode cX8_done 21 = .ok (.invokestatic 94, 3) := by decide +kernel
theorem dX8_done_24 : decode cX8_done 24 = .ok (.ifCond .eq 6, 3) := by decide +kernel
theorem dX8_done_27 : decode cX8_done 27 = .ok (.bipush (-5), 2) := by decide +kernel
theorem dX8_done_29 : decode cX8_done 29 = .ok (.ireturn, 1) := by decide +kernel
theorem dX8_done_30 : decode cX8_done 30 = .ok (.aload_n 0, 1) := by decide +kernel
theorem dX8_done_31 : decode cX8_done 31 = .ok (.getfield 19, 3) := by decide +kernel
theorem dX8_done_34 : decode cX8_done 34 = .ok (.getfield 63, 3) := by decide +kernel
theorem dX8_done_37 : decode cX8_done 37 = .ok (.aload_n 0, 1) := by decide +kernel
theorem dX8_done_38 : decode cX8_done 38 = .ok (.getfield 34, 3) := by decide +kernel
theorem dX8_done_41 : decode cX8_done 41 = .ok (.invokevirtual 101, 3) := by decide +kernel
theorem dX8_done_44 : decode cX8_done 44 = .ok (.aload_n 0, 1) := by decide +kernel
theorem dX8_done_45 : decode cX8_done 45 = .ok (.getfield 10, 3) := by decide +kernel
theorem dX8_done_48 : decode cX8_done 48 = .ok (.invokevirtual 84, 3) := by decide +kernel
theorem dX8_done_51 : decode cX8_done 51 = .ok (.pop, 1) := by decide +kernel
theorem dX8_done_52 : decode cX8_done 52 = .ok (.iload_n 1, 1) := by decide +kernel
theorem dX8_done_53 : decode cX8_done 53 = .ok (.invokestatic 98, 3) := by decide +kernel
theorem dX8_done_56 : decode cX8_done 56 = .ok (.ireturn, 1) := by decide +kernel
theorem dX8_lock_0 : decode cX8_lock 0 = .ok (.iload_n 1, 1) := by decide +kernel
theorem dX8_lock_1 : decode cX8_lock 1 = .ok (.iconst 0, 1) := by decide +kernel
theorem dX8_lock_2 : decode cX8_lock 2 = .ok (.iconst 3, 1) := by decide +kernel
theorem dX8_lock_3 : decode cX8_lock 3 = .ok (.invokestatic 59, 3) := by decide +kernel
theorem dX8_lock_6 : decode cX8_lock 6 = .ok (.ifCond .ne 5, 3) := by decide +kernel
theorem dX8_lock_9 : decode cX8_lock 9 = .ok (.iconst (-1), 1) := by decide +kernel
theorem dX8_lock_10 : decode cX8_lock 10 = .ok (.ireturn, 1) := by decide +kernel
theorem dX8_lock_11 : decode cX8_lock 11 = .ok (.aload_n 0, 1) := by decide +kernel
theorem dX8_lock_12 : decode cX8_lock 12 = .ok (.getfield 19, 3) := by decide +kernel
theorem dX8_lock_15 : decode cX8_lock 15 = .ok (.getfield 63, 3) := by decide +kernel
theorem dX8_lock_18 : decode cX8_lock 18 = .ok (.getfield 105, 3) := by decide +kernel
theorem dX8_lock_21 : decode cX8_lock 21 = .ok (.iload_n 1, 1) := by decide +kernel
theorem dX8_lock_22 : decode cX8_lock 22 = .ok (.aaload, 1) := by decide +kernel
theorem dX8_lock_23 : decode cX8_lock 23 = .ok (.astore 4, 2) := by decide +kernel
theorem dX8_lock_25 : decode cX8_lock 25 = .ok (.iload_n 2, 1) := by decide +kernel
theorem dX8_lock_26 : decode cX8_lock 26 = .ok (.iconst 0, 1) := by decide +kernel
theorem dX8_lock_27 : decode cX8_lock 27 = .ok (.aload 4, 2) := by decide +kernel
theorem dX8_lock_29 : decode cX8_lock 29 = .ok (.getfield 109, 3) := by decide +kernel
theorem dX8_lock_32 : decode cX8_lock 32 = .ok (.iconst 1, 1) := by decide +kernel
theorem dX8_lock_33 : decode cX8_lock 33 = .ok (.isub, 1) := by decide +kernel
theorem dX8_lock_34 : decode cX8_lock 34 = .ok (.invokestatic 59, 3) := by decide +kernel
theorem dX8_lock_37 : decode cX8_lock 37 = .ok (.ifCond .ne 5, 3) := by decide +kernel
theorem dX8_lock_40 : decode cX8_lock 40 = .ok (.iconst (-1), 1) := by decide +kernel
theorem dX8_lock_41 : decode cX8_lock 41 = .ok (.ireturn, 1) := by decide +kernel
theorem dX8_lock_42 : decode cX8_lock 42 = .ok (.iload_n 3, 1) := by decide +kernel
theorem dX8_lock_43 : decode cX8_lock 43 = .ok (.tableswitch 60 0 2 #[25, 33, 41], 25) := by decide +kernel
theorem dX8_lock_68 : decode cX8_lock 68 = .ok (.aload 4, 2) := by decide +kernel
theorem dX8_lock_70 : decode cX8_lock 70 = .ok (.getfield 112, 3) := by decide +kernel
theorem dX8_lock_73 : decode cX8_lock 73 = .ok (.iload_n 2, 1) := by decide +kernel
theorem dX8_lock_74 : decode cX8_lock 74 = .ok (.iaload, 1) := by decide +kernel
theorem dX8_lock_75 : decode cX8_lock 75 = .ok (.ireturn, 1) := by decide +kernel
theorem dX8_lock_76 : decode cX8_lock 76 = .ok (.aload 4, 2) := by decide +kernel
theorem dX8_lock_78 : decode cX8_lock 78 = .ok (.getfield 115, 3) := by decide +kernel
theorem dX8_lock_81 : decode cX8_lock 81 = .ok (.iload_n 2, 1) := by decide +kernel
theorem dX8_lock_82 : decode cX8_lock 82 = .ok (.iaload, 1) := by decide +kernel
theorem dX8_lock_83 : decode cX8_lock 83 = .ok (.ireturn, 1) := by decide +kernel
theorem dX8_lock_84 : decode cX8_lock 84 = .ok (.aload_n 0, 1) := by decide +kernel
theorem dX8_lock_85 : decode cX8_lock 85 = .ok (.getfield 19, 3) := by decide +kernel
theorem dX8_lock_88 : decode cX8_lock 88 = .ok (.getfield 63, 3) := by decide +kernel
theorem dX8_lock_91 : decode cX8_lock 91 = .ok (.getfield 118, 3) := by decide +kernel
theorem dX8_lock_94 : decode cX8_lock 94 = .ok (.aload 4, 2) := by decide +kernel
theorem dX8_lock_96 : decode cX8_lock 96 = .ok (.getfield 121, 3) := by decide +kernel
theorem dX8_lock_99 : decode cX8_lock 99 = .ok (.iload_n 2, 1) := by decide +kernel
theorem dX8_lock_100 : decode cX8_lock 100 = .ok (.iaload, 1) := by decide +kernel
theorem dX8_lock_101 : decode cX8_lock 101 = .ok (.isub, 1) := by decide +kernel
theorem dX8_lock_102 : decode cX8_lock 102 = .ok (.ireturn, 1) := by decide +kernel
theorem dX8_lock_103 : decode cX8_lock 103 = .ok (.bipush (-2), 2) := by decide +kernel
theorem dX8_lock_105 : decode cX8_lock 105 = .ok (.ireturn, 1) := by decide +kernel
theorem dX8_power_0 : decode cX8_power 0 = .ok (.iload_n 1, 1) := by decide +kernel
theorem dX8_power_1 : decode cX8_power 1 = .ok (.iconst 0, 1) := by decide +kernel
theorem dX8_power_2 : decode cX8_power 2 = .ok (.iconst 3, 1) := by decide +kernel
theorem dX8_power_3 : decode cX8_power 3 = .ok (.invokestatic 59, 3) := by decide +kernel
theorem dX8_power_6 : decode cX8_power 6 = .ok (.ifCond .ne 5, 3) := by decide +kernel
theorem dX8_power_9 : decode cX8_power 9 = .ok (.iconst (-1), 1) := by decide +kernel
theorem dX8_power_10 : decode cX8_power 10 = .ok (.ireturn, 1) := by decide +kernel
theorem dX8_power_11 : decode cX8_power 11 = .ok (.aload_n 0, 1) := by decide +kernel
theorem dX8_power_12 : decode cX8_power 12 = .ok (.getfield 19, 3) := by decide +kernel
theorem dX8_power_15 : decode cX8_power 15 = .ok (.getfield 63, 3) := by decide +kernel
theorem dX8_power_18 : decode cX8_power 18 = .ok (.getfield 105, 3) := by decide +kernel
theorem dX8_power_21 : decode cX8_power 21 = .ok (.iload_n 1, 1) := by decide +kernel
theorem dX8_power_22 : decode cX8_power 22 = .ok (.aaload, 1) := by decide +kernel
theorem dX8_power_23 : decode cX8_power 23 = .ok (.iconst 0, 1) := by decide +kernel
theorem dX8_power_24 : decode cX8_power 24 = .ok (.aload_n 0, 1) := by decide +kernel
theorem dX8_power_25 : decode cX8_power 25 = .ok (.getfield 19, 3) := by decide +kernel
theorem dX8_power_28 : decode cX8_power 28 = .ok (.getfield 63, 3) := by decide +kernel
theorem dX8_power_31 : decode cX8_power 31 = .ok (.getfield 70, 3) := by decide +kernel
theorem dX8_power_34 : decode cX8_power 34 = .ok (.invokevirtual 123, 3) := by decide +kernel
theorem dX8_power_37 : decode cX8_power 37 = .ok (.ireturn, 1) := by decide +kernel
theorem dX8_bears_0 : decode cX8_bears 0 = .ok (.aload_n 0, 1) := by decide +kernel
theorem dX8_bears_1 : decode cX8_bears 1 = .ok (.getfield 19, 3) := by decide +kernel
theorem dX8_bears_4 : decode cX8_bears 4 = .ok (.getfield 63, 3) := by decide +kernel
theorem dX8_bears_7 : decode cX8_bears 7 = .ok (.iconst 0, 1) := by decide +kernel
theorem dX8_bears_8 : decode cX8_bears 8 = .ok (.invokevirtual 127, 3) := by decide +kernel
theorem dX8_bears_11 : decode cX8_bears 11 = .ok (.ireturn, 1) := by decide +kernel
theorem dX8_broken_0 : decode cX8_broken 0 = .ok (.iload_n 1, 1) := by decide +kernel
theorem dX8_broken_1 : decode cX8_broken 1 = .ok (.iconst 0, 1) := by decide +kernel
theorem dX8_broken_2 : decode cX8_broken 2 = .ok (.ldc 130, 2) := by decide +kernel
theorem dX8_broken_4 : decode cX8_broken 4 = .ok (.invokestatic 59, 3) := by decide +kernel
theorem dX8_broken_7 : decode cX8_broken 7 = .ok (.ifCond .ne 6, 3) := by decide +kernel
theorem dX8_broken_10 : decode cX8_broken 10 = .ok (.bipush (-2), 2) := by decide +kernel
theorem dX8_broken_12 : decode cX8_broken 12 = .ok (.ireturn, 1) := by decide +kernel
theorem dX8_broken_13 : decode cX8_broken 13 = .ok (.aload_n 0, 1) := by decide +kernel
theorem dX8_broken_14 : decode cX8_broken 14 = .ok (.getfield 19, 3) := by decide +kernel
theorem dX8_broken_17 : decode cX8_broken 17 = .ok (.getfield 63, 3) := by decide +kernel
theorem dX8_broken_20 : decode cX8_broken 20 = .ok (.iload_n 1, 1) := by decide +kernel
theorem dX8_broken_21 : decode cX8_broken 21 = .ok (.invokevirtual 131, 3) := by decide +kernel
theorem dX8_broken_24 : decode cX8_broken 24 = .ok (.ireturn, 1) := by decide +kernel
theorem dX8_share_0 : decode cX8_share 0 = .ok (.iload_n 1, 1) := by decide +kernel
theorem dX8_share_1 : decode cX8_share 1 = .ok (.iconst 0, 1) := by decide +kernel
theorem dX8_share_2 : decode cX8_share 2 = .ok (.iconst 5, 1) := by decide +kernel
theorem dX8_share_3 : decode cX8_share 3 = .ok (.invokestatic 59, 3) := by decide +kernel
theorem dX8_share_6 : decode cX8_share 6 = .ok (.ifCond .ne 7, 3) := by decide +kernel
theorem dX8_share_9 : decode cX8_share 9 = .ok (.ldc2_w 134, 3) := by decide +kernel
theorem dX8_share_12 : decode cX8_share 12 = .ok (.lreturn, 1) := by decide +kernel
theorem dX8_share_13 : decode cX8_share 13 = .ok (.iload_n 2, 1) := by decide +kernel
theorem dX8_share_14 : decode cX8_share 14 = .ok (.iconst 0, 1) := by decide +kernel
theorem dX8_share_15 : decode cX8_share 15 = .ok (.iconst 1, 1) := by decide +kernel
theorem dX8_share_16 : decode cX8_share 16 = .ok (.invokestatic 59, 3) := by decide +kernel
theorem dX8_share_19 : decode cX8_share 19 = .ok (.ifCond .ne 7, 3) := by decide +kernel
theorem dX8_share_22 : decode cX8_share 22 = .ok (.ldc2_w 136, 3) := by decide +kernel
theorem dX8_share_25 : decode cX8_share 25 = .ok (.lreturn, 1) := by decide +kernel
theorem dX8_share_26 : decode cX8_share 26 = .ok (.iconst 0, 1) := by decide +kernel
theorem dX8_share_27 : decode cX8_share 27 = .ok (.istore_n 3, 1) := by decide +kernel
theorem dX8_share_28 : decode cX8_share 28 = .ok (.iconst 0, 1) := by decide +kernel
theorem dX8_share_29 : decode cX8_share 29 = .ok (.istore 4, 2) := by decide +kernel
theorem dX8_share_31 : decode cX8_share 31 = .ok (.iload 4, 2) := by decide +kernel
theorem dX8_share_33 : decode cX8_share 33 = .ok (.bipush 6, 2) := by decide +kernel
theorem dX8_share_35 : decode cX8_share 35 = .ok (.if_icmp .ge 24, 3) := by decide +kernel
theorem dX8_share_38 : decode cX8_share 38 = .ok (.iload_n 3, 1) := by decide +kernel
theorem dX8_share_39 : decode cX8_share 39 = .ok (.aload_n 0, 1) := by decide +kernel
theorem dX8_share_40 : decode cX8_share 40 = .ok (.getfield 19, 3) := by decide +kernel
theorem dX8_share_43 : decode cX8_share 43 = .ok (.getfield 63, 3) := by decide +kernel
theorem dX8_share_46 : decode cX8_share 46 = .ok (.iload 4, 2) := by decide +kernel
theorem dX8_share_48 : decode cX8_share 48 = .ok (.invokevirtual 138, 3) := by decide +kernel
theorem dX8_share_51 : decode cX8_share 51 = .ok (.iadd, 1) := by decide +kernel
theorem dX8_share_52 : decode cX8_share 52 = .ok (.istore_n 3, 1) := by decide +kernel
theorem dX8_share_53 : decode cX8_share 53 = .ok (.iinc 4 1, 3) := by decide +kernel
theorem dX8_share_56 : decode cX8_share 56 = .ok (.goto (-25), 3) := by decide +kernel
theorem dX8_share_59 : decode cX8_share 59 = .ok (.iload_n 3, 1) := by decide +kernel
theorem dX8_share_60 : decode cX8_share 60 = .ok (.ifCond .ne 7, 3) := by decide +kernel
theorem dX8_share_63 : decode cX8_share 63 = .ok (.ldc2_w 141, 3) := by decide +kernel
theorem dX8_share_66 : decode cX8_share 66 = .ok (.lreturn, 1) := by decide +kernel
theorem dX8_share_67 : decode cX8_share 67 = .ok (.aload_n 0, 1) := by decide +kernel
theorem dX8_share_68 : decode cX8_share 68 = .ok (.getfield 19, 3) := by decide +kernel
theorem dX8_share_71 : decode cX8_share 71 = .ok (.getfield 63, 3) := by decide +kernel
theorem dX8_share_74 : decode cX8_share 74 = .ok (.iload_n 1, 1) := by decide +kernel
theorem dX8_share_75 : decode cX8_share 75 = .ok (.invokevirtual 138, 3) := by decide +kernel
theorem dX8_share_78 : decode cX8_share 78 = .ok (.istore 4, 2) := by decide +kernel
theorem dX8_share_80 : decode cX8_share 80 = .ok (.iload_n 3, 1) := by decide +kernel
theorem dX8_share_81 : decode cX8_share 81 = .ok (.iload 4, 2) := by decide +kernel
theorem dX8_share_83 : decode cX8_share 83 = .ok (.invokestatic 143, 3) := by decide +kernel
theorem dX8_share_86 : decode cX8_share 86 = .ok (.istore 5, 2) := by decide +kernel
theorem dX8_share_88 : decode cX8_share 88 = .ok (.iload_n 2, 1) := by decide +kernel
theorem dX8_share_89 : decode cX8_share 89 = .ok (.ifCond .ne 8, 3) := by decide +kernel
theorem dX8_share_92 : decode cX8_share 92 = .ok (.iload 4, 2) := by decide +kernel
theorem dX8_share_94 : decode cX8_share 94 = .ok (.goto 4, 3) := by decide +kernel
theorem dX8_share_97 : decode cX8_share 97 = .ok (.iload_n 3, 1) := by decide +kernel
theorem dX8_share_98 : decode cX8_share 98 = .ok (.iload 5, 2) := by decide +kernel
theorem dX8_share_100 : decode cX8_share 100 = .ok (.idiv, 1) := by decide +kernel
theorem dX8_share_101 : decode cX8_share 101 = .ok (.i2l, 1) := by decide +kernel
theorem dX8_share_102 : decode cX8_share 102 = .ok (.lreturn, 1) := by decide +kernel
theorem dX8_led_0 : decode cX8_led 0 = .ok (.iload_n 1, 1) := by decide +kernel
theorem dX8_led_1 : decode cX8_led 1 = .ok (.iconst 0, 1) := by decide +kernel
theorem dX8_led_2 : decode cX8_led 2 = .ok (.iconst 5, 1) := by decide +kernel
theorem dX8_led_3 : decode cX8_led 3 = .ok (.invokestatic 59, 3) := by decide +kernel
theorem dX8_led_6 : decode cX8_led 6 = .ok (.ifCond .ne 5, 3) := by decide +kernel
theorem dX8_led_9 : decode cX8_led 9 = .ok (.iconst (-1), 1) := by decide +kernel
theorem dX8_led_10 : decode cX8_led 10 = .ok (.ireturn, 1) := by decide +kernel
theorem dX8_led_11 : decode cX8_led 11 = .ok (.iload_n 2, 1) := by decide +kernel
theorem dX8_led_12 : decode cX8_led 12 = .ok (.iconst 0, 1) := by decide +kernel
theorem dX8_led_13 : decode cX8_led 13 = .ok (.iconst 1, 1) := by decide +kernel
theorem dX8_led_14 : decode cX8_led 14 = .ok (.invokestatic 59, 3) := by decide +kernel
theorem dX8_led_17 : decode cX8_led 17 = .ok (.ifCond .ne 6, 3) := by decide +kernel
theorem dX8_led_20 : decode cX8_led 20 = .ok (.bipush (-2), 2) := by decide +kernel
theorem dX8_led_22 : decode cX8_led 22 = .ok (.ireturn, 1) := by decide +kernel
theorem dX8_led_23 : decode cX8_led 23 = .ok (.iload_n 2, 1) := by decide +kernel
theorem dX8_led_24 : decode cX8_led 24 = .ok (.ifCond .ne 17, 3) := by decide +kernel
theorem dX8_led_27 : decode cX8_led 27 = .ok (.aload_n 0, 1) := by decide +kernel
theorem dX8_led_28 : decode cX8_led 28 = .ok (.getfield 19, 3) := by decide +kernel
theorem dX8_led_31 : decode cX8_led 31 = .ok (.getfield 63, 3) := by decide +kernel
theorem dX8_led_34 : decode cX8_led 34 = .ok (.iload_n 1, 1) := by decide +kernel
theorem dX8_led_35 : decode cX8_led 35 = .ok (.invokevirtual 147, 3) := by decide +kernel
theorem dX8_led_38 : decode cX8_led 38 = .ok (.goto 15, 3) := by decide +kernel
theorem dX8_led_41 : decode cX8_led 41 = .ok (.aload_n 0, 1) := by decide +kernel
theorem dX8_led_42 : decode cX8_led 42 = .ok (.getfield 19, 3) := by decide +kernel
theorem dX8_led_45 : decode cX8_led 45 = .ok (.getfield 63, 3) := by decide +kernel
theorem dX8_led_48 : decode cX8_led 48 = .ok (.getfield 150, 3) := by decide +kernel
theorem dX8_led_51 : decode cX8_led 51 = .ok (.iload_n 1, 1) := by decide +kernel
theorem dX8_led_52 : decode cX8_led 52 = .ok (.iaload, 1) := by decide +kernel
theorem dX8_led_53 : decode cX8_led 53 = .ok (.ireturn, 1) := by decide +kernel
theorem dX8_load_0 : decode cX8_load 0 = .ok (.iload_n 1, 1) := by decide +kernel
theorem dX8_load_1 : decode cX8_load 1 = .ok (.iconst 0, 1) := by decide +kernel
theorem dX8_load_2 : decode cX8_load 2 = .ok (.sipush 9999, 3) := by decide +kernel
theorem dX8_load_5 : decode cX8_load 5 = .ok (.invokestatic 59, 3) := by decide +kernel
theorem dX8_load_8 : decode cX8_load 8 = .ok (.ifCond .eq 13, 3) := by decide +kernel
theorem dX8_load_11 : decode cX8_load 11 = .ok (.iload_n 2, 1) := by decide +kernel
theorem dX8_load_12 : decode cX8_load 12 = .ok (.iconst 0, 1) := by decide +kernel
theorem dX8_load_13 : decode cX8_load 13 = .ok (.bipush 99, 2) := by decide +kernel
theorem dX8_load_15 : decode cX8_load 15 = .ok (.invokestatic 59, 3) := by decide +kernel
theorem dX8_load_18 : decode cX8_load 18 = .ok (.ifCond .ne 6, 3) := by decide +kernel
theorem dX8_load_21 : decode cX8_load 21 = .ok (.bipush (-2), 2) := by decide +kernel
theorem dX8_load_23 : decode cX8_load 23 = .ok (.ireturn, 1) := by decide +kernel
theorem dX8_load_24 : decode cX8_load 24 = .ok (.aload_n 0, 1) := by decide +kernel
theorem dX8_load_25 : decode cX8_load 25 = .ok (.getfield 19, 3) := by decide +kernel
theorem dX8_load_28 : decode cX8_load 28 = .ok (.getfield 153, 3) := by decide +kernel
theorem dX8_load_31 : decode cX8_load 31 = .ok (.iload_n 1, 1) := by decide +kernel
theorem dX8_load_32 : decode cX8_load 32 = .ok (.iload_n 2, 1) := by decide +kernel
theorem dX8_load_33 : decode cX8_load 33 = .ok (.invokevirtual 157, 3) := by decide +kernel
theorem dX8_load_36 : decode cX8_load 36 = .ok (.ifCond .eq 16, 3) := by decide +kernel
theorem dX8_load_39 : decode cX8_load 39 = .ok (.aload_n 0, 1) := by decide +kernel
theorem dX8_load_40 : decode cX8_load 40 = .ok (.getfield 19, 3) := by decide +kernel
theorem dX8_load_43 : decode cX8_load 43 = .ok (.getfield 153, 3) := by decide +kernel
theorem dX8_load_46 : decode cX8_load 46 = .ok (.getfield 162, 3) := by decide +kernel
theorem dX8_load_49 : decode cX8_load 49 = .ok (.goto 5, 3) := by decide +kernel
theorem dX8_load_52 : decode cX8_load 52 = .ok (.bipush (-4), 2) := by decide +kernel
theorem dX8_load_54 : decode cX8_load 54 = .ok (.ireturn, 1) := by decide +kernel
theorem dX8_drop_0 : decode cX8_drop 0 = .ok (.aload_n 0, 1) := by decide +kernel
theorem dX8_drop_1 : decode cX8_drop 1 = .ok (.getfield 19, 3) := by decide +kernel
theorem dX8_drop_4 : decode cX8_drop 4 = .ok (.getfield 153, 3) := by decide +kernel
theorem dX8_drop_7 : decode cX8_drop 7 = .ok (.invokevirtual 163, 3) := by decide +kernel
theorem dX8_drop_10 : decode cX8_drop 10 = .ok (.ireturn, 1) := by decide +kernel
theorem dX8_best_0 : decode cX8_best 0 = .ok (.iload_n 1, 1) := by decide +kernel
theorem dX8_best_1 : decode cX8_best 1 = .ok (.iconst (-1), 1) := by decide +kernel
theorem dX8_best_2 : decode cX8_best 2 = .ok (.aload_n 0, 1) := by decide +kernel
theorem dX8_best_3 : decode cX8_best 3 = .ok (.getfield 19, 3) := by decide +kernel
theorem dX8_best_6 : decode cX8_best 6 = .ok (.getfield 153, 3) := by decide +kernel
theorem dX8_best_9 : decode cX8_best 9 = .ok (.getfield 162, 3) := by decide +kernel
theorem dX8_best_12 : decode cX8_best 12 = .ok (.iconst 1, 1) := by decide +kernel
theorem dX8_best_13 : decode cX8_best 13 = .ok (.isub, 1) := by decide +kernel
theorem dX8_best_14 : decode cX8_best 14 = .ok (.invokestatic 59, 3) := by decide +kernel
theorem dX8_best_17 : decode cX8_best 17 = .ok (.ifCond .ne 6, 3) := by decide +kernel
theorem dX8_best_20 : decode cX8_best 20 = .ok (.bipush (-6), 2) := by decide +kernel
theorem dX8_best_22 : decode cX8_best 22 = .ok (.ireturn, 1) := by decide +kernel
theorem dX8_best_23 : decode cX8_best 23 = .ok (.aload_n 0, 1) := by decide +kernel
theorem dX8_best_24 : decode cX8_best 24 = .ok (.getfield 41, 3) := by decide +kernel
theorem dX8_best_27 : decode cX8_best 27 = .ok (.aload_n 0, 1) := by decide +kernel
theorem dX8_best_28 : decode cX8_best 28 = .ok (.getfield 19, 3) := by decide +kernel
theorem dX8_best_31 : decode cX8_best 31 = .ok (.getfield 63, 3) := by decide +kernel
theorem dX8_best_34 : decode cX8_best 34 = .ok (.aload_n 0, 1) := by decide +kernel
theorem dX8_best_35 : decode cX8_best 35 = .ok (.getfield 19, 3) := by decide +kernel
theorem dX8_best_38 : decode cX8_best 38 = .ok (.getfield 153, 3) := by decide +kernel
theorem dX8_best_41 : decode cX8_best 41 = .ok (.invokevirtual 164, 3) := by decide +kernel
theorem dX8_best_44 : decode cX8_best 44 = .ok (.iload_n 1, 1) := by decide +kernel
theorem dX8_best_45 : decode cX8_best 45 = .ok (.ifCond .ge 13, 3) := by decide +kernel
theorem dX8_best_48 : decode cX8_best 48 = .ok (.aload_n 0, 1) := by decide +kernel
theorem dX8_best_49 : decode cX8_best 49 = .ok (.getfield 41, 3) := by decide +kernel
theorem dX8_best_52 : decode cX8_best 52 = .ok (.invokevirtual 168, 3) := by decide +kernel
theorem dX8_best_55 : decode cX8_best 55 = .ok (.goto 11, 3) := by decide +kernel
theorem dX8_best_58 : decode cX8_best 58 = .ok (.aload_n 0, 1) := by decide +kernel
theorem dX8_best_59 : decode cX8_best 59 = .ok (.getfield 41, 3) := by decide +kernel
theorem dX8_best_62 : decode cX8_best 62 = .ok (.iload_n 1, 1) := by decide +kernel
theorem dX8_best_63 : decode cX8_best 63 = .ok (.invokevirtual 171, 3) := by decide +kernel
theorem dX8_best_66 : decode cX8_best 66 = .ok (.ireturn, 1) := by decide +kernel
theorem dX8_renewed_0 : decode cX8_renewed 0 = .ok (.iload_n 1, 1) := by decide +kernel
theorem dX8_renewed_1 : decode cX8_renewed 1 = .ok (.iconst 0, 1) := by decide +kernel
theorem dX8_renewed_2 : decode cX8_renewed 2 = .ok (.iconst 4, 1) := by decide +kernel
theorem dX8_renewed_3 : decode cX8_renewed 3 = .ok (.invokestatic 59, 3) := by decide +kernel
theorem dX8_renewed_6 : decode cX8_renewed 6 = .ok (.ifCond .eq 25, 3) := by decide +kernel
theorem dX8_renewed_9 : decode cX8_renewed 9 = .ok (.iload_n 2, 1) := by decide +kernel
theorem dX8_renewed_10 : decode cX8_renewed 10 = .ok (.iconst 0, 1) := by decide +kernel
theorem dX8_renewed_11 : decode cX8_renewed 11 = .ok (.sipush 9999, 3) := by decide +kernel
theorem dX8_renewed_14 : decode cX8_renewed 14 = .ok (.invokestatic 59, 3) := by decide +kernel
theorem dX8_renewed_17 : decode cX8_renewed 17 = .ok (.ifCond .eq 14, 3) := by decide +kernel
theorem dX8_renewed_20 : decode cX8_renewed 20 = .ok (.iload_n 3, 1) := by decide +kernel
theorem dX8_renewed_21 : decode cX8_renewed 21 = .ok (.iconst (-1), 1) := by decide +kernel
theorem dX8_renewed_22 : decode cX8_renewed 22 = .ok (.iload_n 1, 1) := by decide +kernel
theorem dX8_renewed_23 : decode cX8_renewed 23 = .ok (.iconst 1, 1) := by decide +kernel
theorem dX8_renewed_24 : decode cX8_renewed 24 = .ok (.isub, 1) := by decide +kernel
theorem dX8_renewed_25 : decode cX8_renewed 25 = .ok (.invokestatic 59, 3) := by decide +kernel
theorem dX8_renewed_28 : decode cX8_renewed 28 = .ok (.ifCond .ne 6, 3) := by decide +kernel
theorem dX8_renewed_31 : decode cX8_renewed 31 = .ok (.bipush (-2), 2) := by decide +kernel
theorem dX8_renewed_33 : decode cX8_renewed 33 = .ok (.ireturn, 1) := by decide +kernel
theorem dX8_renewed_34 : decode cX8_renewed 34 = .ok (.aload_n 0, 1) := by decide +kernel
theorem dX8_renewed_35 : decode cX8_renewed 35 = .ok (.getfield 48, 3) := by decide +kernel
theorem dX8_renewed_38 : decode cX8_renewed 38 = .ok (.aload_n 0, 1) := by decide +kernel
theorem dX8_renewed_39 : decode cX8_renewed 39 = .ok (.getfield 19, 3) := by decide +kernel
theorem dX8_renewed_42 : decode cX8_renewed 42 = .ok (.getfield 63, 3) := by decide +kernel
theorem dX8_renewed_45 : decode cX8_renewed 45 = .ok (.iload_n 1, 1) := by decide +kernel
theorem dX8_renewed_46 : decode cX8_renewed 46 = .ok (.iload_n 2, 1) := by decide +kernel
theorem dX8_renewed_47 : decode cX8_renewed 47 = .ok (.invokevirtual 174, 3) := by decide +kernel
theorem dX8_renewed_50 : decode cX8_renewed 50 = .ok (.istore 4, 2) := by decide +kernel
theorem dX8_renewed_52 : decode cX8_renewed 52 = .ok (.iload_n 3, 1) := by decide +kernel
theorem dX8_renewed_53 : decode cX8_renewed 53 = .ok (.ifCond .lt 10, 3) := by decide +kernel
theorem dX8_renewed_56 : decode cX8_renewed 56 = .ok (.iload 4, 2) := by decide +kernel
theorem dX8_renewed_58 : decode cX8_renewed 58 = .ok (.bipush (-6), 2) := by decide +kernel
theorem dX8_renewed_60 : decode cX8_renewed 60 = .ok (.if_icmp .ne 8, 3) := by decide +kernel
theorem dX8_renewed_63 : decode cX8_renewed 63 = .ok (.iload 4, 2) := by decide +kernel
theorem dX8_renewed_65 : decode cX8_renewed 65 = .ok (.goto 11, 3) := by decide +kernel
theorem dX8_renewed_68 : decode cX8_renewed 68 = .ok (.aload_n 0, 1) := by decide +kernel
theorem dX8_renewed_69 : decode cX8_renewed 69 = .ok (.getfield 48, 3) := by decide +kernel
theorem dX8_renewed_72 : decode cX8_renewed 72 = .ok (.iload_n 3, 1) := by decide +kernel
theorem dX8_renewed_73 : decode cX8_renewed 73 = .ok (.invokevirtual 178, 3) := by decide +kernel
theorem dX8_renewed_76 : decode cX8_renewed 76 = .ok (.ireturn, 1) := by decide +kernel
theorem dX8_soon_0 : decode cX8_soon 0 = .ok (.iload_n 3, 1) := by decide +kernel
theorem dX8_soon_1 : decode cX8_soon 1 = .ok (.iconst 0, 1) := by decide +kernel
theorem dX8_soon_2 : decode cX8_soon 2 = .ok (.iconst 3, 1) := by decide +kernel
theorem dX8_soon_3 : decode cX8_soon 3 = .ok (.invokestatic 59, 3) := by decide +kernel
theorem dX8_soon_6 : decode cX8_soon 6 = .ok (.ifCond .ne 5, 3) := by decide +kernel
theorem dX8_soon_9 : decode cX8_soon 9 = .ok (.iconst (-1), 1) := by decide +kernel
theorem dX8_soon_10 : decode cX8_soon 10 = .ok (.ireturn, 1) := by decide +kernel
theorem dX8_soon_11 : decode cX8_soon 11 = .ok (.iload_n 1, 1) := by decide +kernel
theorem dX8_soon_12 : decode cX8_soon 12 = .ok (.iconst 1, 1) := by decide +kernel
theorem dX8_soon_13 : decode cX8_soon 13 = .ok (.bipush 63, 2) := by decide +kernel
theorem dX8_soon_15 : decode cX8_soon 15 = .ok (.invokestatic 59, 3) := by decide +kernel
theorem dX8_soon_18 : decode cX8_soon 18 = .ok (.ifCond .eq 25, 3) := by decide +kernel
theorem dX8_soon_21 : decode cX8_soon 21 = .ok (.iload_n 2, 1) := by decide +kernel
theorem dX8_soon_22 : decode cX8_soon 22 = .ok (.iconst 1, 1) := by decide +kernel
theorem dX8_soon_23 : decode cX8_soon 23 = .ok (.bipush 9, 2) := by decide +kernel
theorem dX8_soon_25 : decode cX8_soon 25 = .ok (.invokestatic 59, 3) := by decide +kernel
theorem dX8_soon_28 : decode cX8_soon 28 = .ok (.ifCond .eq 15, 3) := by decide +kernel
theorem dX8_soon_31 : decode cX8_soon 31 = .ok (.iload 4, 2) := by decide +kernel
theorem dX8_soon_33 : decode cX8_soon 33 = .ok (.iconst 0, 1) := by decide +kernel
theorem dX8_soon_34 : decode cX8_soon 34 = .ok (.sipush 9999, 3) := by decide +kernel
theorem dX8_soon_37 : decode cX8_soon 37 = .ok (.invokestatic 59, 3) := by decide +kernel
theorem dX8_soon_40 : decode cX8_soon 40 = .ok (.ifCond .ne 6, 3) := by decide +kernel
theorem dX8_soon_43 : decode cX8_soon 43 = .ok (.bipush (-2), 2) := by decide +kernel
theorem dX8_soon_45 : decode cX8_soon 45 = .ok (.ireturn, 1) := by decide +kernel
theorem dX8_soon_46 : decode cX8_soon 46 = .ok (.aload_n 0, 1) := by decide +kernel
theorem dX8_soon_47 : decode cX8_soon 47 = .ok (.getfield 34, 3) := by decide +kernel
theorem dX8_soon_50 : decode cX8_soon 50 = .ok (.aload_n 0, 1) := by decide +kernel
theorem dX8_soon_51 : decode cX8_soon 51 = .ok (.getfield 19, 3) := by decide +kernel
theorem dX8_soon_54 : decode cX8_soon 54 = .ok (.getfield 63, 3) := by decide +kernel
theorem dX8_soon_57 : decode cX8_soon 57 = .ok (.invokevirtual 101, 3) := by decide +kernel
theorem dX8_soon_60 : decode cX8_soon 60 = .ok (.iconst 0, 1) := by decide +kernel
theorem dX8_soon_61 : decode cX8_soon 61 = .ok (.istore 5, 2) := by decide +kernel
theorem dX8_soon_63 : decode cX8_soon 63 = .ok (.iload 5, 2) := by decide +kernel
theorem dX8_soon_65 : decode cX8_soon 65 = .ok (.bipush 30, 2) := by decide +kernel
theorem dX8_soon_67 : decode cX8_soon 67 = .ok (.if_icmp .gt 42, 3) := by decide +kernel
theorem dX8_soon_70 : decode cX8_soon 70 = .ok (.aload_n 0, 1) := by decide +kernel
theorem dX8_soon_71 : decode cX8_soon 71 = .ok (.getfield 34, 3) := by decide +kernel
theorem dX8_soon_74 : decode cX8_soon 74 = .ok (.iconst 0, 1) := by decide +kernel
theorem dX8_soon_75 : decode cX8_soon 75 = .ok (.invokevirtual 127, 3) := by decide +kernel
theorem dX8_soon_78 : decode cX8_soon 78 = .ok (.iload 4, 2) := by decide +kernel
theorem dX8_soon_80 : decode cX8_soon 80 = .ok (.if_icmp .lt 6, 3) := by decide +kernel
theorem dX8_soon_83 : decode cX8_soon 83 = .ok (.iload 5, 2) := by decide +kernel
theorem dX8_soon_85 : decode cX8_soon 85 = .ok (.ireturn, 1) := by decide +kernel
theorem dX8_soon_86 : decode cX8_soon 86 = .ok (.aload_n 0, 1) := by decide +kernel
theorem dX8_soon_87 : decode cX8_soon 87 = .ok (.getfield 34, 3) := by decide +kernel
theorem dX8_soon_90 : decode cX8_soon 90 = .ok (.iload_n 1, 1) := by decide +kernel
theorem dX8_soon_91 : decode cX8_soon 91 = .ok (.iload_n 2, 1) := by decide +kernel
theorem dX8_soon_92 : decode cX8_soon 92 = .ok (.iload_n 3, 1) := by decide +kernel
theorem dX8_soon_93 : decode cX8_soon 93 = .ok (.invokevirtual 181, 3) := by decide +kernel
theorem dX8_soon_96 : decode cX8_soon 96 = .ok (.aload_n 0, 1) := by decide +kernel
theorem dX8_soon_97 : decode cX8_soon 97 = .ok (.getfield 34, 3) := by decide +kernel
theorem dX8_soon_100 : decode cX8_soon 100 = .ok (.invokevirtual 185, 3) := by decide +kernel
theorem dX8_soon_103 : decode cX8_soon 103 = .ok (.iinc 5 1, 3) := by decide +kernel
theorem dX8_soon_106 : decode cX8_soon 106 = .ok (.goto (-43), 3) := by decide +kernel
theorem dX8_soon_109 : decode cX8_soon 109 = .ok (.bipush (-6), 2) := by decide +kernel
theorem dX8_soon_111 : decode cX8_soon 111 = .ok (.ireturn, 1) := by decide +kernel
theorem dX8_weighed_0 : decode cX8_weighed 0 = .ok (.iload_n 1, 1) := by decide +kernel
theorem dX8_weighed_1 : decode cX8_weighed 1 = .ok (.iconst 1, 1) := by decide +kernel
theorem dX8_weighed_2 : decode cX8_weighed 2 = .ok (.bipush 63, 2) := by decide +kernel
theorem dX8_weighed_4 : decode cX8_weighed 4 = .ok (.invokestatic 59, 3) := by decide +kernel
theorem dX8_weighed_7 : decode cX8_weighed 7 = .ok (.ifCond .eq 14, 3) := by decide +kernel
theorem dX8_weighed_10 : decode cX8_weighed 10 = .ok (.iload_n 2, 1) := by decide +kernel
theorem dX8_weighed_11 : decode cX8_weighed 11 = .ok (.iconst 0, 1) := by decide +kernel
theorem dX8_weighed_12 : decode cX8_weighed 12 = .ok (.sipush 240, 3) := by decide +kernel
theorem dX8_weighed_15 : decode cX8_weighed 15 = .ok (.invokestatic 59, 3) := by decide +kernel
theorem dX8_weighed_18 : decode cX8_weighed 18 = .ok (.ifCond .ne 6, 3) := by decide +kernel
theorem dX8_weighed_21 : decode cX8_weighed 21 = .ok (.bipush (-2), 2) := by decide +kernel
theorem dX8_weighed_23 : decode cX8_weighed 23 = .ok (.ireturn, 1) := by decide +kernel
theorem dX8_weighed_24 : decode cX8_weighed 24 = .ok (.aload_n 0, 1) := by decide +kernel
theorem dX8_weighed_25 : decode cX8_weighed 25 = .ok (.getfield 19, 3) := by decide +kernel
theorem dX8_weighed_28 : decode cX8_weighed 28 = .ok (.getfield 188, 3) := by decide +kernel
theorem dX8_weighed_31 : decode cX8_weighed 31 = .ok (.iload_n 1, 1) := by decide +kernel
theorem dX8_weighed_32 : decode cX8_weighed 32 = .ok (.iload_n 2, 1) := by decide +kernel
theorem dX8_weighed_33 : decode cX8_weighed 33 = .ok (.invokevirtual 157, 3) := by decide +kernel
theorem dX8_weighed_36 : decode cX8_weighed 36 = .ok (.ifCond .eq 16, 3) := by decide +kernel
theorem dX8_weighed_39 : decode cX8_weighed 39 = .ok (.aload_n 0, 1) := by decide +kernel
theorem dX8_weighed_40 : decode cX8_weighed 40 = .ok (.getfield 19, 3) := by decide +kernel
theorem dX8_weighed_43 : decode cX8_weighed 43 = .ok (.getfield 188, 3) := by decide +kernel
theorem dX8_weighed_46 : decode cX8_weighed 46 = .ok (.getfield 162, 3) := by decide +kernel
theorem dX8_weighed_49 : decode cX8_weighed 49 = .ok (.goto 5, 3) := by decide +kernel
theorem dX8_weighed_52 : decode cX8_weighed 52 = .ok (.bipush (-4), 2) := by decide +kernel
theorem dX8_weighed_54 : decode cX8_weighed 54 = .ok (.ireturn, 1) := by decide +kernel
theorem dX8_forget_0 : decode cX8_forget 0 = .ok (.aload_n 0, 1) := by decide +kernel
theorem dX8_forget_1 : decode cX8_forget 1 = .ok (.getfield 19, 3) := by decide +kernel
theorem dX8_forget_4 : decode cX8_forget 4 = .ok (.getfield 188, 3) := by decide +kernel
theorem dX8_forget_7 : decode cX8_forget 7 = .ok (.invokevirtual 163, 3) := by decide +kernel
theorem dX8_forget_10 : decode cX8_forget 10 = .ok (.ireturn, 1) := by decide +kernel
theorem dX8_canBe_0 : decode cX8_canBe 0 = .ok (.aload_n 0, 1) := by decide +kernel
theorem dX8_canBe_1 : decode cX8_canBe 1 = .ok (.getfield 55, 3) := by decide +kernel
theorem dX8_canBe_4 : decode cX8_canBe 4 = .ok (.aload_n 0, 1) := by decide +kernel
theorem dX8_canBe_5 : decode cX8_canBe 5 = .ok (.getfield 19, 3) := by decide +kernel
theorem dX8_canBe_8 : decode cX8_canBe 8 = .ok (.getfield 63, 3) := by decide +kernel
theorem dX8_canBe_11 : decode cX8_canBe 11 = .ok (.getfield 66, 3) := by decide +kernel
theorem dX8_canBe_14 : decode cX8_canBe 14 = .ok (.aload_n 0, 1) := by decide +kernel
theorem dX8_canBe_15 : decode cX8_canBe 15 = .ok (.getfield 19, 3) := by decide +kernel
theorem dX8_canBe_18 : decode cX8_canBe 18 = .ok (.getfield 188, 3) := by decide +kernel
theorem dX8_canBe_21 : decode cX8_canBe 21 = .ok (.invokevirtual 191, 3) := by decide +kernel
theorem dX8_canBe_24 : decode cX8_canBe 24 = .ok (.iload_n 1, 1) := by decide +kernel
theorem dX8_canBe_25 : decode cX8_canBe 25 = .ok (.iconst (-1), 1) := by decide +kernel
theorem dX8_canBe_26 : decode cX8_canBe 26 = .ok (.if_icmp .ne 11, 3) := by decide +kernel
theorem dX8_canBe_29 : decode cX8_canBe 29 = .ok (.aload_n 0, 1) := by decide +kernel
theorem dX8_canBe_30 : decode cX8_canBe 30 = .ok (.getfield 55, 3) := by decide +kernel
theorem dX8_canBe_33 : decode cX8_canBe 33 = .ok (.getfield 195, 3) := by decide +kernel
theorem dX8_canBe_36 : decode cX8_canBe 36 = .ok (.ireturn, 1) := by decide +kernel
theorem dX8_canBe_37 : decode cX8_canBe 37 = .ok (.iload_n 1, 1) := by decide +kernel
theorem dX8_canBe_38 : decode cX8_canBe 38 = .ok (.iconst 0, 1) := by decide +kernel
theorem dX8_canBe_39 : decode cX8_canBe 39 = .ok (.aload_n 0, 1) := by decide +kernel
theorem dX8_canBe_40 : decode cX8_canBe 40 = .ok (.getfield 55, 3) := by decide +kernel
theorem dX8_canBe_43 : decode cX8_canBe 43 = .ok (.getfield 195, 3) := by decide +kernel
theorem dX8_canBe_46 : decode cX8_canBe 46 = .ok (.iconst 1, 1) := by decide +kernel
theorem dX8_canBe_47 : decode cX8_canBe 47 = .ok (.isub, 1) := by decide +kernel
theorem dX8_canBe_48 : decode cX8_canBe 48 = .ok (.invokestatic 59, 3) := by decide +kernel
theorem dX8_canBe_51 : decode cX8_canBe 51 = .ok (.ifCond .eq 15, 3) := by decide +kernel
theorem dX8_canBe_54 : decode cX8_canBe 54 = .ok (.aload_n 0, 1) := by decide +kernel
theorem dX8_canBe_55 : decode cX8_canBe 55 = .ok (.getfield 55, 3) := by decide +kernel
theorem dX8_canBe_58 : decode cX8_canBe 58 = .ok (.getfield 196, 3) := by decide +kernel
theorem dX8_canBe_61 : decode cX8_canBe 61 = .ok (.iload_n 1, 1) := by decide +kernel
theorem dX8_canBe_62 : decode cX8_canBe 62 = .ok (.iaload, 1) := by decide +kernel
theorem dX8_canBe_63 : decode cX8_canBe 63 = .ok (.goto 5, 3) := by decide +kernel
theorem dX8_canBe_66 : decode cX8_canBe 66 = .ok (.bipush (-6), 2) := by decide +kernel
theorem dX8_canBe_68 : decode cX8_canBe 68 = .ok (.ireturn, 1) := by decide +kernel
theorem dX8_sure_0 : decode cX8_sure 0 = .ok (.iload_n 1, 1) := by decide +kernel
theorem dX8_sure_1 : decode cX8_sure 1 = .ok (.iconst 0, 1) := by decide +kernel
theorem dX8_sure_2 : decode cX8_sure 2 = .ok (.iconst 2, 1) := by decide +kernel
theorem dX8_sure_3 : decode cX8_sure 3 = .ok (.invokestatic 59, 3) := by decide +kernel
theorem dX8_sure_6 : decode cX8_sure 6 = .ok (.ifCond .ne 6, 3) := by decide +kernel
theorem dX8_sure_9 : decode cX8_sure 9 = .ok (.bipush (-2), 2) := by decide +kernel
theorem dX8_sure_11 : decode cX8_sure 11 = .ok (.ireturn, 1) := by decide +kernel
theorem dX8_sure_12 : decode cX8_sure 12 = .ok (.aload_n 0, 1) := by decide +kernel
theorem dX8_sure_13 : decode cX8_sure 13 = .ok (.getfield 55, 3) := by decide +kernel
theorem dX8_sure_16 : decode cX8_sure 16 = .ok (.aload_n 0, 1) := by decide +kernel
theorem dX8_sure_17 : decode cX8_sure 17 = .ok (.getfield 19, 3) := by decide +kernel
theorem dX8_sure_20 : decode cX8_sure 20 = .ok (.getfield 63, 3) := by decide +kernel
theorem dX8_sure_23 : decode cX8_sure 23 = .ok (.getfield 66, 3) := by decide +kernel
theorem dX8_sure_26 : decode cX8_sure 26 = .ok (.aload_n 0, 1) := by decide +kernel
theorem dX8_sure_27 : decode cX8_sure 27 = .ok (.getfield 19, 3) := by decide +kernel
theorem dX8_sure_30 : decode cX8_sure 30 = .ok (.getfield 188, 3) := by decide +kernel
theorem dX8_sure_33 : decode cX8_sure 33 = .ok (.invokevirtual 191, 3) := by decide +kernel
theorem dX8_sure_36 : decode cX8_sure 36 = .ok (.aload_n 0, 1) := by decide +kernel
theorem dX8_sure_37 : decode cX8_sure 37 = .ok (.getfield 55, 3) := by decide +kernel
theorem dX8_sure_40 : decode cX8_sure 40 = .ok (.getfield 195, 3) := by decide +kernel
theorem dX8_sure_43 : decode cX8_sure 43 = .ok (.ifCond .ne 6, 3) := by decide +kernel
theorem dX8_sure_46 : decode cX8_sure 46 = .ok (.bipush (-5), 2) := by decide +kernel
theorem dX8_sure_48 : decode cX8_sure 48 = .ok (.ireturn, 1) := by decide +kernel
theorem dX8_sure_49 : decode cX8_sure 49 = .ok (.iload_n 1, 1) := by decide +kernel
theorem dX8_sure_50 : decode cX8_sure 50 = .ok (.lookupswitch 42 #[(0, 26), (1, 34)], 26) := by decide +kernel
theorem dX8_sure_76 : decode cX8_sure 76 = .ok (.aload_n 0, 1) := by decide +kernel
theorem dX8_sure_77 : decode cX8_sure 77 = .ok (.getfield 55, 3) := by decide +kernel
theorem dX8_sure_80 : decode cX8_sure 80 = .ok (.invokevirtual 199, 3) := by decide +kernel
theorem dX8_sure_83 : decode cX8_sure 83 = .ok (.ireturn, 1) := by decide +kernel
theorem dX8_sure_84 : decode cX8_sure 84 = .ok (.aload_n 0, 1) := by decide +kernel
theorem dX8_sure_85 : decode cX8_sure 85 = .ok (.getfield 55, 3) := by decide +kernel
theorem dX8_sure_88 : decode cX8_sure 88 = .ok (.invokevirtual 202, 3) := by decide +kernel
theorem dX8_sure_91 : decode cX8_sure 91 = .ok (.ireturn, 1) := by decide +kernel
theorem dX8_sure_92 : decode cX8_sure 92 = .ok (.aload_n 0, 1) := by decide +kernel
theorem dX8_sure_93 : decode cX8_sure 93 = .ok (.getfield 55, 3) := by decide +kernel
theorem dX8_sure_96 : decode cX8_sure 96 = .ok (.invokevirtual 205, 3) := by decide +kernel
theorem dX8_sure_99 : decode cX8_sure 99 = .ok (.ireturn, 1) := by decide +kernel
theorem dX8_year_0 : decode cX8_year 0 = .ok (.iload_n 1, 1) := by decide +kernel
theorem dX8_year_1 : decode cX8_year 1 = .ok (.iconst 0, 1) := by decide +kernel
theorem dX8_year_2 : decode cX8_year 2 = .ok (.sipush 9999, 3) := by decide +kernel
theorem dX8_year_5 : decode cX8_year 5 = .ok (.invokestatic 59, 3) := by decide +kernel
theorem dX8_year_8 : decode cX8_year 8 = .ok (.ifCond .eq 22, 3) := by decide +kernel
theorem dX8_year_11 : decode cX8_year 11 = .ok (.iload_n 2, 1) := by decide +kernel
theorem dX8_year_12 : decode cX8_year 12 = .ok (.iconst 1, 1) := by decide +kernel
theorem dX8_year_13 : decode cX8_year 13 = .ok (.bipush 60, 2) := by decide +kernel
theorem dX8_year_15 : decode cX8_year 15 = .ok (.invokestatic 59, 3) := by decide +kernel
theorem dX8_year_18 : decode cX8_year 18 = .ok (.ifCond .eq 12, 3) := by decide +kernel
theorem dX8_year_21 : decode cX8_year 21 = .ok (.iload_n 3, 1) := by decide +kernel
theorem dX8_year_22 : decode cX8_year 22 = .ok (.iconst 0, 1) := by decide +kernel
theorem dX8_year_23 : decode cX8_year 23 = .ok (.iconst 1, 1) := by decide +kernel
theorem dX8_year_24 : decode cX8_year 24 = .ok (.invokestatic 59, 3) := by decide +kernel
theorem dX8_year_27 : decode cX8_year 27 = .ok (.ifCond .ne 6, 3) := by decide +kernel
theorem dX8_year_30 : decode cX8_year 30 = .ok (.bipush (-2), 2) := by decide +kernel
theorem dX8_year_32 : decode cX8_year 32 = .ok (.ireturn, 1) := by decide +kernel
theorem dX8_year_33 : decode cX8_year 33 = .ok (.aload_n 0, 1) := by decide +kernel
theorem dX8_year_34 : decode cX8_year 34 = .ok (.getfield 34, 3) := by decide +kernel
theorem dX8_year_37 : decode cX8_year 37 = .ok (.aload_n 0, 1) := by decide +kernel
theorem dX8_year_38 : decode cX8_year 38 = .ok (.getfield 19, 3) := by decide +kernel
theorem dX8_year_41 : decode cX8_year 41 = .ok (.getfield 63, 3) := by decide +kernel
theorem dX8_year_44 : decode cX8_year 44 = .ok (.invokevirtual 101, 3) := by decide +kernel
theorem dX8_year_47 : decode cX8_year 47 = .ok (.iload_n 1, 1) := by decide +kernel
theorem dX8_year_48 : decode cX8_year 48 = .ok (.istore 4, 2) := by decide +kernel
theorem dX8_year_50 : decode cX8_year 50 = .ok (.iconst 0, 1) := by decide +kernel
theorem dX8_year_51 : decode cX8_year 51 = .ok (.istore 5, 2) := by decide +kernel
theorem dX8_year_53 : decode cX8_year 53 = .ok (.ldc 210, 2) := by decide +kernel
theorem dX8_year_55 : decode cX8_year 55 = .ok (.istore 6, 2) := by decide +kernel
theorem dX8_year_57 : decode cX8_year 57 = .ok (.iconst 0, 1) := by decide +kernel
theorem dX8_year_58 : decode cX8_year 58 = .ok (.istore 7, 2) := by decide +kernel
theorem dX8_year_60 : decode cX8_year 60 = .ok (.iload 7, 2) := by decide +kernel
theorem dX8_year_62 : decode cX8_year 62 = .ok (.iload_n 2, 1) := by decide +kernel
theorem dX8_year_63 : decode cX8_year 63 = .ok (.if_icmp .ge 46, 3) := by decide +kernel
theorem dX8_year_66 : decode cX8_year 66 = .ok (.aload_n 0, 1) := by decide +kernel
theorem dX8_year_67 : decode cX8_year 67 = .ok (.getfield 34, 3) := by decide +kernel
theorem dX8_year_70 : decode cX8_year 70 = .ok (.iload 4, 2) := by decide +kernel
theorem dX8_year_72 : decode cX8_year 72 = .ok (.invokevirtual 211, 3) := by decide +kernel
theorem dX8_year_75 : decode cX8_year 75 = .ok (.istore 4, 2) := by decide +kernel
theorem dX8_year_77 : decode cX8_year 77 = .ok (.aload_n 0, 1) := by decide +kernel
theorem dX8_year_78 : decode cX8_year 78 = .ok (.getfield 34, 3) := by decide +kernel
theorem dX8_year_81 : decode cX8_year 81 = .ok (.invokevirtual 185, 3) := by decide +kernel
theorem dX8_year_84 : decode cX8_year 84 = .ok (.aload_n 0, 1) := by decide +kernel
theorem dX8_year_85 : decode cX8_year 85 = .ok (.getfield 34, 3) := by decide +kernel
theorem dX8_year_88 : decode cX8_year 88 = .ok (.iconst 0, 1) := by decide +kernel
theorem dX8_year_89 : decode cX8_year 89 = .ok (.invokevirtual 127, 3) := by decide +kernel
theorem dX8_year_92 : decode cX8_year 92 = .ok (.istore 5, 2) := by decide +kernel
theorem dX8_year_94 : decode cX8_year 94 = .ok (.iload 6, 2) := by decide +kernel
theorem dX8_year_96 : decode cX8_year 96 = .ok (.iload 5, 2) := by decide +kernel
theorem dX8_year_98 : decode cX8_year 98 = .ok (.invokestatic 214, 3) := by decide +kernel
theorem dX8_year_101 : decode cX8_year 101 = .ok (.istore 6, 2) := by decide +kernel
theorem dX8_year_103 : decode cX8_year 103 = .ok (.iinc 7 1, 3) := by decide +kernel
theorem dX8_year_106 : decode cX8_year 106 = .ok (.goto (-46), 3) := by decide +kernel
theorem dX8_year_109 : decode cX8_year 109 = .ok (.iload_n 3, 1) := by decide +kernel
theorem dX8_year_110 : decode cX8_year 110 = .ok (.ifCond .ne 8, 3) := by decide +kernel
theorem dX8_year_113 : decode cX8_year 113 = .ok (.iload 5, 2) := by decide +kernel
theorem dX8_year_115 : decode cX8_year 115 = .ok (.goto 5, 3) := by decide +kernel
theorem dX8_year_118 : decode cX8_year 118 = .ok (.iload 6, 2) := by decide +kernel
theorem dX8_year_120 : decode cX8_year 120 = .ok (.ireturn, 1) := by decide +kernel
theorem dX8_image_0 : decode cX8_image 0 = .ok (.iload_n 1, 1) := by decide +kernel
theorem dX8_image_1 : decode cX8_image 1 = .ok (.iconst 0, 1) := by decide +kernel
theorem dX8_image_2 : decode cX8_image 2 = .ok (.iconst 1, 1) := by decide +kernel
theorem dX8_image_3 : decode cX8_image 3 = .ok (.invokestatic 59, 3) := by decide +kernel
theorem dX8_image_6 : decode cX8_image 6 = .ok (.ifCond .ne 6, 3) := by decide +kernel
theorem dX8_image_9 : decode cX8_image 9 = .ok (.bipush (-2), 2) := by decide +kernel
theorem dX8_image_11 : decode cX8_image 11 = .ok (.ireturn, 1) := by decide +kernel
theorem dX8_image_12 : decode cX8_image 12 = .ok (.aload_n 0, 1) := by decide +kernel
theorem dX8_image_13 : decode cX8_image 13 = .ok (.getfield 23, 3) := by decide +kernel
theorem dX8_image_16 : decode cX8_image 16 = .ok (.iload_n 1, 1) := by decide +kernel
theorem dX8_image_17 : decode cX8_image 17 = .ok (.aaload, 1) := by decide +kernel
theorem dX8_image_18 : decode cX8_image 18 = .ok (.aload_n 0, 1) := by decide +kernel
theorem dX8_image_19 : decode cX8_image 19 = .ok (.getfield 19, 3) := by decide +kernel
theorem dX8_image_22 : decode cX8_image 22 = .ok (.invokevirtual 219, 3) := by decide +kernel
theorem dX8_image_25 : decode cX8_image 25 = .ok (.aload_n 0, 1) := by decide +kernel
theorem dX8_image_26 : decode cX8_image 26 = .ok (.getfield 27, 3) := by decide +kernel
theorem dX8_image_29 : decode cX8_image 29 = .ok (.iload_n 1, 1) := by decide +kernel
theorem dX8_image_30 : decode cX8_image 30 = .ok (.iconst 1, 1) := by decide +kernel
theorem dX8_image_31 : decode cX8_image 31 = .ok (.bastore, 1) := by decide +kernel
theorem dX8_image_32 : decode cX8_image 32 = .ok (.iconst 1, 1) := by decide +kernel
theorem dX8_image_33 : decode cX8_image 33 = .ok (.ireturn, 1) := by decide +kernel
theorem dX8_restore_0 : decode cX8_restore 0 = .ok (.iload_n 1, 1) := by decide +kernel
theorem dX8_restore_1 : decode cX8_restore 1 = .ok (.iconst 0, 1) := by decide +kernel
theorem dX8_restore_2 : decode cX8_restore 2 = .ok (.iconst 1, 1) := by decide +kernel
theorem dX8_restore_3 : decode cX8_restore 3 = .ok (.invokestatic 59, 3) := by decide +kernel
theorem dX8_restore_6 : decode cX8_restore 6 = .ok (.ifCond .ne 6, 3) := by decide +kernel
theorem dX8_restore_9 : decode cX8_restore 9 = .ok (.bipush (-2), 2) := by decide +kernel
theorem dX8_restore_11 : decode cX8_restore 11 = .ok (.ireturn, 1) := by decide +kernel
theorem dX8_restore_12 : decode cX8_restore 12 = .ok (.aload_n 0, 1) := by decide +kernel
theorem dX8_restore_13 : decode cX8_restore 13 = .ok (.getfield 27, 3) := by decide +kernel
theorem dX8_restore_16 : decode cX8_restore 16 = .ok (.iload_n 1, 1) := by decide +kernel
theorem dX8_restore_17 : decode cX8_restore 17 = .ok (.baload, 1) := by decide +kernel
theorem dX8_restore_18 : decode cX8_restore 18 = .ok (.ifCond .ne 6, 3) := by decide +kernel
theorem dX8_restore_21 : decode cX8_restore 21 = .ok (.bipush (-3), 2) := by decide +kernel
theorem dX8_restore_23 : decode cX8_restore 23 = .ok (.ireturn, 1) := by decide +kernel
theorem dX8_restore_24 : decode cX8_restore 24 = .ok (.aload_n 0, 1) := by decide +kernel
theorem dX8_restore_25 : decode cX8_restore 25 = .ok (.getfield 19, 3) := by decide +kernel
theorem dX8_restore_28 : decode cX8_restore 28 = .ok (.aload_n 0, 1) := by decide +kernel
theorem dX8_restore_29 : decode cX8_restore 29 = .ok (.getfield 23, 3) := by decide +kernel
theorem dX8_restore_32 : decode cX8_restore 32 = .ok (.iload_n 1, 1) := by decide +kernel
theorem dX8_restore_33 : decode cX8_restore 33 = .ok (.aaload, 1) := by decide +kernel
theorem dX8_restore_34 : decode cX8_restore 34 = .ok (.invokevirtual 219, 3) := by decide +kernel
theorem dX8_restore_37 : decode cX8_restore 37 = .ok (.iconst 1, 1) := by decide +kernel
theorem dX8_restore_38 : decode cX8_restore 38 = .ok (.ireturn, 1) := by decide +kernel
theorem dX8_told_0 : decode cX8_told 0 = .ok (.iload_n 1, 1) := by decide +kernel
theorem dX8_told_1 : decode cX8_told 1 = .ok (.tableswitch 87 0 4 #[35, 43, 54, 65, 76], 35) := by decide +kernel
theorem dX8_told_36 : decode cX8_told 36 = .ok (.aload_n 0, 1) := by decide +kernel
theorem dX8_told_37 : decode cX8_told 37 = .ok (.getfield 10, 3) := by decide +kernel
theorem dX8_told_40 : decode cX8_told 40 = .ok (.getfield 81, 3) := by decide +kernel
theorem dX8_told_43 : decode cX8_told 43 = .ok (.ireturn, 1) := by decide +kernel
theorem dX8_told_44 : decode cX8_told 44 = .ok (.aload_n 0, 1) := by decide +kernel
theorem dX8_told_45 : decode cX8_told 45 = .ok (.getfield 19, 3) := by decide +kernel
theorem dX8_told_48 : decode cX8_told 48 = .ok (.getfield 63, 3) := by decide +kernel
theorem dX8_told_51 : decode cX8_told 51 = .ok (.getfield 73, 3) := by decide +kernel
theorem dX8_told_54 : decode cX8_told 54 = .ok (.ireturn, 1) := by decide +kernel
theorem dX8_told_55 : decode cX8_told 55 = .ok (.aload_n 0, 1) := by decide +kernel
theorem dX8_told_56 : decode cX8_told 56 = .ok (.getfield 19, 3) := by decide +kernel
theorem dX8_told_59 : decode cX8_told 59 = .ok (.getfield 63, 3) := by decide +kernel
theorem dX8_told_62 : decode cX8_told 62 = .ok (.getfield 118, 3) := by decide +kernel
theorem dX8_told_65 : decode cX8_told 65 = .ok (.ireturn, 1) := by decide +kernel
theorem dX8_told_66 : decode cX8_told 66 = .ok (.aload_n 0, 1) := by decide +kernel
theorem dX8_told_67 : decode cX8_told 67 = .ok (.getfield 19, 3) := by decide +kernel
theorem dX8_told_70 : decode cX8_told 70 = .ok (.getfield 153, 3) := by decide +kernel
theorem dX8_told_73 : decode cX8_told 73 = .ok (.getfield 162, 3) := by decide +kernel
theorem dX8_told_76 : decode cX8_told 76 = .ok (.ireturn, 1) := by decide +kernel
theorem dX8_told_77 : decode cX8_told 77 = .ok (.aload_n 0, 1) := by decide +kernel
theorem dX8_told_78 : decode cX8_told 78 = .ok (.getfield 19, 3) := by decide +kernel
theorem dX8_told_81 : decode cX8_told 81 = .ok (.getfield 188, 3) := by decide +kernel
theorem dX8_told_84 : decode cX8_told 84 = .ok (.getfield 162, 3) := by decide +kernel
theorem dX8_told_87 : decode cX8_told 87 = .ok (.ireturn, 1) := by decide +kernel
theorem dX8_told_88 : decode cX8_told 88 = .ok (.aload_n 0, 1) := by decide +kernel
theorem dX8_told_89 : decode cX8_told 89 = .ok (.iload_n 1, 1) := by decide +kernel
theorem dX8_told_90 : decode cX8_told 90 = .ok (.invokevirtual 222, 3) := by decide +kernel
theorem dX8_told_93 : decode cX8_told 93 = .ok (.ireturn, 1) := by decide +kernel
theorem dX8_toldOfOne_0 : decode cX8_toldOfOne 0 = .ok (.iload_n 1, 1) := by decide +kernel
theorem dX8_toldOfOne_1 : decode cX8_toldOfOne 1 = .ok (.bipush 10, 2) := by decide +kernel
theorem dX8_toldOfOne_3 : decode cX8_toldOfOne 3 = .ok (.bipush 15, 2) := by decide +kernel
theorem dX8_toldOfOne_5 : decode cX8_toldOfOne 5 = .ok (.invokestatic 59, 3) := by decide +kernel
theorem dX8_toldOfOne_8 : decode cX8_toldOfOne 8 = .ok (.ifCond .eq 19, 3) := by decide +kernel
theorem dX8_toldOfOne_11 : decode cX8_toldOfOne 11 = .ok (.aload_n 0, 1) := by decide +kernel
theorem dX8_toldOfOne_12 : decode cX8_toldOfOne 12 = .ok (.getfield 19, 3) := by decide +kernel
theorem dX8_toldOfOne_15 : decode cX8_toldOfOne 15 = .ok (.getfield 63, 3) := by decide +kernel
theorem dX8_toldOfOne_18 : decode cX8_toldOfOne 18 = .ok (.getfield 66, 3) := by decide +kernel
theorem dX8_toldOfOne_21 : decode cX8_toldOfOne 21 = .ok (.iload_n 1, 1) := by decide +kernel
theorem dX8_toldOfOne_22 : decode cX8_toldOfOne 22 = .ok (.bipush 10, 2) := by decide +kernel
theorem dX8_toldOfOne_24 : decode cX8_toldOfOne 24 = .ok (.isub, 1) := by decide +kernel
theorem dX8_toldOfOne_25 : decode cX8_toldOfOne 25 = .ok (.iaload, 1) := by decide +kernel
theorem dX8_toldOfOne_26 : decode cX8_toldOfOne 26 = .ok (.ireturn, 1) := by decide +kernel
theorem dX8_toldOfOne_27 : decode cX8_toldOfOne 27 = .ok (.iload_n 1, 1) := by decide +kernel
theorem dX8_toldOfOne_28 : decode cX8_toldOfOne 28 = .ok (.bipush 20, 2) := by decide +kernel
theorem dX8_toldOfOne_30 : decode cX8_toldOfOne 30 = .ok (.bipush 25, 2) := by decide +kernel
theorem dX8_toldOfOne_32 : decode cX8_toldOfOne 32 = .ok (.invokestatic 59, 3) := by decide +kernel
theorem dX8_toldOfOne_35 : decode cX8_toldOfOne 35 = .ok (.ifCond .eq 19, 3) := by decide +kernel
theorem dX8_toldOfOne_38 : decode cX8_toldOfOne 38 = .ok (.aload_n 0, 1) := by decide +kernel
theorem dX8_toldOfOne_39 : decode cX8_toldOfOne 39 = .ok (.getfield 19, 3) := by decide +kernel
theorem dX8_toldOfOne_42 : decode cX8_toldOfOne 42 = .ok (.getfield 63, 3) := by decide +kernel
theorem dX8_toldOfOne_45 : decode cX8_toldOfOne 45 = .ok (.getfield 70, 3) := by decide +kernel
theorem dX8_toldOfOne_48 : decode cX8_toldOfOne 48 = .ok (.iload_n 1, 1) := by decide +kernel
theorem dX8_toldOfOne_49 : decode cX8_toldOfOne 49 = .ok (.bipush 20, 2) := by decide +kernel
theorem dX8_toldOfOne_51 : decode cX8_toldOfOne 51 = .ok (.isub, 1) := by decide +kernel
theorem dX8_toldOfOne_52 : decode cX8_toldOfOne 52 = .ok (.iaload, 1) := by decide +kernel
theorem dX8_toldOfOne_53 : decode cX8_toldOfOne 53 = .ok (.ireturn, 1) := by decide +kernel
theorem dX8_toldOfOne_54 : decode cX8_toldOfOne 54 = .ok (.iload_n 1, 1) := by decide +kernel
theorem dX8_toldOfOne_55 : decode cX8_toldOfOne 55 = .ok (.bipush 30, 2) := by decide +kernel
theorem dX8_toldOfOne_57 : decode cX8_toldOfOne 57 = .ok (.bipush 35, 2) := by decide +kernel
theorem dX8_toldOfOne_59 : decode cX8_toldOfOne 59 = .ok (.invokestatic 59, 3) := by decide +kernel
theorem dX8_toldOfOne_62 : decode cX8_toldOfOne 62 = .ok (.ifCond .eq 19, 3) := by decide +kernel
theorem dX8_toldOfOne_65 : decode cX8_toldOfOne 65 = .ok (.aload_n 0, 1) := by decide +kernel
theorem dX8_toldOfOne_66 : decode cX8_toldOfOne 66 = .ok (.getfield 19, 3) := by decide +kernel
theorem dX8_toldOfOne_69 : decode cX8_toldOfOne 69 = .ok (.getfield 63, 3) := by decide +kernel
theorem dX8_toldOfOne_72 : decode cX8_toldOfOne 72 = .ok (.getfield 225, 3) := by decide +kernel
theorem dX8_toldOfOne_75 : decode cX8_toldOfOne 75 = .ok (.iload_n 1, 1) := by decide +kernel
theorem dX8_toldOfOne_76 : decode cX8_toldOfOne 76 = .ok (.bipush 30, 2) := by decide +kernel
theorem dX8_toldOfOne_78 : decode cX8_toldOfOne 78 = .ok (.isub, 1) := by decide +kernel
theorem dX8_toldOfOne_79 : decode cX8_toldOfOne 79 = .ok (.iaload, 1) := by decide +kernel
theorem dX8_toldOfOne_80 : decode cX8_toldOfOne 80 = .ok (.ireturn, 1) := by decide +kernel
theorem dX8_toldOfOne_81 : decode cX8_toldOfOne 81 = .ok (.iload_n 1, 1) := by decide +kernel
theorem dX8_toldOfOne_82 : decode cX8_toldOfOne 82 = .ok (.bipush 40, 2) := by decide +kernel
theorem dX8_toldOfOne_84 : decode cX8_toldOfOne 84 = .ok (.bipush 43, 2) := by decide +kernel
theorem dX8_toldOfOne_86 : decode cX8_toldOfOne 86 = .ok (.invokestatic 59, 3) := by decide +kernel
theorem dX8_toldOfOne_89 : decode cX8_toldOfOne 89 = .ok (.ifCond .eq 22, 3) := by decide +kernel
theorem dX8_toldOfOne_92 : decode cX8_toldOfOne 92 = .ok (.aload_n 0, 1) := by decide +kernel
theorem dX8_toldOfOne_93 : decode cX8_toldOfOne 93 = .ok (.getfield 19, 3) := by decide +kernel
theorem dX8_toldOfOne_96 : decode cX8_toldOfOne 96 = .ok (.getfield 63, 3) := by decide +kernel
theorem dX8_toldOfOne_99 : decode cX8_toldOfOne 99 = .ok (.getfield 105, 3) := by decide +kernel
theorem dX8_toldOfOne_102 : decode cX8_toldOfOne 102 = .ok (.iload_n 1, 1) := by decide +kernel
theorem dX8_toldOfOne_103 : decode cX8_toldOfOne 103 = .ok (.bipush 40, 2) := by decide +kernel
theorem dX8_toldOfOne_105 : decode cX8_toldOfOne 105 = .ok (.isub, 1) := by decide +kernel
theorem dX8_toldOfOne_106 : decode cX8_toldOfOne 106 = .ok (.aaload, 1) := by decide +kernel
theorem dX8_toldOfOne_107 : decode cX8_toldOfOne 107 = .ok (.getfield 109, 3) := by decide +kernel
theorem dX8_toldOfOne_110 : decode cX8_toldOfOne 110 = .ok (.ireturn, 1) := by decide +kernel
theorem dX8_toldOfOne_111 : decode cX8_toldOfOne 111 = .ok (.bipush (-2), 2) := by decide +kernel
theorem dX8_toldOfOne_113 : decode cX8_toldOfOne 113 = .ok (.ireturn, 1) := by decide +kernel
theorem dX8_tryText_0 : decode cX8_tryText 0 = .ok (.aload_n 0, 1) := by decide +kernel
theorem dX8_tryText_1 : decode cX8_tryText 1 = .ok (.getfield 34, 3) := by decide +kernel
theorem dX8_tryText_4 : decode cX8_tryText 4 = .ok (.aload_n 0, 1) := by decide +kernel
theorem dX8_tryText_5 : decode cX8_tryText 5 = .ok (.getfield 19, 3) := by decide +kernel
theorem dX8_tryText_8 : decode cX8_tryText 8 = .ok (.getfield 63, 3) := by decide +kernel
theorem dX8_tryText_11 : decode cX8_tryText 11 = .ok (.invokevirtual 101, 3) := by decide +kernel
theorem dX8_tryText_14 : decode cX8_tryText 14 = .ok (.aload_n 0, 1) := by decide +kernel
theorem dX8_tryText_15 : decode cX8_tryText 15 = .ok (.getfield 10, 3) := by decide +kernel
theorem dX8_tryText_18 : decode cX8_tryText 18 = .ok (.aload_n 0, 1) := by decide +kernel
theorem dX8_tryText_19 : decode cX8_tryText 19 = .ok (.getfield 34, 3) := by decide +kernel
theorem dX8_tryText_22 : decode cX8_tryText 22 = .ok (.invokevirtual 228, 3) := by decide +kernel
theorem dX8_tryText_25 : decode cX8_tryText 25 = .ok (.ireturn, 1) := by decide +kernel
theorem dX8_isIn_0 : decode cX8_isIn 0 = .ok (.iload_n 0, 1) := by decide +kernel
theorem dX8_isIn_1 : decode cX8_isIn 1 = .ok (.iload_n 1, 1) := by decide +kernel
theorem dX8_isIn_2 : decode cX8_isIn 2 = .ok (.if_icmp .lt 12, 3) := by decide +kernel
theorem dX8_isIn_5 : decode cX8_isIn 5 = .ok (.iload_n 0, 1) := by decide +kernel
theorem dX8_isIn_6 : decode cX8_isIn 6 = .ok (.iload_n 2, 1) := by decide +kernel
theorem dX8_isIn_7 : decode cX8_isIn 7 = .ok (.if_icmp .gt 7, 3) := by decide +kernel
theorem dX8_isIn_10 : decode cX8_isIn 10 = .ok (.iconst 1, 1) := by decide +kernel
theorem dX8_isIn_11 : decode cX8_isIn 11 = .ok (.goto 4, 3) := by decide +kernel
theorem dX8_isIn_14 : decode cX8_isIn 14 = .ok (.iconst 0, 1) := by decide +kernel
theorem dX8_isIn_15 : decode cX8_isIn 15 = .ok (.ireturn, 1) := by decide +kernel
theorem dX8_commonDivisor_0 : decode cX8_commonDivisor 0 = .ok (.iload_n 0, 1) := by decide +kernel
theorem dX8_commonDivisor_1 : decode cX8_commonDivisor 1 = .ok (.istore_n 2, 1) := by decide +kernel
theorem dX8_commonDivisor_2 : decode cX8_commonDivisor 2 = .ok (.iload_n 1, 1) := by decide +kernel
theorem dX8_commonDivisor_3 : decode cX8_commonDivisor 3 = .ok (.istore_n 3, 1) := by decide +kernel
theorem dX8_commonDivisor_4 : decode cX8_commonDivisor 4 = .ok (.iconst 0, 1) := by decide +kernel
theorem dX8_commonDivisor_5 : decode cX8_commonDivisor 5 = .ok (.istore 4, 2) := by decide +kernel
theorem dX8_commonDivisor_7 : decode cX8_commonDivisor 7 = .ok (.iload 4, 2) := by decide +kernel
theorem dX8_commonDivisor_9 : decode cX8_commonDivisor 9 = .ok (.bipush 100, 2) := by decide +kernel
theorem dX8_commonDivisor_11 : decode cX8_commonDivisor 11 = .ok (.if_icmp .ge 23, 3) := by decide +kernel
theorem dX8_commonDivisor_14 : decode cX8_commonDivisor 14 = .ok (.iload_n 3, 1) := by decide +kernel
theorem dX8_commonDivisor_15 : decode cX8_commonDivisor 15 = .ok (.ifCond .eq 19, 3) := by decide +kernel
theorem dX8_commonDivisor_18 : decode cX8_commonDivisor 18 = .ok (.iload_n 2, 1) := by decide +kernel
theorem dX8_commonDivisor_19 : decode cX8_commonDivisor 19 = .ok (.iload_n 3, 1) := by decide +kernel
theorem dX8_commonDivisor_20 : decode cX8_commonDivisor 20 = .ok (.irem, 1) := by decide +kernel
theorem dX8_commonDivisor_21 : decode cX8_commonDivisor 21 = .ok (.istore 5, 2) := by decide +kernel
theorem dX8_commonDivisor_23 : decode cX8_commonDivisor 23 = .ok (.iload_n 3, 1) := by decide +kernel
theorem dX8_commonDivisor_24 : decode cX8_commonDivisor 24 = .ok (.istore_n 2, 1) := by decide +kernel
theorem dX8_commonDivisor_25 : decode cX8_commonDivisor 25 = .ok (.iload 5, 2) := by decide +kernel
theorem dX8_commonDivisor_27 : decode cX8_commonDivisor 27 = .ok (.istore_n 3, 1) := by decide +kernel
theorem dX8_commonDivisor_28 : decode cX8_commonDivisor 28 = .ok (.iinc 4 1, 3) := by decide +kernel
theorem dX8_commonDivisor_31 : decode cX8_commonDivisor 31 = .ok (.goto (-24), 3) := by decide +kernel
theorem dX8_commonDivisor_34 : decode cX8_commonDivisor 34 = .ok (.iconst 1, 1) := by decide +kernel
theorem dX8_commonDivisor_35 : decode cX8_commonDivisor 35 = .ok (.iload_n 2, 1) := by decide +kernel
theorem dX8_commonDivisor_36 : decode cX8_commonDivisor 36 = .ok (.invokestatic 232, 3) := by decide +kernel
theorem dX8_commonDivisor_39 : decode cX8_commonDivisor 39 = .ok (.ireturn, 1) := by decide +kernel
theorem dX8_greatestLoad_0 : decode cX8_greatestLoad 0 = .ok (.iconst 0, 1) := by decide +kernel
theorem dX8_greatestLoad_1 : decode cX8_greatestLoad 1 = .ok (.istore_n 1, 1) := by decide +kernel
theorem dX8_greatestLoad_2 : decode cX8_greatestLoad 2 = .ok (.aload_n 0, 1) := by decide +kernel
theorem dX8_greatestLoad_3 : decode cX8_greatestLoad 3 = .ok (.astore_n 2, 1) := by decide +kernel
theorem dX8_greatestLoad_4 : decode cX8_greatestLoad 4 = .ok (.aload_n 2, 1) := by decide +kernel
theorem dX8_greatestLoad_5 : decode cX8_greatestLoad 5 = .ok (.arraylength, 1) := by decide +kernel
theorem dX8_greatestLoad_6 : decode cX8_greatestLoad 6 = .ok (.istore_n 3, 1) := by decide +kernel
theorem dX8_greatestLoad_7 : decode cX8_greatestLoad 7 = .ok (.iconst 0, 1) := by decide +kernel
theorem dX8_greatestLoad_8 : decode cX8_greatestLoad 8 = .ok (.istore 4, 2) := by decide +kernel
theorem dX8_greatestLoad_10 : decode cX8_greatestLoad 10 = .ok (.iload 4, 2) := by decide +kernel
theorem dX8_greatestLoad_12 : decode cX8_greatestLoad 12 = .ok (.iload_n 3, 1) := by decide +kernel
theorem dX8_greatestLoad_13 : decode cX8_greatestLoad 13 = .ok (.if_icmp .ge 69, 3) := by decide +kernel
theorem dX8_greatestLoad_16 : decode cX8_greatestLoad 16 = .ok (.aload_n 2, 1) := by decide +kernel
theorem dX8_greatestLoad_17 : decode cX8_greatestLoad 17 = .ok (.iload 4, 2) := by decide +kernel
theorem dX8_greatestLoad_19 : decode cX8_greatestLoad 19 = .ok (.iaload, 1) := by decide +kernel
theorem dX8_greatestLoad_20 : decode cX8_greatestLoad 20 = .ok (.istore 5, 2) := by decide +kernel
theorem dX8_greatestLoad_22 : decode cX8_greatestLoad 22 = .ok (.iconst 0, 1) := by decide +kernel
theorem dX8_greatestLoad_23 : decode cX8_greatestLoad 23 = .ok (.istore 6, 2) := by decide +kernel
theorem dX8_greatestLoad_25 : decode cX8_greatestLoad 25 = .ok (.aload_n 0, 1) := by decide +kernel
theorem dX8_greatestLoad_26 : decode cX8_greatestLoad 26 = .ok (.astore 7, 2) := by decide +kernel
theorem dX8_greatestLoad_28 : decode cX8_greatestLoad 28 = .ok (.aload 7, 2) := by decide +kernel
theorem dX8_greatestLoad_30 : decode cX8_greatestLoad 30 = .ok (.arraylength, 1) := by decide +kernel
theorem dX8_greatestLoad_31 : decode cX8_greatestLoad 31 = .ok (.istore 8, 2) := by decide +kernel
theorem dX8_greatestLoad_33 : decode cX8_greatestLoad 33 = .ok (.iconst 0, 1) := by decide +kernel
theorem dX8_greatestLoad_34 : decode cX8_greatestLoad 34 = .ok (.istore 9, 2) := by decide +kernel
theorem dX8_greatestLoad_36 : decode cX8_greatestLoad 36 = .ok (.iload 9, 2) := by decide +kernel
theorem dX8_greatestLoad_38 : decode cX8_greatestLoad 38 = .ok (.iload 8, 2) := by decide +kernel
theorem dX8_greatestLoad_40 : decode cX8_greatestLoad 40 = .ok (.if_icmp .ge 26, 3) := by decide +kernel
theorem dX8_greatestLoad_43 : decode cX8_greatestLoad 43 = .ok (.aload 7, 2) := by decide +kernel
theorem dX8_greatestLoad_45 : decode cX8_greatestLoad 45 = .ok (.iload 9, 2) := by decide +kernel
theorem dX8_greatestLoad_47 : decode cX8_greatestLoad 47 = .ok (.iaload, 1) := by decide +kernel
theorem dX8_greatestLoad_48 : decode cX8_greatestLoad 48 = .ok (.istore 10, 2) := by decide +kernel
theorem dX8_greatestLoad_50 : decode cX8_greatestLoad 50 = .ok (.iload 10, 2) := by decide +kernel
theorem dX8_greatestLoad_52 : decode cX8_greatestLoad 52 = .ok (.iload 5, 2) := by decide +kernel
theorem dX8_greatestLoad_54 : decode cX8_greatestLoad 54 = .ok (.if_icmp .lt 6, 3) := by decide +kernel
theorem dX8_greatestLoad_57 : decode cX8_greatestLoad 57 = .ok (.iinc 6 1, 3) := by decide +kernel
theorem dX8_greatestLoad_60 : decode cX8_greatestLoad 60 = .ok (.iinc 9 1, 3) := by decide +kernel
theorem dX8_greatestLoad_63 : decode cX8_greatestLoad 63 = .ok (.goto (-27), 3) := by decide +kernel
theorem dX8_greatestLoad_66 : decode cX8_greatestLoad 66 = .ok (.iload_n 1, 1) := by decide +kernel
theorem dX8_greatestLoad_67 : decode cX8_greatestLoad 67 = .ok (.iload 6, 2) := by decide +kernel
theorem dX8_greatestLoad_69 : decode cX8_greatestLoad 69 = .ok (.iload 5, 2) := by decide +kernel
theorem dX8_greatestLoad_71 : decode cX8_greatestLoad 71 = .ok (.imul, 1) := by decide +kernel
theorem dX8_greatestLoad_72 : decode cX8_greatestLoad 72 = .ok (.invokestatic 232, 3) := by decide +kernel
theorem dX8_greatestLoad_75 : decode cX8_greatestLoad 75 = .ok (.istore_n 1, 1) := by decide +kernel
theorem dX8_greatestLoad_76 : decode cX8_greatestLoad 76 = .ok (.iinc 4 1, 3) := by decide +kernel
theorem dX8_greatestLoad_79 : decode cX8_greatestLoad 79 = .ok (.goto (-69), 3) := by decide +kernel
theorem dX8_greatestLoad_82 : decode cX8_greatestLoad 82 = .ok (.iload_n 1, 1) := by decide +kernel
theorem dX8_greatestLoad_83 : decode cX8_greatestLoad 83 = .ok (.ireturn, 1) := by decide +kernel
end
section
theorem dX9_init_0 : decode cX9_init 0 = .ok (.aload_n 0, 1) := by decide +kernel
theorem dX9_init_1 : decode cX9_init 1 = .ok (.invokespecial 1, 3) := by decide +kernel
theorem dX9_init_4 : decode cX9_init 4 = .ok (.aload_n 0, 1) := by decide +kernel
theorem dX9_init_5 : decode cX9_init 5 = .ok (.bipush 6, 2) := by decide +kernel
theorem dX9_init_7 : decode cX9_init 7 = .ok (.newarray .int, 2) := by decide +kernel
theorem dX9_init_9 : decode cX9_init 9 = .ok (.putfield 7, 3) := by decide +kernel
theorem dX9_init_12 : decode cX9_init 12 = .ok (.aload_n 0, 1) := by decide +kernel
theorem dX9_init_13 : decode cX9_init 13 = .ok (.bipush 6, 2) := by decide +kernel
theorem dX9_init_15 : decode cX9_init 15 = .ok (.newarray .int, 2) := by decide +kernel
theorem dX9_init_17 : decode cX9_init 17 = .ok (.putfield 13, 3) := by decide +kernel
theorem dX9_init_20 : decode cX9_init 20 = .ok (.aload_n 0, 1) := by decide +kernel
theorem dX9_init_21 : decode cX9_init 21 = .ok (.bipush 6, 2) := by decide +kernel
theorem dX9_init_23 : decode cX9_init 23 = .ok (.newarray .int, 2) := by decide +kernel
theorem dX9_init_25 : decode cX9_init 25 = .ok (.putfield 16, 3) := by decide +kernel
theorem dX9_init_28 : decode cX9_init 28 = .ok (.aload_n 0, 1) := by decide +kernel
theorem dX9_init_29 : decode cX9_init 29 = .ok (.bipush 6, 2) := by decide +kernel
theorem dX9_init_31 : decode cX9_init 31 = .ok (.newarray .int, 2) := by decide +kernel
theorem dX9_init_33 : decode cX9_init 33 = .ok (.putfield 19, 3) := by decide +kernel
theorem dX9_init_36 : decode cX9_init 36 = .ok (.aload_n 0, 1) := by decide +kernel
theorem dX9_init_37 : decode cX9_init 37 = .ok (.bipush 32, 2) := by decide +kernel
theorem dX9_init_39 : decode cX9_init 39 = .ok (.newarray .int, 2) := by decide +kernel
theorem dX9_init_41 : decode cX9_init 41 = .ok (.putfield 22, 3) := by decide +kernel
theorem dX9_init_44 : decode cX9_init 44 = .ok (.aload_n 0, 1) := by decide +kernel
theorem dX9_init_45 : decode cX9_init 45 = .ok (.bipush 32, 2) := by decide +kernel
theorem dX9_init_47 : decode cX9_init 47 = .ok (.newarray .int, 2) := by decide +kernel
theorem dX9_init_49 : decode cX9_init 49 = .ok (.putfield 25, 3) := by decide +kernel
theorem dX9_init_52 : decode cX9_init 52 = .ok (.aload_n 0, 1) := by decide +kernel
theorem dX9_init_53 : decode cX9_init 53 = .ok (.bipush 32, 2) := by decide +kernel
theorem dX9_init_55 : decode cX9_init 55 = .ok (.newarray .int, 2) := by decide +kernel
theorem dX9_init_57 : decode cX9_init 57 = .ok (.putfield 28, 3) := by decide +kernel
theorem dX9_init_60 : decode cX9_init 60 = .ok (.aload_n 0, 1) := by decide +kernel
theorem dX9_init_61 : decode cX9_init 61 = .ok (.iconst 4, 1) := by decide +kernel
theorem dX9_init_62 : decode cX9_init 62 = .ok (.newarray .int, 2) := by decide +kernel
theorem dX9_init_64 : decode cX9_init 64 = .ok (.putfield 31, 3) := by decide +kernel
theorem dX9_init_67 : decode cX9_init 67 = .ok (.aload_n 0, 1) := by decide +kernel
theorem dX9_init_68 : decode cX9_init 68 = .ok (.bipush 6, 2) := by decide +kernel
theorem dX9_init_70 : decode cX9_init 70 = .ok (.newarray .int, 2) := by decide +kernel
theorem dX9_init_72 : decode cX9_init 72 = .ok (.putfield 34, 3) := by decide +kernel
theorem dX9_init_75 : decode cX9_init 75 = .ok (.aload_n 0, 1) := by decide +kernel
theorem dX9_init_76 : decode cX9_init 76 = .ok (.bipush 6, 2) := by decide +kernel
theorem dX9_init_78 : decode cX9_init 78 = .ok (.newarray .int, 2) := by decide +kernel
theorem dX9_init_80 : decode cX9_init 80 = .ok (.putfield 37, 3) := by decide +kernel
theorem dX9_init_83 : decode cX9_init 83 = .ok (.aload_n 0, 1) := by decide +kernel
theorem dX9_init_84 : decode cX9_init 84 = .ok (.bipush 6, 2) := by decide +kernel
theorem dX9_init_86 : decode cX9_init 86 = .ok (.newarray .int, 2) := by decide +kernel
theorem dX9_init_88 : decode cX9_init 88 = .ok (.putfield 40, 3) := by decide +kernel
theorem dX9_init_91 : decode cX9_init 91 = .ok (.aload_n 0, 1) := by decide +kernel
theorem dX9_init_92 : decode cX9_init 92 = .ok (.bipush 6, 2) := by decide +kernel
theorem dX9_init_94 : decode cX9_init 94 = .ok (.newarray .int, 2) := by decide +kernel
theorem dX9_init_96 : decode cX9_init 96 = .ok (.putfield 43, 3) := by decide +kernel
theorem dX9_init_99 : decode cX9_init 99 = .ok (.aload_n 0, 1) := by decide +kernel
theorem dX9_init_100 : decode cX9_init 100 = .ok (.bipush 6, 2) := by decide +kernel
theorem dX9_init_102 : decode cX9_init 102 = .ok (.newarray .int, 2) := by decide +kernel
theorem dX9_init_104 : decode cX9_init 104 = .ok (.putfield 46, 3) := by decide +kernel
theorem dX9_init_107 : decode cX9_init 107 = .ok (.aload_n 0, 1) := by decide +kernel
theorem dX9_init_108 : decode cX9_init 108 = .ok (.bipush 6, 2) := by decide +kernel
theorem dX9_init_110 : decode cX9_init 110 = .ok (.newarray .int, 2) := by decide +kernel
theorem dX9_init_112 : decode cX9_init 112 = .ok (.putfield 49, 3) := by decide +kernel
theorem dX9_init_115 : decode cX9_init 115 = .ok (.aload_n 0, 1) := by decide +kernel
theorem dX9_init_116 : decode cX9_init 116 = .ok (.bipush 6, 2) := by decide +kernel
theorem dX9_init_118 : decode cX9_init 118 = .ok (.newarray .int, 2) := by decide +kernel
theorem dX9_init_120 : decode cX9_init 120 = .ok (.putfield 52, 3) := by decide +kernel
theorem dX9_init_123 : decode cX9_init 123 = .ok (.aload_n 0, 1) := by decide +kernel
theorem dX9_init_124 : decode cX9_init 124 = .ok (.bipush 32, 2) := by decide +kernel
theorem dX9_init_126 : decode cX9_init 126 = .ok (.newarray .int, 2) := by decide +kernel
theorem dX9_init_128 : decode cX9_init 128 = .ok (.putfield 55, 3) := by decide +kernel
theorem dX9_init_131 : decode cX9_init 131 = .ok (.aload_n 0, 1) := by decide +kernel
theorem dX9_init_132 : decode cX9_init 132 = .ok (.bipush 32, 2) := by decide +kernel
theorem dX9_init_134 : decode cX9_init 134 = .ok (.newarray .int, 2) := by decide +kernel
theorem dX9_init_136 : decode cX9_init 136 = .ok (.putfield 58, 3) := by decide +kernel
theorem dX9_init_139 : decode cX9_init 139 = .ok (.aload_n 0, 1) := by decide +kernel
theorem dX9_init_140 : decode cX9_init 140 = .ok (.bipush 32, 2) := by decide +kernel
theorem dX9_init_142 : decode cX9_init 142 = .ok (.newarray .int, 2) := by decide +kernel
theorem dX9_init_144 : decode cX9_init 144 = .ok (.putfield 61, 3) := by decide +kernel
theorem dX9_init_147 : decode cX9_init 147 = .ok (.aload_n 0, 1) := by decide +kernel
theorem dX9_init_148 : decode cX9_init 148 = .ok (.iconst 4, 1) := by decide +kernel
theorem dX9_init_149 : decode cX9_init 149 = .ok (.newarray .int, 2) := by decide +kernel
theorem dX9_init_151 : decode cX9_init 151 = .ok (.putfield 64, 3) := by decide +kernel
theorem dX9_init_154 : decode cX9_init 154 = .ok (.aload_n 0, 1) := by decide +kernel
theorem dX9_init_155 : decode cX9_init 155 = .ok (.bipush 60, 2) := by decide +kernel
theorem dX9_init_157 : decode cX9_init 157 = .ok (.newarray .int, 2) := by decide +kernel
theorem dX9_init_159 : decode cX9_init 159 = .ok (.putfield 67, 3) := by decide +kernel
theorem dX9_init_162 : decode cX9_init 162 = .ok (.aload_n 0, 1) := by decide +kernel
theorem dX9_init_163 : decode cX9_init 163 = .ok (.bipush 6, 2) := by decide +kernel
theorem dX9_init_165 : decode cX9_init 165 = .ok (.newarray .int, 2) := by decide +kernel
theorem dX9_init_167 : decode cX9_init 167 = .ok (.putfield 70, 3) := by decide +kernel
theorem dX9_init_170 : decode cX9_init 170 = .ok (.aload_n 0, 1) := by decide +kernel
theorem dX9_init_171 : decode cX9_init 171 = .ok (.iconst 4, 1) := by decide +kernel
theorem dX9_init_172 : decode cX9_init 172 = .ok (.newarray .int, 2) := by decide +kernel
theorem dX9_init_174 : decode cX9_init 174 = .ok (.putfield 73, 3) := by decide +kernel
theorem dX9_init_177 : decode cX9_init 177 = .ok (.aload_n 0, 1) := by decide +kernel
theorem dX9_init_178 : decode cX9_init 178 = .ok (.iconst 4, 1) := by decide +kernel
theorem dX9_init_179 : decode cX9_init 179 = .ok (.newarray .int, 2) := by decide +kernel
theorem dX9_init_181 : decode cX9_init 181 = .ok (.putfield 76, 3) := by decide +kernel
theorem dX9_init_184 : decode cX9_init 184 = .ok (.aload_n 0, 1) := by decide +kernel
theorem dX9_init_185 : decode cX9_init 185 = .ok (.sipush 241, 3) := by decide +kernel
theorem dX9_init_188 : decode cX9_init 188 = .ok (.newarray .int, 2) := by decide +kernel
theorem dX9_init_190 : decode cX9_init 190 = .ok (.putfield 79, 3) := by decide +kernel
theorem dX9_init_193 : decode cX9_init 193 = .ok (.aload_n 0, 1) := by decide +kernel
theorem dX9_init_194 : decode cX9_init 194 = .ok (.sipush 360, 3) := by decide +kernel
theorem dX9_init_197 : decode cX9_init 197 = .ok (.newarray .int, 2) := by decide +kernel
theorem dX9_init_199 : decode cX9_init 199 = .ok (.putfield 82, 3) := by decide +kernel
theorem dX9_init_202 : decode cX9_init 202 = .ok (.aload_n 0, 1) := by decide +kernel
theorem dX9_init_203 : decode cX9_init 203 = .ok (.iconst 2, 1) := by decide +kernel
theorem dX9_init_204 : decode cX9_init 204 = .ok (.newarray .boolean, 2) := by decide +kernel
theorem dX9_init_206 : decode cX9_init 206 = .ok (.putfield 85, 3) := by decide +kernel
theorem dX9_init_209 : decode cX9_init 209 = .ok (.aload_n 0, 1) := by decide +kernel
theorem dX9_init_210 : decode cX9_init 210 = .ok (.iconst 1, 1) := by decide +kernel
theorem dX9_init_211 : decode cX9_init 211 = .ok (.putfield 89, 3) := by decide +kernel
theorem dX9_init_214 : decode cX9_init 214 = .ok (.iconst 0, 1) := by decide +kernel
theorem dX9_init_215 : decode cX9_init 215 = .ok (.istore_n 1, 1) := by decide +kernel
theorem dX9_init_216 : decode cX9_init 216 = .ok (.iload_n 1, 1) := by decide +kernel
theorem dX9_init_217 : decode cX9_init 217 = .ok (.bipush 6, 2) := by decide +kernel
theorem dX9_init_219 : decode cX9_init 219 = .ok (.if_icmp .ge 24, 3) := by decide +kernel
theorem dX9_init_222 : decode cX9_init 222 = .ok (.aload_n 0, 1) := by decide +kernel
theorem dX9_init_223 : decode cX9_init 223 = .ok (.getfield 7, 3) := by decide +kernel
theorem dX9_init_226 : decode cX9_init 226 = .ok (.iload_n 1, 1) := by decide +kernel
theorem dX9_init_227 : decode cX9_init 227 = .ok (.bipush 10, 2) := by decide +kernel
theorem dX9_init_229 : decode cX9_init 229 = .ok (.iastore, 1) := by decide +kernel
theorem dX9_init_230 : decode cX9_init 230 = .ok (.aload_n 0, 1) := by decide +kernel
theorem dX9_init_231 : decode cX9_init 231 = .ok (.getfield 13, 3) := by decide +kernel
theorem dX9_init_234 : decode cX9_init 234 = .ok (.iload_n 1, 1) := by decide +kernel
theorem dX9_init_235 : decode cX9_init 235 = .ok (.iconst 5, 1) := by decide +kernel
theorem dX9_init_236 : decode cX9_init 236 = .ok (.iastore, 1) := by decide +kernel
theorem dX9_init_237 : decode cX9_init 237 = .ok (.iinc 1 1, 3) := by decide +kernel
theorem dX9_init_240 : decode cX9_init 240 = .ok (.goto (-24), 3) := by decide +kernel
theorem dX9_init_243 : decode cX9_init 243 = .ok (.return_, 1) := by decide +kernel
theorem dX9_in_0 : decode cX9_in 0 = .ok (.lload_n 0, 1) := by decide +kernel
theorem dX9_in_1 : decode cX9_in 1 = .ok (.lload_n 2, 1) := by decide +kernel
theorem dX9_in_2 : decode cX9_in 2 = .ok (.lcmp, 1) := by decide +kernel
theorem dX9_in_3 : decode cX9_in 3 = .ok (.ifCond .lt 14, 3) := by decide +kernel
theorem dX9_in_6 : decode cX9_in 6 = .ok (.lload_n 0, 1) := by decide +kernel
theorem dX9_in_7 : decode cX9_in 7 = .ok (.lload 4, 2) := by decide +kernel
theorem dX9_in_9 : decode cX9_in 9 = .ok (.lcmp, 1) := by decide +kernel
theorem dX9_in_10 : decode cX9_in 10 = .ok (.ifCond .gt 7, 3) := by decide +kernel
theorem dX9_in_13 : decode cX9_in 13 = .ok (.iconst 1, 1) := by decide +kernel
theorem dX9_in_14 : decode cX9_in 14 = .ok (.goto 4, 3) := by decide +kernel
theorem dX9_in_17 : decode cX9_in 17 = .ok (.iconst 0, 1) := by decide +kernel
theorem dX9_in_18 : decode cX9_in 18 = .ok (.ireturn, 1) := by decide +kernel
theorem dX9_isMonk_0 : decode cX9_isMonk 0 = .ok (.iload_n 0, 1) := by decide +kernel
theorem dX9_isMonk_1 : decode cX9_isMonk 1 = .ok (.i2l, 1) := by decide +kernel
theorem dX9_isMonk_2 : decode cX9_isMonk 2 = .ok (.lconst 0, 1) := by decide +kernel
theorem dX9_isMonk_3 : decode cX9_isMonk 3 = .ok (.ldc2_w 93, 3) := by decide +kernel
theorem dX9_isMonk_6 : decode cX9_isMonk 6 = .ok (.invokestatic 95, 3) := by decide +kernel
theorem dX9_isMonk_9 : decode cX9_isMonk 9 = .ok (.ireturn, 1) := by decide +kernel
theorem dX9_isRope_0 : decode cX9_isRope 0 = .ok (.iload_n 0, 1) := by decide +kernel
theorem dX9_isRope_1 : decode cX9_isRope 1 = .ok (.i2l, 1) := by decide +kernel
theorem dX9_isRope_2 : decode cX9_isRope 2 = .ok (.lconst 0, 1) := by decide +kernel
theorem dX9_isRope_3 : decode cX9_isRope 3 = .ok (.ldc2_w 99, 3) := by decide +kernel
theorem dX9_isRope_6 : decode cX9_isRope 6 = .ok (.invokestatic 95, 3) := by decide +kernel
theorem dX9_isRope_9 : decode cX9_isRope 9 = .ok (.ireturn, 1) := by decide +kernel
theorem dX9_layNow_0 : decode cX9_layNow 0 = .ok (.iconst 0, 1) := by decide +kernel
theorem dX9_layNow_1 : decode cX9_layNow 1 = .ok (.istore_n 1, 1) := by decide +kernel
theorem dX9_layNow_2 : decode cX9_layNow 2 = .ok (.iload_n 1, 1) := by decide +kernel
theorem dX9_layNow_3 : decode cX9_layNow 3 = .ok (.bipush 6, 2) := by decide +kernel
theorem dX9_layNow_5 : decode cX9_layNow 5 = .ok (.if_icmp .ge 45, 3) := by decide +kernel
theorem dX9_layNow_8 : decode cX9_layNow 8 = .ok (.aload_n 0, 1) := by decide +kernel
theorem dX9_layNow_9 : decode cX9_layNow 9 = .ok (.getfield 46, 3) := by decide +kernel
theorem dX9_layNow_12 : decode cX9_layNow 12 = .ok (.iload_n 1, 1) := by decide +kernel
theorem dX9_layNow_13 : decode cX9_layNow 13 = .ok (.aload_n 0, 1) := by decide +kernel
theorem dX9_layNow_14 : decode cX9_layNow 14 = .ok (.getfield 7, 3) := by decide +kernel
theorem dX9_layNow_17 : decode cX9_layNow 17 = .ok (.iload_n 1, 1) := by decide +kernel
theorem dX9_layNow_18 : decode cX9_layNow 18 = .ok (.iaload, 1) := by decide +kernel
theorem dX9_layNow_19 : decode cX9_layNow 19 = .ok (.iastore, 1) := by decide +kernel
theorem dX9_layNow_20 : decode cX9_layNow 20 = .ok (.aload_n 0, 1) := by decide +kernel
theorem dX9_layNow_21 : decode cX9_layNow 21 = .ok (.getfield 49, 3) := by decide +kernel
theorem dX9_layNow_24 : decode cX9_layNow 24 = .ok (.iload_n 1, 1) := by decide +kernel
theorem dX9_layNow_25 : decode cX9_layNow 25 = .ok (.aload_n 0, 1) := by decide +kernel
theorem dX9_layNow_26 : decode cX9_layNow 26 = .ok (.getfield 16, 3) := by decide +kernel
theorem dX9_layNow_29 : decode cX9_layNow 29 = .ok (.iload_n 1, 1) := by decide +kernel
theorem dX9_layNow_30 : decode cX9_layNow 30 = .ok (.iaload, 1) := by decide +kernel
theorem dX9_layNow_31 : decode cX9_layNow 31 = .ok (.iastore, 1) := by decide +kernel
theorem dX9_layNow_32 : decode cX9_layNow 32 = .ok (.aload_n 0, 1) := by decide +kernel
theorem dX9_layNow_33 : decode cX9_layNow 33 = .ok (.getfield 52, 3) := by decide +kernel
theorem dX9_layNow_36 : decode cX9_layNow 36 = .ok (.iload_n 1, 1) := by decide +kernel
theorem dX9_layNow_37 : decode cX9_layNow 37 = .ok (.aload_n 0, 1) := by decide +kernel
theorem dX9_layNow_38 : decode cX9_layNow 38 = .ok (.getfield 19, 3) := by decide +kernel
theorem dX9_layNow_41 : decode cX9_layNow 41 = .ok (.iload_n 1, 1) := by decide +kernel
theorem dX9_layNow_42 : decode cX9_layNow 42 = .ok (.iaload, 1) := by decide +kernel
theorem dX9_layNow_43 : decode cX9_layNow 43 = .ok (.iastore, 1) := by decide +kernel
theorem dX9_layNow_44 : decode cX9_layNow 44 = .ok (.iinc 1 1, 3) := by decide +kernel
theorem dX9_layNow_47 : decode cX9_layNow 47 = .ok (.goto (-45), 3) := by decide +kernel
theorem dX9_layNow_50 : decode cX9_layNow 50 = .ok (.iconst 0, 1) := by decide +kernel
theorem dX9_layNow_51 : decode cX9_layNow 51 = .ok (.istore_n 1, 1) := by decide +kernel
theorem dX9_layNow_52 : decode cX9_layNow 52 = .ok (.iload_n 1, 1) := by decide +kernel
theorem dX9_layNow_53 : decode cX9_layNow 53 = .ok (.bipush 32, 2) := by decide +kernel
theorem dX9_layNow_55 : decode cX9_layNow 55 = .ok (.if_icmp .ge 45, 3) := by decide +kernel
theorem dX9_layNow_58 : decode cX9_layNow 58 = .ok (.aload_n 0, 1) := by decide +kernel
theorem dX9_layNow_59 : decode cX9_layNow 59 = .ok (.getfield 55, 3) := by decide +kernel
theorem dX9_layNow_62 : decode cX9_layNow 62 = .ok (.iload_n 1, 1) := by decide +kernel
theorem dX9_layNow_63 : decode cX9_layNow 63 = .ok (.aload_n 0, 1) := by decide +kernel
theorem dX9_layNow_64 : decode cX9_layNow 64 = .ok (.getfield 22, 3) := by decide +kernel
theorem dX9_layNow_67 : decode cX9_layNow 67 = .ok (.iload_n 1, 1) := by decide +kernel
theorem dX9_layNow_68 : decode cX9_layNow 68 = .ok (.iaload, 1) := by decide +kernel
theorem dX9_layNow_69 : decode cX9_layNow 69 = .ok (.iastore, 1) := by decide +kernel
theorem dX9_layNow_70 : decode cX9_layNow 70 = .ok (.aload_n 0, 1) := by decide +kernel
theorem dX9_layNow_71 : decode cX9_layNow 71 = .ok (.getfield 58, 3) := by decide +kernel
theorem dX9_layNow_74 : decode cX9_layNow 74 = .ok (.iload_n 1, 1) := by decide +kernel
theorem dX9_layNow_75 : decode cX9_layNow 75 = .ok (.aload_n 0, 1) := by decide +kernel
theorem dX9_layNow_76 : decode cX9_layNow 76 = .ok (.getfield 25, 3) := by decide +kernel
theorem dX9_layNow_79 : decode cX9_layNow 79 = .ok (.iload_n 1, 1) := by decide +kernel
theorem dX9_layNow_80 : decode cX9_layNow 80 = .ok (.iaload, 1) := by decide +kernel
theorem dX9_layNow_81 : decode cX9_layNow 81 = .ok (.iastore, 1) := by decide +kernel
theorem dX9_layNow_82 : decode cX9_layNow 82 = .ok (.aload_n 0, 1) := by decide +kernel
theorem dX9_layNow_83 : decode cX9_layNow 83 = .ok (.getfield 61, 3) := by decide +kernel
theorem dX9_layNow_86 : decode cX9_layNow 86 = .ok (.iload_n 1, 1) := by decide +kernel
theorem dX9_layNow_87 : decode cX9_layNow 87 = .ok (.aload_n 0, 1) := by decide +kernel
theorem dX9_layNow_88 : decode cX9_layNow 88 = .ok (.getfield 28, 3) := by decide +kernel
theorem dX9_layNow_91 : decode cX9_layNow 91 = .ok (.iload_n 1, 1) := by decide +kernel
theorem dX9_layNow_92 : decode cX9_layNow 92 = .ok (.iaload, 1) := by decide +kernel
theorem dX9_layNow_93 : decode cX9_layNow 93 = .ok (.iastore, 1) := by decide +kernel
theorem dX9_layNow_94 : decode cX9_layNow 94 = .ok (.iinc 1 1, 3) := by decide +kernel
theorem dX9_layNow_97 : decode cX9_layNow 97 = .ok (.goto (-45), 3) := by decide +kernel
theorem dX9_layNow_100 : decode cX9_layNow 100 = .ok (.iconst 0, 1) := by decide +kernel
theorem dX9_layNow_101 : decode cX9_layNow 101 = .ok (.istore_n 1, 1) := by decide +kernel
theorem dX9_layNow_102 : decode cX9_layNow 102 = .ok (.iload_n 1, 1) := by decide +kernel
theorem dX9_layNow_103 : decode cX9_layNow 103 = .ok (.iconst 4, 1) := by decide +kernel
theorem dX9_layNow_104 : decode cX9_layNow 104 = .ok (.if_icmp .ge 21, 3) := by decide +kernel
theorem dX9_layNow_107 : decode cX9_layNow 107 = .ok (.aload_n 0, 1) := by decide +kernel
theorem dX9_layNow_108 : decode cX9_layNow 108 = .ok (.getfield 64, 3) := by decide +kernel
theorem dX9_layNow_111 : decode cX9_layNow 111 = .ok (.iload_n 1, 1) := by decide +kernel
theorem dX9_layNow_112 : decode cX9_layNow 112 = .ok (.aload_n 0, 1) := by decide +kernel
theorem dX9_layNow_113 : decode cX9_layNow 113 = .ok (.getfield 31, 3) := by decide +kernel
theorem dX9_layNow_116 : decode cX9_layNow 116 = .ok (.iload_n 1, 1) := by decide +kernel
theorem dX9_layNow_117 : decode cX9_layNow 117 = .ok (.iaload, 1) := by decide +kernel
theorem dX9_layNow_118 : decode cX9_layNow 118 = .ok (.iastore, 1) := by decide +kernel
theorem dX9_layNow_119 : decode cX9_layNow 119 = .ok (.iinc 1 1, 3) := by decide +kernel
theorem dX9_layNow_122 : decode cX9_layNow 122 = .ok (.goto (-20), 3) := by decide +kernel
theorem dX9_layNow_125 : decode cX9_layNow 125 = .ok (.aload_n 0, 1) := by decide +kernel
theorem dX9_layNow_126 : decode cX9_layNow 126 = .ok (.aload_n 0, 1) := by decide +kernel
theorem dX9_layNow_127 : decode cX9_layNow 127 = .ok (.getfield 101, 3) := by decide +kernel
theorem dX9_layNow_130 : decode cX9_layNow 130 = .ok (.putfield 104, 3) := by decide +kernel
theorem dX9_layNow_133 : decode cX9_layNow 133 = .ok (.return_, 1) := by decide +kernel
theorem dX9_keepTried_0 : decode cX9_keepTried 0 = .ok (.iconst 0, 1) := by decide +kernel
theorem dX9_keepTried_1 : decode cX9_keepTried 1 = .ok (.istore_n 1, 1) := by decide +kernel
theorem dX9_keepTried_2 : decode cX9_keepTried 2 = .ok (.iload_n 1, 1) := by decide +kernel
theorem dX9_keepTried_3 : decode cX9_keepTried 3 = .ok (.bipush 6, 2) := by decide +kernel
theorem dX9_keepTried_5 : decode cX9_keepTried 5 = .ok (.if_icmp .ge 45, 3) := by decide +kernel
theorem dX9_keepTried_8 : decode cX9_keepTried 8 = .ok (.aload_n 0, 1) := by decide +kernel
theorem dX9_keepTried_9 : decode cX9_keepTried 9 = .ok (.getfield 7, 3) := by decide +kernel
theorem dX9_keepTried_12 : decode cX9_keepTried 12 = .ok (.iload_n 1, 1) := by decide +kernel
theorem dX9_keepTried_13 : decode cX9_keepTried 13 = .ok (.aload_n 0, 1) := by decide +kernel
theorem dX9_keepTried_14 : decode cX9_keepTried 14 = .ok (.getfield 46, 3) := by decide +kernel
theorem dX9_keepTried_17 : decode cX9_keepTried 17 = .ok (.iload_n 1, 1) := by decide +kernel
theorem dX9_keepTried_18 : decode cX9_keepTried 18 = .ok (.iaload, 1) := by decide +kernel
theorem dX9_keepTried_19 : decode cX9_keepTried 19 = .ok (.iastore, 1) := by decide +kernel
theorem dX9_keepTried_20 : decode cX9_keepTried 20 = .ok (.aload_n 0, 1) := by decide +kernel
theorem dX9_keepTried_21 : decode cX9_keepTried 21 = .ok (.getfield 16, 3) := by decide +kernel
theorem dX9_keepTried_24 : decode cX9_keepTried 24 = .ok (.iload_n 1, 1) := by decide +kernel
theorem dX9_keepTried_25 : decode cX9_keepTried 25 = .ok (.aload_n 0, 1) := by decide +kernel
theorem dX9_keepTried_26 : decode cX9_keepTried 26 = .ok (.getfield 49, 3) := by decide +kernel
theorem dX9_keepTried_29 : decode cX9_keepTried 29 = .ok (.iload_n 1, 1) := by decide +kernel
theorem dX9_keepTried_30 : decode cX9_keepTried 30 = .ok (.iaload, 1) := by decide +kernel
theorem dX9_keepTried_31 : decode cX9_keepTried 31 = .ok (.iastore, 1) := by decide +kernel
theorem dX9_keepTried_32 : decode cX9_keepTried 32 = .ok (.aload_n 0, 1) := by decide +kernel
theorem dX9_keepTried_33 : decode cX9_keepTried 33 = .ok (.getfield 19, 3) := by decide +kernel
theorem dX9_keepTried_36 : decode cX9_keepTried 36 = .ok (.iload_n 1, 1) := by decide +kernel
theorem dX9_keepTried_37 : decode cX9_keepTried 37 = .ok (.aload_n 0, 1) := by decide +kernel
theorem dX9_keepTried_38 : decode cX9_keepTried 38 = .ok (.getfield 52, 3) := by decide +kernel
theorem dX9_keepTried_41 : decode cX9_keepTried 41 = .ok (.iload_n 1, 1) := by decide +kernel
theorem dX9_keepTried_42 : decode cX9_keepTried 42 = .ok (.iaload, 1) := by decide +kernel
theorem dX9_keepTried_43 : decode cX9_keepTried 43 = .ok (.iastore, 1) := by decide +kernel
theorem dX9_keepTried_44 : decode cX9_keepTried 44 = .ok (.iinc 1 1, 3) := by decide +kernel
theorem dX9_keepTried_47 : decode cX9_keepTried 47 = .ok (.goto (-45), 3) := by decide +kernel
theorem dX9_keepTried_50 : decode cX9_keepTried 50 = .ok (.iconst 0, 1) := by decide +kernel
theorem dX9_keepTried_51 : decode cX9_keepTried 51 = .ok (.istore_n 1, 1) := by decide +kernel
theorem dX9_keepTried_52 : decode cX9_keepTried 52 = .ok (.iload_n 1, 1) := by decide +kernel
theorem dX9_keepTried_53 : decode cX9_keepTried 53 = .ok (.bipush 32, 2) := by decide +kernel
theorem dX9_keepTried_55 : decode cX9_keepTried 55 = .ok (.if_icmp .ge 45, 3) := by decide +kernel
theorem dX9_keepTried_58 : decode cX9_keepTried 58 = .ok (.aload_n 0, 1) := by decide +kernel
theorem dX9_keepTried_59 : decode cX9_keepTried 59 = .ok (.getfield 22, 3) := by decide +kernel
theorem dX9_keepTried_62 : decode cX9_keepTried 62 = .ok (.iload_n 1, 1) := by decide +kernel
theorem dX9_keepTried_63 : decode cX9_keepTried 63 = .ok (.aload_n 0, 1) := by decide +kernel
theorem dX9_keepTried_64 : decode cX9_keepTried 64 = .ok (.getfield 55, 3) := by decide +kernel
theorem dX9_keepTried_67 : decode cX9_keepTried 67 = .ok (.iload_n 1, 1) := by decide +kernel
theorem dX9_keepTried_68 : decode cX9_keepTried 68 = .ok (.iaload, 1) := by decide +kernel
theorem dX9_keepTried_69 : decode cX9_keepTried 69 = .ok (.iastore, 1) := by decide +kernel
theorem dX9_keepTried_70 : decode cX9_keepTried 70 = .ok (.aload_n 0, 1) := by decide +kernel
theorem dX9_keepTried_71 : decode cX9_keepTried 71 = .ok (.getfield 25, 3) := by decide +kernel
theorem dX9_keepTried_74 : decode cX9_keepTried 74 = .ok (.iload_n 1, 1) := by decide +kernel
theorem dX9_keepTried_75 : decode cX9_keepTried 75 = .ok (.aload_n 0, 1) := by decide +kernel
theorem dX9_keepTried_76 : decode cX9_keepTried 76 = .ok (.getfield 58, 3) := by decide +kernel
theorem dX9_keepTried_79 : decode cX9_keepTried 79 = .ok (.iload_n 1, 1) := by decide +kernel
theorem dX9_keepTried_80 : decode cX9_keepTried 80 = .ok (.iaload, 1) := by decide +kernel
theorem dX9_keepTried_81 : decode cX9_keepTried 81 = .ok (.iastore, 1) := by decide +kernel
theorem dX9_keepTried_82 : decode cX9_keepTried 82 = .ok (.aload_n 0, 1) := by decide +kernel
theorem dX9_keepTried_83 : decode cX9_keepTried 83 = .ok (.getfield 28, 3) := by decide +kernel
theorem dX9_keepTried_86 : decode cX9_keepTried 86 = .ok (.iload_n 1, 1) := by decide +kernel
theorem dX9_keepTried_87 : decode cX9_keepTried 87 = .ok (.aload_n 0, 1) := by decide +kernel
theorem dX9_keepTried_88 : decode cX9_keepTried 88 = .ok (.getfield 61, 3) := by decide +kernel
theorem dX9_keepTried_91 : decode cX9_keepTried 91 = .ok (.iload_n 1, 1) := by decide +kernel
theorem dX9_keepTried_92 : decode cX9_keepTried 92 = .ok (.iaload, 1) := by decide +kernel
theorem dX9_keepTried_93 : decode cX9_keepTried 93 = .ok (.iastore, 1) := by decide +kernel
theorem dX9_keepTried_94 : decode cX9_keepTried 94 = .ok (.iinc 1 1, 3) := by decide +kernel
theorem dX9_keepTried_97 : decode cX9_keepTried 97 = .ok (.goto (-45), 3) := by decide +kernel
theorem dX9_keepTried_100 : decode cX9_keepTried 100 = .ok (.iconst 0, 1) := by decide +kernel
theorem dX9_keepTried_101 : decode cX9_keepTried 101 = .ok (.istore_n 1, 1) := by decide +kernel
theorem dX9_keepTried_102 : decode cX9_keepTried 102 = .ok (.iload_n 1, 1) := by decide +kernel
theorem dX9_keepTried_103 : decode cX9_keepTried 103 = .ok (.iconst 4, 1) := by decide +kernel
theorem dX9_keepTried_104 : decode cX9_keepTried 104 = .ok (.if_icmp .ge 21, 3) := by decide +kernel
theorem dX9_keepTried_107 : decode cX9_keepTried 107 = .ok (.aload_n 0, 1) := by decide +kernel
theorem dX9_keepTried_108 : decode cX9_keepTried 108 = .ok (.getfield 31, 3) := by decide +kernel
theorem dX9_keepTried_111 : decode cX9_keepTried 111 = .ok (.iload_n 1, 1) := by decide +kernel
theorem dX9_keepTried_112 : decode cX9_keepTried 112 = .ok (.aload_n 0, 1) := by decide +kernel
theorem dX9_keepTried_113 : decode cX9_keepTried 113 = .ok (.getfield 64, 3) := by decide +kernel
theorem dX9_keepTried_116 : decode cX9_keepTried 116 = .ok (.iload_n 1, 1) := by decide +kernel
theorem dX9_keepTried_117 : decode cX9_keepTried 117 = .ok (.iaload, 1) := by decide +kernel
theorem dX9_keepTried_118 : decode cX9_keepTried 118 = .ok (.iastore, 1) := by decide +kernel
theorem dX9_keepTried_119 : decode cX9_keepTried 119 = .ok (.iinc 1 1, 3) := by decide +kernel
theorem dX9_keepTried_122 : decode cX9_keepTried 122 = .ok (.goto (-20), 3) := by decide +kernel
theorem dX9_keepTried_125 : decode cX9_keepTried 125 = .ok (.aload_n 0, 1) := by decide +kernel
theorem dX9_keepTried_126 : decode cX9_keepTried 126 = .ok (.aload_n 0, 1) := by decide +kernel
theorem dX9_keepTried_127 : decode cX9_keepTried 127 = .ok (.getfield 104, 3) := by decide +kernel
theorem dX9_keepTried_130 : decode cX9_keepTried 130 = .ok (.putfield 101, 3) := by decide +kernel
theorem dX9_keepTried_133 : decode cX9_keepTried 133 = .ok (.return_, 1) := by decide +kernel
theorem dX9_dropFirst_0 : decode cX9_dropFirst 0 = .ok (.aload_n 0, 1) := by decide +kernel
theorem dX9_dropFirst_1 : decode cX9_dropFirst 1 = .ok (.getfield 64, 3) := by decide +kernel
theorem dX9_dropFirst_4 : decode cX9_dropFirst 4 = .ok (.iload_n 1, 1) := by decide +kernel
theorem dX9_dropFirst_5 : decode cX9_dropFirst 5 = .ok (.dup2, 1) := by decide +kernel
theorem dX9_dropFirst_6 : decode cX9_dropFirst 6 = .ok (.iaload, 1) := by decide +kernel
theorem dX9_dropFirst_7 : decode cX9_dropFirst 7 = .ok (.iconst 1, 1) := by decide +kernel
theorem dX9_dropFirst_8 : decode cX9_dropFirst 8 = .ok (.isub, 1) := by decide +kernel
theorem dX9_dropFirst_9 : decode cX9_dropFirst 9 = .ok (.iastore, 1) := by decide +kernel
theorem dX9_dropFirst_10 : decode cX9_dropFirst 10 = .ok (.bipush 8, 2) := by decide +kernel
theorem dX9_dropFirst_12 : decode cX9_dropFirst 12 = .ok (.iload_n 1, 1) := by decide +kernel
theorem dX9_dropFirst_13 : decode cX9_dropFirst 13 = .ok (.imul, 1) := by decide +kernel
theorem dX9_dropFirst_14 : decode cX9_dropFirst 14 = .ok (.istore_n 2, 1) := by decide +kernel
theorem dX9_dropFirst_15 : decode cX9_dropFirst 15 = .ok (.iload_n 2, 1) := by decide +kernel
theorem dX9_dropFirst_16 : decode cX9_dropFirst 16 = .ok (.bipush 8, 2) := by decide +kernel
theorem dX9_dropFirst_18 : decode cX9_dropFirst 18 = .ok (.iload_n 1, 1) := by decide +kernel
theorem dX9_dropFirst_19 : decode cX9_dropFirst 19 = .ok (.imul, 1) := by decide +kernel
theorem dX9_dropFirst_20 : decode cX9_dropFirst 20 = .ok (.aload_n 0, 1) := by decide +kernel
theorem dX9_dropFirst_21 : decode cX9_dropFirst 21 = .ok (.getfield 64, 3) := by decide +kernel
theorem dX9_dropFirst_24 : decode cX9_dropFirst 24 = .ok (.iload_n 1, 1) := by decide +kernel
theorem dX9_dropFirst_25 : decode cX9_dropFirst 25 = .ok (.iaload, 1) := by decide +kernel
theorem dX9_dropFirst_26 : decode cX9_dropFirst 26 = .ok (.iadd, 1) := by decide +kernel
theorem dX9_dropFirst_27 : decode cX9_dropFirst 27 = .ok (.if_icmp .ge 51, 3) := by decide +kernel
theorem dX9_dropFirst_30 : decode cX9_dropFirst 30 = .ok (.aload_n 0, 1) := by decide +kernel
theorem dX9_dropFirst_31 : decode cX9_dropFirst 31 = .ok (.getfield 55, 3) := by decide +kernel
theorem dX9_dropFirst_34 : decode cX9_dropFirst 34 = .ok (.iload_n 2, 1) := by decide +kernel
theorem dX9_dropFirst_35 : decode cX9_dropFirst 35 = .ok (.aload_n 0, 1) := by decide +kernel
theorem dX9_dropFirst_36 : decode cX9_dropFirst 36 = .ok (.getfield 55, 3) := by decide +kernel
theorem dX9_dropFirst_39 : decode cX9_dropFirst 39 = .ok (.iload_n 2, 1) := by decide +kernel
theorem dX9_dropFirst_40 : decode cX9_dropFirst 40 = .ok (.iconst 1, 1) := by decide +kernel
theorem dX9_dropFirst_41 : decode cX9_dropFirst 41 = .ok (.iadd, 1) := by decide +kernel
theorem dX9_dropFirst_42 : decode cX9_dropFirst 42 = .ok (.iaload, 1) := by decide +kernel
theorem dX9_dropFirst_43 : decode cX9_dropFirst 43 = .ok (.iastore, 1) := by decide +kernel
theorem dX9_dropFirst_44 : decode cX9_dropFirst 44 = .ok (.aload_n 0, 1) := by decide +kernel
theorem dX9_dropFirst_45 : decode cX9_dropFirst 45 = .ok (.getfield 58, 3) := by decide +kernel
theorem dX9_dropFirst_48 : decode cX9_dropFirst 48 = .ok (.iload_n 2, 1) := by decide +kernel
theorem dX9_dropFirst_49 : decode cX9_dropFirst 49 = .ok (.aload_n 0, 1) := by decide +kernel
theorem dX9_dropFirst_50 : decode cX9_dropFirst 50 = .ok (.getfield 58, 3) := by decide +kernel
theorem dX9_dropFirst_53 : decode cX9_dropFirst 53 = .ok (.iload_n 2, 1) := by decide +kernel
theorem dX9_dropFirst_54 : decode cX9_dropFirst 54 = .ok (.iconst 1, 1) := by decide +kernel
theorem dX9_dropFirst_55 : decode cX9_dropFirst 55 = .ok (.iadd, 1) := by decide +kernel
theorem dX9_dropFirst_56 : decode cX9_dropFirst 56 = .ok (.iaload, 1) := by decide +kernel
theorem dX9_dropFirst_57 : decode cX9_dropFirst 57 = .ok (.iastore, 1) := by decide +kernel
theorem dX9_dropFirst_58 : decode cX9_dropFirst 58 = .ok (.aload_n 0, 1) := by decide +kernel
theorem dX9_dropFirst_59 : decode cX9_dropFirst 59 = .ok (.getfield 61, 3) := by decide +kernel
theorem dX9_dropFirst_62 : decode cX9_dropFirst 62 = .ok (.iload_n 2, 1) := by decide +kernel
theorem dX9_dropFirst_63 : decode cX9_dropFirst 63 = .ok (.aload_n 0, 1) := by decide +kernel
theorem dX9_dropFirst_64 : decode cX9_dropFirst 64 = .ok (.getfield 61, 3) := by decide +kernel
theorem dX9_dropFirst_67 : decode cX9_dropFirst 67 = .ok (.iload_n 2, 1) := by decide +kernel
theorem dX9_dropFirst_68 : decode cX9_dropFirst 68 = .ok (.iconst 1, 1) := by decide +kernel
theorem dX9_dropFirst_69 : decode cX9_dropFirst 69 = .ok (.iadd, 1) := by decide +kernel
theorem dX9_dropFirst_70 : decode cX9_dropFirst 70 = .ok (.iaload, 1) := by decide +kernel
theorem dX9_dropFirst_71 : decode cX9_dropFirst 71 = .ok (.iastore, 1) := by decide +kernel
theorem dX9_dropFirst_72 : decode cX9_dropFirst 72 = .ok (.iinc 2 1, 3) := by decide +kernel
theorem dX9_dropFirst_75 : decode cX9_dropFirst 75 = .ok (.goto (-60), 3) := by decide +kernel
theorem dX9_dropFirst_78 : decode cX9_dropFirst 78 = .ok (.return_, 1) := by decide +kernel
theorem dX9_lose_0 : decode cX9_lose 0 = .ok (.iconst 0, 1) := by decide +kernel
theorem dX9_lose_1 : decode cX9_lose 1 = .ok (.istore_n 2, 1) := by decide +kernel
theorem dX9_lose_2 : decode cX9_lose 2 = .ok (.iload_n 2, 1) := by decide +kernel
theorem dX9_lose_3 : decode cX9_lose 3 = .ok (.iconst 4, 1) := by decide +kernel
theorem dX9_lose_4 : decode cX9_lose 4 = .ok (.if_icmp .ge 106, 3) := by decide +kernel
theorem dX9_lose_7 : decode cX9_lose 7 = .ok (.iload_n 1, 1) := by decide +kernel
theorem dX9_lose_8 : decode cX9_lose 8 = .ok (.istore_n 3, 1) := by decide +kernel
theorem dX9_lose_9 : decode cX9_lose 9 = .ok (.iload_n 3, 1) := by decide +kernel
theorem dX9_lose_10 : decode cX9_lose 10 = .ok (.ifCond .le 94, 3) := by decide +kernel
theorem dX9_lose_13 : decode cX9_lose 13 = .ok (.aload_n 0, 1) := by decide +kernel
theorem dX9_lose_14 : decode cX9_lose 14 = .ok (.getfield 64, 3) := by decide +kernel
theorem dX9_lose_17 : decode cX9_lose 17 = .ok (.iload_n 2, 1) := by decide +kernel
theorem dX9_lose_18 : decode cX9_lose 18 = .ok (.iaload, 1) := by decide +kernel
theorem dX9_lose_19 : decode cX9_lose 19 = .ok (.ifCond .le 85, 3) := by decide +kernel
theorem dX9_lose_22 : decode cX9_lose 22 = .ok (.bipush 8, 2) := by decide +kernel
theorem dX9_lose_24 : decode cX9_lose 24 = .ok (.iload_n 2, 1) := by decide +kernel
theorem dX9_lose_25 : decode cX9_lose 25 = .ok (.imul, 1) := by decide +kernel
theorem dX9_lose_26 : decode cX9_lose 26 = .ok (.istore 4, 2) := by decide +kernel
theorem dX9_lose_28 : decode cX9_lose 28 = .ok (.aload_n 0, 1) := by decide +kernel
theorem dX9_lose_29 : decode cX9_lose 29 = .ok (.getfield 58, 3) := by decide +kernel
theorem dX9_lose_32 : decode cX9_lose 32 = .ok (.iload 4, 2) := by decide +kernel
theorem dX9_lose_34 : decode cX9_lose 34 = .ok (.iaload, 1) := by decide +kernel
theorem dX9_lose_35 : decode cX9_lose 35 = .ok (.iload_n 3, 1) := by decide +kernel
theorem dX9_lose_36 : decode cX9_lose 36 = .ok (.if_icmp .ge 13, 3) := by decide +kernel
theorem dX9_lose_39 : decode cX9_lose 39 = .ok (.aload_n 0, 1) := by decide +kernel
theorem dX9_lose_40 : decode cX9_lose 40 = .ok (.getfield 58, 3) := by decide +kernel
theorem dX9_lose_43 : decode cX9_lose 43 = .ok (.iload 4, 2) := by decide +kernel
theorem dX9_lose_45 : decode cX9_lose 45 = .ok (.iaload, 1) := by decide +kernel
theorem dX9_lose_46 : decode cX9_lose 46 = .ok (.goto 4, 3) := by decide +kernel
theorem dX9_lose_49 : decode cX9_lose 49 = .ok (.iload_n 3, 1) := by decide +kernel
theorem dX9_lose_50 : decode cX9_lose 50 = .ok (.istore 5, 2) := by decide +kernel
theorem dX9_lose_52 : decode cX9_lose 52 = .ok (.iload_n 3, 1) := by decide +kernel
theorem dX9_lose_53 : decode cX9_lose 53 = .ok (.iload 5, 2) := by decide +kernel
theorem dX9_lose_55 : decode cX9_lose 55 = .ok (.isub, 1) := by decide +kernel
theorem dX9_lose_56 : decode cX9_lose 56 = .ok (.istore_n 3, 1) := by decide +kernel
theorem dX9_lose_57 : decode cX9_lose 57 = .ok (.aload_n 0, 1) := by decide +kernel
theorem dX9_lose_58 : decode cX9_lose 58 = .ok (.getfield 52, 3) := by decide +kernel
theorem dX9_lose_61 : decode cX9_lose 61 = .ok (.aload_n 0, 1) := by decide +kernel
theorem dX9_lose_62 : decode cX9_lose 62 = .ok (.getfield 55, 3) := by decide +kernel
theorem dX9_lose_65 : decode cX9_lose 65 = .ok (.iload 4, 2) := by decide +kernel
theorem dX9_lose_67 : decode cX9_lose 67 = .ok (.iaload, 1) := by decide +kernel
theorem dX9_lose_68 : decode cX9_lose 68 = .ok (.dup2, 1) := by decide +kernel
theorem dX9_lose_69 : decode cX9_lose 69 = .ok (.iaload, 1) := by decide +kernel
theorem dX9_lose_70 : decode cX9_lose 70 = .ok (.iload 5, 2) := by decide +kernel
theorem dX9_lose_72 : decode cX9_lose 72 = .ok (.iadd, 1) := by decide +kernel
theorem dX9_lose_73 : decode cX9_lose 73 = .ok (.iastore, 1) := by decide +kernel
theorem dX9_lose_74 : decode cX9_lose 74 = .ok (.aload_n 0, 1) := by decide +kernel
theorem dX9_lose_75 : decode cX9_lose 75 = .ok (.getfield 58, 3) := by decide +kernel
theorem dX9_lose_78 : decode cX9_lose 78 = .ok (.iload 4, 2) := by decide +kernel
theorem dX9_lose_80 : decode cX9_lose 80 = .ok (.dup2, 1) := by decide +kernel
theorem dX9_lose_81 : decode cX9_lose 81 = .ok (.iaload, 1) := by decide +kernel
theorem dX9_lose_82 : decode cX9_lose 82 = .ok (.iload 5, 2) := by decide +kernel
theorem dX9_lose_84 : decode cX9_lose 84 = .ok (.isub, 1) := by decide +kernel
theorem dX9_lose_85 : decode cX9_lose 85 = .ok (.iastore, 1) := by decide +kernel
theorem dX9_lose_86 : decode cX9_lose 86 = .ok (.aload_n 0, 1) := by decide +kernel
theorem dX9_lose_87 : decode cX9_lose 87 = .ok (.getfield 58, 3) := by decide +kernel
theorem dX9_lose_90 : decode cX9_lose 90 = .ok (.iload 4, 2) := by decide +kernel
theorem dX9_lose_92 : decode cX9_lose 92 = .ok (.iaload, 1) := by decide +kernel
theorem dX9_lose_93 : decode cX9_lose 93 = .ok (.ifCond .ne 8, 3) := by decide +kernel
theorem dX9_lose_96 : decode cX9_lose 96 = .ok (.aload_n 0, 1) := by decide +kernel
theorem dX9_lose_97 : decode cX9_lose 97 = .ok (.iload_n 2, 1) := by decide +kernel
theorem dX9_lose_98 : decode cX9_lose 98 = .ok (.invokevirtual 107, 3) := by decide +kernel
theorem dX9_lose_101 : decode cX9_lose 101 = .ok (.goto (-92), 3) := by decide +kernel
theorem dX9_lose_104 : decode cX9_lose 104 = .ok (.iinc 2 1, 3) := by decide +kernel
theorem dX9_lose_107 : decode cX9_lose 107 = .ok (.goto (-105), 3) := by decide +kernel
theorem dX9_lose_110 : decode cX9_lose 110 = .ok (.return_, 1) := by decide +kernel
theorem dX9_goWeek_0 : decode cX9_goWeek 0 = .ok (.aload_n 0, 1) := by decide +kernel
theorem dX9_goWeek_1 : decode cX9_goWeek 1 = .ok (.aload_n 0, 1) := by decide +kernel
theorem dX9_goWeek_2 : decode cX9_goWeek 2 = .ok (.getfield 89, 3) := by decide +kernel
theorem dX9_goWeek_5 : decode cX9_goWeek 5 = .ok (.invokevirtual 111, 3) := by decide +kernel
theorem dX9_goWeek_8 : decode cX9_goWeek 8 = .ok (.aload_n 0, 1) := by decide +kernel
theorem dX9_goWeek_9 : decode cX9_goWeek 9 = .ok (.dup, 1) := by decide +kernel
theorem dX9_goWeek_10 : decode cX9_goWeek 10 = .ok (.getfield 104, 3) := by decide +kernel
theorem dX9_goWeek_13 : decode cX9_goWeek 13 = .ok (.iconst 1, 1) := by decide +kernel
theorem dX9_goWeek_14 : decode cX9_goWeek 14 = .ok (.iadd, 1) := by decide +kernel
theorem dX9_goWeek_15 : decode cX9_goWeek 15 = .ok (.putfield 104, 3) := by decide +kernel
theorem dX9_goWeek_18 : decode cX9_goWeek 18 = .ok (.return_, 1) := by decide +kernel
theorem dX9_weave_0 : decode cX9_weave 0 = .ok (.bipush 8, 2) := by decide +kernel
theorem dX9_weave_2 : decode cX9_weave 2 = .ok (.iload_n 2, 1) := by decide +kernel
theorem dX9_weave_3 : decode cX9_weave 3 = .ok (.imul, 1) := by decide +kernel
theorem dX9_weave_4 : decode cX9_weave 4 = .ok (.aload_n 0, 1) := by decide +kernel
theorem dX9_weave_5 : decode cX9_weave 5 = .ok (.getfield 64, 3) := by decide +kernel
theorem dX9_weave_8 : decode cX9_weave 8 = .ok (.iload_n 2, 1) := by decide +kernel
theorem dX9_weave_9 : decode cX9_weave 9 = .ok (.iaload, 1) := by decide +kernel
theorem dX9_weave_10 : decode cX9_weave 10 = .ok (.iadd, 1) := by decide +kernel
theorem dX9_weave_11 : decode cX9_weave 11 = .ok (.istore_n 3, 1) := by decide +kernel
theorem dX9_weave_12 : decode cX9_weave 12 = .ok (.aload_n 0, 1) := by decide +kernel
theorem dX9_weave_13 : decode cX9_weave 13 = .ok (.getfield 55, 3) := by decide +kernel
theorem dX9_weave_16 : decode cX9_weave 16 = .ok (.iload_n 3, 1) := by decide +kernel
theorem dX9_weave_17 : decode cX9_weave 17 = .ok (.iload_n 1, 1) := by decide +kernel
theorem dX9_weave_18 : decode cX9_weave 18 = .ok (.iastore, 1) := by decide +kernel
theorem dX9_weave_19 : decode cX9_weave 19 = .ok (.aload_n 0, 1) := by decide +kernel
theorem dX9_weave_20 : decode cX9_weave 20 = .ok (.getfield 58, 3) := by decide +kernel
theorem dX9_weave_23 : decode cX9_weave 23 = .ok (.iload_n 3, 1) := by decide +kernel
theorem dX9_weave_24 : decode cX9_weave 24 = .ok (.aload_n 0, 1) := by decide +kernel
theorem dX9_weave_25 : decode cX9_weave 25 = .ok (.getfield 49, 3) := by decide +kernel
theorem dX9_weave_28 : decode cX9_weave 28 = .ok (.iload_n 1, 1) := by decide +kernel
theorem dX9_weave_29 : decode cX9_weave 29 = .ok (.iaload, 1) := by decide +kernel
theorem dX9_weave_30 : decode cX9_weave 30 = .ok (.iastore, 1) := by decide +kernel
theorem dX9_weave_31 : decode cX9_weave 31 = .ok (.aload_n 0, 1) := by decide +kernel
theorem dX9_weave_32 : decode cX9_weave 32 = .ok (.getfield 61, 3) := by decide +kernel
theorem dX9_weave_35 : decode cX9_weave 35 = .ok (.iload_n 3, 1) := by decide +kernel
theorem dX9_weave_36 : decode cX9_weave 36 = .ok (.aload_n 0, 1) := by decide +kernel
theorem dX9_weave_37 : decode cX9_weave 37 = .ok (.getfield 104, 3) := by decide +kernel
theorem dX9_weave_40 : decode cX9_weave 40 = .ok (.iastore, 1) := by decide +kernel
theorem dX9_weave_41 : decode cX9_weave 41 = .ok (.aload_n 0, 1) := by decide +kernel
theorem dX9_weave_42 : decode cX9_weave 42 = .ok (.getfield 64, 3) := by decide +kernel
theorem dX9_weave_45 : decode cX9_weave 45 = .ok (.iload_n 2, 1) := by decide +kernel
theorem dX9_weave_46 : decode cX9_weave 46 = .ok (.dup2, 1) := by decide +kernel
theorem dX9_weave_47 : decode cX9_weave 47 = .ok (.iaload, 1) := by decide +kernel
theorem dX9_weave_48 : decode cX9_weave 48 = .ok (.iconst 1, 1) := by decide +kernel
theorem dX9_weave_49 : decode cX9_weave 49 = .ok (.iadd, 1) := by decide +kernel
theorem dX9_weave_50 : decode cX9_weave 50 = .ok (.iastore, 1) := by decide +kernel
theorem dX9_weave_51 : decode cX9_weave 51 = .ok (.aload_n 0, 1) := by decide +kernel
theorem dX9_weave_52 : decode cX9_weave 52 = .ok (.getfield 49, 3) := by decide +kernel
theorem dX9_weave_55 : decode cX9_weave 55 = .ok (.iload_n 1, 1) := by decide +kernel
theorem dX9_weave_56 : decode cX9_weave 56 = .ok (.iconst 0, 1) := by decide +kernel
theorem dX9_weave_57 : decode cX9_weave 57 = .ok (.iastore, 1) := by decide +kernel
theorem dX9_weave_58 : decode cX9_weave 58 = .ok (.return_, 1) := by decide +kernel
theorem dX9_powerOf_0 : decode cX9_powerOf 0 = .ok (.iconst 0, 1) := by decide +kernel
theorem dX9_powerOf_1 : decode cX9_powerOf 1 = .ok (.istore_n 2, 1) := by decide +kernel
theorem dX9_powerOf_2 : decode cX9_powerOf 2 = .ok (.bipush 8, 2) := by decide +kernel
theorem dX9_powerOf_4 : decode cX9_powerOf 4 = .ok (.iload_n 1, 1) := by decide +kernel
theorem dX9_powerOf_5 : decode cX9_powerOf 5 = .ok (.imul, 1) := by decide +kernel
theorem dX9_powerOf_6 : decode cX9_powerOf 6 = .ok (.istore_n 3, 1) := by decide +kernel
theorem dX9_powerOf_7 : decode cX9_powerOf 7 = .ok (.iload_n 3, 1) := by decide +kernel
theorem dX9_powerOf_8 : decode cX9_powerOf 8 = .ok (.bipush 8, 2) := by decide +kernel
theorem dX9_powerOf_10 : decode cX9_powerOf 10 = .ok (.iload_n 1, 1) := by decide +kernel
theorem dX9_powerOf_11 : decode cX9_powerOf 11 = .ok (.imul, 1) := by decide +kernel
theorem dX9_powerOf_12 : decode cX9_powerOf 12 = .ok (.aload_n 0, 1) := by decide +kernel
theorem dX9_powerOf_13 : decode cX9_powerOf 13 = .ok (.getfield 64, 3) := by decide +kernel
theorem dX9_powerOf_16 : decode cX9_powerOf 16 = .ok (.iload_n 1, 1) := by decide +kernel
theorem dX9_powerOf_17 : decode cX9_powerOf 17 = .ok (.iaload, 1) := by decide +kernel
theorem dX9_powerOf_18 : decode cX9_powerOf 18 = .ok (.iadd, 1) := by decide +kernel
theorem dX9_powerOf_19 : decode cX9_powerOf 19 = .ok (.if_icmp .ge 30, 3) := by decide +kernel
theorem dX9_powerOf_22 : decode cX9_powerOf 22 = .ok (.iload_n 2, 1) := by decide +kernel
theorem dX9_powerOf_23 : decode cX9_powerOf 23 = .ok (.aload_n 0, 1) := by decide +kernel
theorem dX9_powerOf_24 : decode cX9_powerOf 24 = .ok (.getfield 58, 3) := by decide +kernel
theorem dX9_powerOf_27 : decode cX9_powerOf 27 = .ok (.iload_n 3, 1) := by decide +kernel
theorem dX9_powerOf_28 : decode cX9_powerOf 28 = .ok (.iaload, 1) := by decide +kernel
theorem dX9_powerOf_29 : decode cX9_powerOf 29 = .ok (.aload_n 0, 1) := by decide +kernel
theorem dX9_powerOf_30 : decode cX9_powerOf 30 = .ok (.getfield 13, 3) := by decide +kernel
theorem dX9_powerOf_33 : decode cX9_powerOf 33 = .ok (.aload_n 0, 1) := by decide +kernel
theorem dX9_powerOf_34 : decode cX9_powerOf 34 = .ok (.getfield 55, 3) := by decide +kernel
theorem dX9_powerOf_37 : decode cX9_powerOf 37 = .ok (.iload_n 3, 1) := by decide +kernel
theorem dX9_powerOf_38 : decode cX9_powerOf 38 = .ok (.iaload, 1) := by decide +kernel
theorem dX9_powerOf_39 : decode cX9_powerOf 39 = .ok (.iaload, 1) := by decide +kernel
theorem dX9_powerOf_40 : decode cX9_powerOf 40 = .ok (.imul, 1) := by decide +kernel
theorem dX9_powerOf_41 : decode cX9_powerOf 41 = .ok (.iadd, 1) := by decide +kernel
theorem dX9_powerOf_42 : decode cX9_powerOf 42 = .ok (.istore_n 2, 1) := by decide +kernel
theorem dX9_powerOf_43 : decode cX9_powerOf 43 = .ok (.iinc 3 1, 3) := by decide +kernel
theorem dX9_powerOf_46 : decode cX9_powerOf 46 = .ok (.goto (-39), 3) := by decide +kernel
theorem dX9_powerOf_49 : decode cX9_powerOf 49 = .ok (.iload_n 2, 1) := by decide +kernel
theorem dX9_powerOf_50 : decode cX9_powerOf 50 = .ok (.ireturn, 1) := by decide +kernel
theorem dX9_borne_0 : decode cX9_borne 0 = .ok (.iconst 0, 1) := by decide +kernel
theorem dX9_borne_1 : decode cX9_borne 1 = .ok (.istore_n 1, 1) := by decide +kernel
theorem dX9_borne_2 : decode cX9_borne 2 = .ok (.iconst 0, 1) := by decide +kernel
theorem dX9_borne_3 : decode cX9_borne 3 = .ok (.istore_n 2, 1) := by decide +kernel
theorem dX9_borne_4 : decode cX9_borne 4 = .ok (.iload_n 2, 1) := by decide +kernel
theorem dX9_borne_5 : decode cX9_borne 5 = .ok (.iconst 4, 1) := by decide +kernel
theorem dX9_borne_6 : decode cX9_borne 6 = .ok (.if_icmp .ge 70, 3) := by decide +kernel
theorem dX9_borne_9 : decode cX9_borne 9 = .ok (.aload_n 0, 1) := by decide +kernel
theorem dX9_borne_10 : decode cX9_borne 10 = .ok (.iload_n 2, 1) := by decide +kernel
theorem dX9_borne_11 : decode cX9_borne 11 = .ok (.invokevirtual 114, 3) := by decide +kernel
theorem dX9_borne_14 : decode cX9_borne 14 = .ok (.istore_n 3, 1) := by decide +kernel
theorem dX9_borne_15 : decode cX9_borne 15 = .ok (.iconst 0, 1) := by decide +kernel
theorem dX9_borne_16 : decode cX9_borne 16 = .ok (.istore 4, 2) := by decide +kernel
theorem dX9_borne_18 : decode cX9_borne 18 = .ok (.iconst 0, 1) := by decide +kernel
theorem dX9_borne_19 : decode cX9_borne 19 = .ok (.istore 5, 2) := by decide +kernel
theorem dX9_borne_21 : decode cX9_borne 21 = .ok (.iload 5, 2) := by decide +kernel
theorem dX9_borne_23 : decode cX9_borne 23 = .ok (.iconst 4, 1) := by decide +kernel
theorem dX9_borne_24 : decode cX9_borne 24 = .ok (.if_icmp .ge 29, 3) := by decide +kernel
theorem dX9_borne_27 : decode cX9_borne 27 = .ok (.iload 4, 2) := by decide +kernel
theorem dX9_borne_29 : decode cX9_borne 29 = .ok (.aload_n 0, 1) := by decide +kernel
theorem dX9_borne_30 : decode cX9_borne 30 = .ok (.iload 5, 2) := by decide +kernel
theorem dX9_borne_32 : decode cX9_borne 32 = .ok (.invokevirtual 114, 3) := by decide +kernel
theorem dX9_borne_35 : decode cX9_borne 35 = .ok (.iload_n 3, 1) := by decide +kernel
theorem dX9_borne_36 : decode cX9_borne 36 = .ok (.if_icmp .lt 7, 3) := by decide +kernel
theorem dX9_borne_39 : decode cX9_borne 39 = .ok (.iconst 1, 1) := by decide +kernel
theorem dX9_borne_40 : decode cX9_borne 40 = .ok (.goto 4, 3) := by decide +kernel
theorem dX9_borne_43 : decode cX9_borne 43 = .ok (.iconst 0, 1) := by decide +kernel
theorem dX9_borne_44 : decode cX9_borne 44 = .ok (.iadd, 1) := by decide +kernel
theorem dX9_borne_45 : decode cX9_borne 45 = .ok (.istore 4, 2) := by decide +kernel
theorem dX9_borne_47 : decode cX9_borne 47 = .ok (.iinc 5 1, 3) := by decide +kernel
theorem dX9_borne_50 : decode cX9_borne 50 = .ok (.goto (-29), 3) := by decide +kernel
theorem dX9_borne_53 : decode cX9_borne 53 = .ok (.iload_n 3, 1) := by decide +kernel
theorem dX9_borne_54 : decode cX9_borne 54 = .ok (.iload 4, 2) := by decide +kernel
theorem dX9_borne_56 : decode cX9_borne 56 = .ok (.imul, 1) := by decide +kernel
theorem dX9_borne_57 : decode cX9_borne 57 = .ok (.iload_n 1, 1) := by decide +kernel
theorem dX9_borne_58 : decode cX9_borne 58 = .ok (.if_icmp .le 10, 3) := by decide +kernel
theorem dX9_borne_61 : decode cX9_borne 61 = .ok (.iload_n 3, 1) := by decide +kernel
theorem dX9_borne_62 : decode cX9_borne 62 = .ok (.iload 4, 2) := by decide +kernel
theorem dX9_borne_64 : decode cX9_borne 64 = .ok (.imul, 1) := by decide +kernel
theorem dX9_borne_65 : decode cX9_borne 65 = .ok (.goto 4, 3) := by decide +kernel
theorem dX9_borne_68 : decode cX9_borne 68 = .ok (.iload_n 1, 1) := by decide +kernel
theorem dX9_borne_69 : decode cX9_borne 69 = .ok (.istore_n 1, 1) := by decide +kernel
theorem dX9_borne_70 : decode cX9_borne 70 = .ok (.iinc 2 1, 3) := by decide +kernel
theorem dX9_borne_73 : decode cX9_borne 73 = .ok (.goto (-69), 3) := by decide +kernel
theorem dX9_borne_76 : decode cX9_borne 76 = .ok (.iload_n 1, 1) := by decide +kernel
theorem dX9_borne_77 : decode cX9_borne 77 = .ok (.ireturn, 1) := by decide +kernel
theorem dX9_monk_0 : decode cX9_monk 0 = .ok (.iload_n 1, 1) := by decide +kernel
theorem dX9_monk_1 : decode cX9_monk 1 = .ok (.invokestatic 118, 3) := by decide +kernel
theorem dX9_monk_4 : decode cX9_monk 4 = .ok (.ifCond .ne 5, 3) := by decide +kernel
theorem dX9_monk_7 : decode cX9_monk 7 = .ok (.iconst (-1), 1) := by decide +kernel
theorem dX9_monk_8 : decode cX9_monk 8 = .ok (.ireturn, 1) := by decide +kernel
theorem dX9_monk_9 : decode cX9_monk 9 = .ok (.iload_n 2, 1) := by decide +kernel
theorem dX9_monk_10 : decode cX9_monk 10 = .ok (.i2l, 1) := by decide +kernel
theorem dX9_monk_11 : decode cX9_monk 11 = .ok (.lconst 0, 1) := by decide +kernel
theorem dX9_monk_12 : decode cX9_monk 12 = .ok (.lconst 1, 1) := by decide +kernel
theorem dX9_monk_13 : decode cX9_monk 13 = .ok (.invokestatic 95, 3) := by decide +kernel
theorem dX9_monk_16 : decode cX9_monk 16 = .ok (.ifCond .eq 25, 3) := by decide +kernel
theorem dX9_monk_19 : decode cX9_monk 19 = .ok (.iload_n 3, 1) := by decide +kernel
theorem dX9_monk_20 : decode cX9_monk 20 = .ok (.i2l, 1) := by decide +kernel
theorem dX9_monk_21 : decode cX9_monk 21 = .ok (.lconst 0, 1) := by decide +kernel
theorem dX9_monk_22 : decode cX9_monk 22 = .ok (.iload_n 2, 1) := by decide +kernel
theorem dX9_monk_23 : decode cX9_monk 23 = .ok (.ifCond .ne 9, 3) := by decide +kernel
theorem dX9_monk_26 : decode cX9_monk 26 = .ok (.ldc2_w 122, 3) := by decide +kernel
theorem dX9_monk_29 : decode cX9_monk 29 = .ok (.goto 6, 3) := by decide +kernel
theorem dX9_monk_32 : decode cX9_monk 32 = .ok (.ldc2_w 124, 3) := by decide +kernel
theorem dX9_monk_35 : decode cX9_monk 35 = .ok (.invokestatic 95, 3) := by decide +kernel
theorem dX9_monk_38 : decode cX9_monk 38 = .ok (.ifCond .ne 6, 3) := by decide +kernel
theorem dX9_monk_41 : decode cX9_monk 41 = .ok (.bipush (-2), 2) := by decide +kernel
theorem dX9_monk_43 : decode cX9_monk 43 = .ok (.ireturn, 1) := by decide +kernel
theorem dX9_monk_44 : decode cX9_monk 44 = .ok (.iload_n 2, 1) := by decide +kernel
theorem dX9_monk_45 : decode cX9_monk 45 = .ok (.ifCond .ne 12, 3) := by decide +kernel
theorem dX9_monk_48 : decode cX9_monk 48 = .ok (.aload_n 0, 1) := by decide +kernel
theorem dX9_monk_49 : decode cX9_monk 49 = .ok (.getfield 7, 3) := by decide +kernel
theorem dX9_monk_52 : decode cX9_monk 52 = .ok (.iload_n 1, 1) := by decide +kernel
theorem dX9_monk_53 : decode cX9_monk 53 = .ok (.iaload, 1) := by decide +kernel
theorem dX9_monk_54 : decode cX9_monk 54 = .ok (.goto 9, 3) := by decide +kernel
theorem dX9_monk_57 : decode cX9_monk 57 = .ok (.aload_n 0, 1) := by decide +kernel
theorem dX9_monk_58 : decode cX9_monk 58 = .ok (.getfield 13, 3) := by decide +kernel
theorem dX9_monk_61 : decode cX9_monk 61 = .ok (.iload_n 1, 1) := by decide +kernel
theorem dX9_monk_62 : decode cX9_monk 62 = .ok (.iaload, 1) := by decide +kernel
theorem dX9_monk_63 : decode cX9_monk 63 = .ok (.istore 4, 2) := by decide +kernel
theorem dX9_monk_65 : decode cX9_monk 65 = .ok (.aload_n 0, 1) := by decide +kernel
theorem dX9_monk_66 : decode cX9_monk 66 = .ok (.getfield 7, 3) := by decide +kernel
theorem dX9_monk_69 : decode cX9_monk 69 = .ok (.iload_n 1, 1) := by decide +kernel
theorem dX9_monk_70 : decode cX9_monk 70 = .ok (.iload_n 2, 1) := by decide +kernel
theorem dX9_monk_71 : decode cX9_monk 71 = .ok (.ifCond .ne 7, 3) := by decide +kernel
theorem dX9_monk_74 : decode cX9_monk 74 = .ok (.iload_n 3, 1) := by decide +kernel
theorem dX9_monk_75 : decode cX9_monk 75 = .ok (.goto 9, 3) := by decide +kernel
theorem dX9_monk_78 : decode cX9_monk 78 = .ok (.aload_n 0, 1) := by decide +kernel
theorem dX9_monk_79 : decode cX9_monk 79 = .ok (.getfield 7, 3) := by decide +kernel
theorem dX9_monk_82 : decode cX9_monk 82 = .ok (.iload_n 1, 1) := by decide +kernel
theorem dX9_monk_83 : decode cX9_monk 83 = .ok (.iaload, 1) := by decide +kernel
theorem dX9_monk_84 : decode cX9_monk 84 = .ok (.iastore, 1) := by decide +kernel
theorem dX9_monk_85 : decode cX9_monk 85 = .ok (.aload_n 0, 1) := by decide +kernel
theorem dX9_monk_86 : decode cX9_monk 86 = .ok (.getfield 13, 3) := by decide +kernel
theorem dX9_monk_89 : decode cX9_monk 89 = .ok (.iload_n 1, 1) := by decide +kernel
theorem dX9_monk_90 : decode cX9_monk 90 = .ok (.iload_n 2, 1) := by decide +kernel
theorem dX9_monk_91 : decode cX9_monk 91 = .ok (.iconst 1, 1) := by decide +kernel
theorem dX9_monk_92 : decode cX9_monk 92 = .ok (.if_icmp .ne 7, 3) := by decide +kernel
theorem dX9_monk_95 : decode cX9_monk 95 = .ok (.iload_n 3, 1) := by decide +kernel
theorem dX9_monk_96 : decode cX9_monk 96 = .ok (.goto 9, 3) := by decide +kernel
theorem dX9_monk_99 : decode cX9_monk 99 = .ok (.aload_n 0, 1) := by decide +kernel
theorem dX9_monk_100 : decode cX9_monk 100 = .ok (.getfield 13, 3) := by decide +kernel
theorem dX9_monk_103 : decode cX9_monk 103 = .ok (.iload_n 1, 1) := by decide +kernel
theorem dX9_monk_104 : decode cX9_monk 104 = .ok (.iaload, 1) := by decide +kernel
theorem dX9_monk_105 : decode cX9_monk 105 = .ok (.iastore, 1) := by decide +kernel
theorem dX9_monk_106 : decode cX9_monk 106 = .ok (.iload 4, 2) := by decide +kernel
theorem dX9_monk_108 : decode cX9_monk 108 = .ok (.ireturn, 1) := by decide +kernel
theorem dX9_wear_0 : decode cX9_wear 0 = .ok (.iload_n 1, 1) := by decide +kernel
theorem dX9_wear_1 : decode cX9_wear 1 = .ok (.i2l, 1) := by decide +kernel
theorem dX9_wear_2 : decode cX9_wear 2 = .ok (.lconst 0, 1) := by decide +kernel
theorem dX9_wear_3 : decode cX9_wear 3 = .ok (.ldc2_w 124, 3) := by decide +kernel
theorem dX9_wear_6 : decode cX9_wear 6 = .ok (.invokestatic 95, 3) := by decide +kernel
theorem dX9_wear_9 : decode cX9_wear 9 = .ok (.ifCond .ne 6, 3) := by decide +kernel
theorem dX9_wear_12 : decode cX9_wear 12 = .ok (.bipush (-2), 2) := by decide +kernel
theorem dX9_wear_14 : decode cX9_wear 14 = .ok (.ireturn, 1) := by decide +kernel
theorem dX9_wear_15 : decode cX9_wear 15 = .ok (.aload_n 0, 1) := by decide +kernel
theorem dX9_wear_16 : decode cX9_wear 16 = .ok (.getfield 89, 3) := by decide +kernel
theorem dX9_wear_19 : decode cX9_wear 19 = .ok (.istore_n 2, 1) := by decide +kernel
theorem dX9_wear_20 : decode cX9_wear 20 = .ok (.aload_n 0, 1) := by decide +kernel
theorem dX9_wear_21 : decode cX9_wear 21 = .ok (.iload_n 1, 1) := by decide +kernel
theorem dX9_wear_22 : decode cX9_wear 22 = .ok (.putfield 89, 3) := by decide +kernel
theorem dX9_wear_25 : decode cX9_wear 25 = .ok (.iload_n 2, 1) := by decide +kernel
theorem dX9_wear_26 : decode cX9_wear 26 = .ok (.ireturn, 1) := by decide +kernel
theorem dX9_say_0 : decode cX9_say 0 = .ok (.iload_n 1, 1) := by decide +kernel
theorem dX9_say_1 : decode cX9_say 1 = .ok (.i2l, 1) := by decide +kernel
theorem dX9_say_2 : decode cX9_say 2 = .ok (.ldc2_w 126, 3) := by decide +kernel
theorem dX9_say_5 : decode cX9_say 5 = .ok (.ldc2_w 128, 3) := by decide +kernel
theorem dX9_say_8 : decode cX9_say 8 = .ok (.invokestatic 95, 3) := by decide +kernel
theorem dX9_say_11 : decode cX9_say 11 = .ok (.ifCond .ne 6, 3) := by decide +kernel
theorem dX9_say_14 : decode cX9_say 14 = .ok (.bipush (-2), 2) := by decide +kernel
theorem dX9_say_16 : decode cX9_say 16 = .ok (.ireturn, 1) := by decide +kernel
theorem dX9_say_17 : decode cX9_say 17 = .ok (.aload_n 0, 1) := by decide +kernel
theorem dX9_say_18 : decode cX9_say 18 = .ok (.getfield 130, 3) := by decide +kernel
theorem dX9_say_21 : decode cX9_say 21 = .ok (.bipush 60, 2) := by decide +kernel
theorem dX9_say_23 : decode cX9_say 23 = .ok (.if_icmp .ne 6, 3) := by decide +kernel
theorem dX9_say_26 : decode cX9_say 26 = .ok (.bipush (-4), 2) := by decide +kernel
theorem dX9_say_28 : decode cX9_say 28 = .ok (.ireturn, 1) := by decide +kernel
theorem dX9_say_29 : decode cX9_say 29 = .ok (.aload_n 0, 1) := by decide +kernel
theorem dX9_say_30 : decode cX9_say 30 = .ok (.getfield 67, 3) := by decide +kernel
theorem dX9_say_33 : decode cX9_say 33 = .ok (.aload_n 0, 1) := by decide +kernel
theorem dX9_say_34 : decode cX9_say 34 = .ok (.getfield 130, 3) := by decide +kernel
theorem dX9_say_37 : decode cX9_say 37 = .ok (.iload_n 1, 1) := by decide +kernel
theorem dX9_say_38 : decode cX9_say 38 = .ok (.iastore, 1) := by decide +kernel
theorem dX9_say_39 : decode cX9_say 39 = .ok (.aload_n 0, 1) := by decide +kernel
theorem dX9_say_40 : decode cX9_say 40 = .ok (.dup, 1) := by decide +kernel
theorem dX9_say_41 : decode cX9_say 41 = .ok (.getfield 130, 3) := by decide +kernel
theorem dX9_say_44 : decode cX9_say 44 = .ok (.iconst 1, 1) := by decide +kernel
theorem dX9_say_45 : decode cX9_say 45 = .ok (.iadd, 1) := by decide +kernel
theorem dX9_say_46 : decode cX9_say 46 = .ok (.putfield 130, 3) := by decide +kernel
theorem dX9_say_49 : decode cX9_say 49 = .ok (.aload_n 0, 1) := by decide +kernel
theorem dX9_say_50 : decode cX9_say 50 = .ok (.getfield 130, 3) := by decide +kernel
theorem dX9_say_53 : decode cX9_say 53 = .ok (.ireturn, 1) := by decide +kernel
theorem dX9_wipe_0 : decode cX9_wipe 0 = .ok (.aload_n 0, 1) := by decide +kernel
theorem dX9_wipe_1 : decode cX9_wipe 1 = .ok (.getfield 130, 3) := by decide +kernel
theorem dX9_wipe_4 : decode cX9_wipe 4 = .ok (.istore_n 1, 1) := by decide +kernel
theorem dX9_wipe_5 : decode cX9_wipe 5 = .ok (.aload_n 0, 1) := by decide +kernel
theorem dX9_wipe_6 : decode cX9_wipe 6 = .ok (.iconst 0, 1) := by decide +kernel
theorem dX9_wipe_7 : decode cX9_wipe 7 = .ok (.putfield 130, 3) := by decide +kernel
theorem dX9_wipe_10 : decode cX9_wipe 10 = .ok (.iload_n 1, 1) := by decide +kernel
theorem dX9_wipe_11 : decode cX9_wipe 11 = .ok (.ireturn, 1) := by decide +kernel
theorem dX9_fault_0 : decode cX9_fault 0 = .ok (.iconst 0, 1) := by decide +kernel
theorem dX9_fault_1 : decode cX9_fault 1 = .ok (.istore_n 1, 1) := by decide +kernel
theorem dX9_fault_2 : decode cX9_fault 2 = .ok (.iconst 0, 1) := by decide +kernel
theorem dX9_fault_3 : decode cX9_fault 3 = .ok (.istore_n 2, 1) := by decide +kernel
theorem dX9_fault_4 : decode cX9_fault 4 = .ok (.iload_n 2, 1) := by decide +kernel
theorem dX9_fault_5 : decode cX9_fault 5 = .ok (.aload_n 0, 1) := by decide +kernel
theorem dX9_fault_6 : decode cX9_fault 6 = .ok (.getfield 130, 3) := by decide +kernel
theorem dX9_fault_9 : decode cX9_fault 9 = .ok (.if_icmp .ge 116, 3) := by decide +kernel
theorem dX9_fault_12 : decode cX9_fault 12 = .ok (.aload_n 0, 1) := by decide +kernel
theorem dX9_fault_13 : decode cX9_fault 13 = .ok (.getfield 67, 3) := by decide +kernel
theorem dX9_fault_16 : decode cX9_fault 16 = .ok (.iload_n 2, 1) := by decide +kernel
theorem dX9_fault_17 : decode cX9_fault 17 = .ok (.iaload, 1) := by decide +kernel
theorem dX9_fault_18 : decode cX9_fault 18 = .ok (.istore_n 3, 1) := by decide +kernel
theorem dX9_fault_19 : decode cX9_fault 19 = .ok (.iload_n 1, 1) := by decide +kernel
theorem dX9_fault_20 : decode cX9_fault 20 = .ok (.ifCond .ne 22, 3) := by decide +kernel
theorem dX9_fault_23 : decode cX9_fault 23 = .ok (.iload_n 3, 1) := by decide +kernel
theorem dX9_fault_24 : decode cX9_fault 24 = .ok (.i2l, 1) := by decide +kernel
theorem dX9_fault_25 : decode cX9_fault 25 = .ok (.ldc2_w 133, 3) := by decide +kernel
theorem dX9_fault_28 : decode cX9_fault 28 = .ok (.ldc2_w 135, 3) := by decide +kernel
theorem dX9_fault_31 : decode cX9_fault 31 = .ok (.invokestatic 95, 3) := by decide +kernel
theorem dX9_fault_34 : decode cX9_fault 34 = .ok (.ifCond .eq 8, 3) := by decide +kernel
theorem dX9_fault_37 : decode cX9_fault 37 = .ok (.iconst 1, 1) := by decide +kernel
theorem dX9_fault_38 : decode cX9_fault 38 = .ok (.istore_n 1, 1) := by decide +kernel
theorem dX9_fault_39 : decode cX9_fault 39 = .ok (.goto 80, 3) := by decide +kernel
theorem dX9_fault_42 : decode cX9_fault 42 = .ok (.iload_n 1, 1) := by decide +kernel
theorem dX9_fault_43 : decode cX9_fault 43 = .ok (.iconst 1, 1) := by decide +kernel
theorem dX9_fault_44 : decode cX9_fault 44 = .ok (.if_icmp .ne 20, 3) := by decide +kernel
theorem dX9_fault_47 : decode cX9_fault 47 = .ok (.iload_n 3, 1) := by decide +kernel
theorem dX9_fault_48 : decode cX9_fault 48 = .ok (.bipush 43, 2) := by decide +kernel
theorem dX9_fault_50 : decode cX9_fault 50 = .ok (.if_icmp .eq 9, 3) := by decide +kernel
theorem dX9_fault_53 : decode cX9_fault 53 = .ok (.iload_n 3, 1) := by decide +kernel
theorem dX9_fault_54 : decode cX9_fault 54 = .ok (.bipush 45, 2) := by decide +kernel
theorem dX9_fault_56 : decode cX9_fault 56 = .ok (.if_icmp .ne 8, 3) := by decide +kernel
theorem dX9_fault_59 : decode cX9_fault 59 = .ok (.iconst 2, 1) := by decide +kernel
theorem dX9_fault_60 : decode cX9_fault 60 = .ok (.istore_n 1, 1) := by decide +kernel
theorem dX9_fault_61 : decode cX9_fault 61 = .ok (.goto 58, 3) := by decide +kernel
theorem dX9_fault_64 : decode cX9_fault 64 = .ok (.iload_n 1, 1) := by decide +kernel
theorem dX9_fault_65 : decode cX9_fault 65 = .ok (.iconst 1, 1) := by decide +kernel
theorem dX9_fault_66 : decode cX9_fault 66 = .ok (.if_icmp .ne 17, 3) := by decide +kernel
theorem dX9_fault_69 : decode cX9_fault 69 = .ok (.iload_n 3, 1) := by decide +kernel
theorem dX9_fault_70 : decode cX9_fault 70 = .ok (.i2l, 1) := by decide +kernel
theorem dX9_fault_71 : decode cX9_fault 71 = .ok (.ldc2_w 137, 3) := by decide +kernel
theorem dX9_fault_74 : decode cX9_fault 74 = .ok (.ldc2_w 139, 3) := by decide +kernel
theorem dX9_fault_77 : decode cX9_fault 77 = .ok (.invokestatic 95, 3) := by decide +kernel
theorem dX9_fault_80 : decode cX9_fault 80 = .ok (.ifCond .ne 22, 3) := by decide +kernel
theorem dX9_fault_83 : decode cX9_fault 83 = .ok (.iload_n 1, 1) := by decide +kernel
theorem dX9_fault_84 : decode cX9_fault 84 = .ok (.iconst 2, 1) := by decide +kernel
theorem dX9_fault_85 : decode cX9_fault 85 = .ok (.if_icmp .ne 22, 3) := by decide +kernel
theorem dX9_fault_88 : decode cX9_fault 88 = .ok (.iload_n 3, 1) := by decide +kernel
theorem dX9_fault_89 : decode cX9_fault 89 = .ok (.i2l, 1) := by decide +kernel
theorem dX9_fault_90 : decode cX9_fault 90 = .ok (.ldc2_w 141, 3) := by decide +kernel
theorem dX9_fault_93 : decode cX9_fault 93 = .ok (.ldc2_w 143, 3) := by decide +kernel
theorem dX9_fault_96 : decode cX9_fault 96 = .ok (.invokestatic 95, 3) := by decide +kernel
theorem dX9_fault_99 : decode cX9_fault 99 = .ok (.ifCond .eq 8, 3) := by decide +kernel
theorem dX9_fault_102 : decode cX9_fault 102 = .ok (.iconst 0, 1) := by decide +kernel
theorem dX9_fault_103 : decode cX9_fault 103 = .ok (.istore_n 1, 1) := by decide +kernel
theorem dX9_fault_104 : decode cX9_fault 104 = .ok (.goto 15, 3) := by decide +kernel
theorem dX9_fault_107 : decode cX9_fault 107 = .ok (.iload_n 1, 1) := by decide +kernel
theorem dX9_fault_108 : decode cX9_fault 108 = .ok (.ifCond .ne 9, 3) := by decide +kernel
theorem dX9_fault_111 : decode cX9_fault 111 = .ok (.iload_n 3, 1) := by decide +kernel
theorem dX9_fault_112 : decode cX9_fault 112 = .ok (.bipush 46, 2) := by decide +kernel
theorem dX9_fault_114 : decode cX9_fault 114 = .ok (.if_icmp .eq 5, 3) := by decide +kernel
theorem dX9_fault_117 : decode cX9_fault 117 = .ok (.iload_n 2, 1) := by decide +kernel
theorem dX9_fault_118 : decode cX9_fault 118 = .ok (.ireturn, 1) := by decide +kernel
theorem dX9_fault_119 : decode cX9_fault 119 = .ok (.iinc 2 1, 3) := by decide +kernel
theorem dX9_fault_122 : decode cX9_fault 122 = .ok (.goto (-118), 3) := by decide +kernel
theorem dX9_fault_125 : decode cX9_fault 125 = .ok (.iload_n 1, 1) := by decide +kernel
theorem dX9_fault_126 : decode cX9_fault 126 = .ok (.ifCond .ne 8, 3) := by decide +kernel
theorem dX9_fault_129 : decode cX9_fault 129 = .ok (.bipush (-6), 2) := by decide +kernel
theorem dX9_fault_131 : decode cX9_fault 131 = .ok (.goto 7, 3) := by decide +kernel
theorem dX9_fault_134 : decode cX9_fault 134 = .ok (.aload_n 0, 1) := by decide +kernel
theorem dX9_fault_135 : decode cX9_fault 135 = .ok (.getfield 130, 3) := by decide +kernel
theorem dX9_fault_138 : decode cX9_fault 138 = .ok (.ireturn, 1) := by decide +kernel
theorem dX9_whyNoMore_0 : decode cX9_whyNoMore 0 = .ok (.aload_n 0, 1) := by decide +kernel
theorem dX9_whyNoMore_1 : decode cX9_whyNoMore 1 = .ok (.getfield 46, 3) := by decide +kernel
theorem dX9_whyNoMore_4 : decode cX9_whyNoMore 4 = .ok (.iload_n 1, 1) := by decide +kernel
theorem dX9_whyNoMore_5 : decode cX9_whyNoMore 5 = .ok (.iaload, 1) := by decide +kernel
theorem dX9_whyNoMore_6 : decode cX9_whyNoMore 6 = .ok (.iload_n 2, 1) := by decide +kernel
theorem dX9_whyNoMore_7 : decode cX9_whyNoMore 7 = .ok (.if_icmp .ge 7, 3) := by decide +kernel
theorem dX9_whyNoMore_10 : decode cX9_whyNoMore 10 = .ok (.iconst 2, 1) := by decide +kernel
theorem dX9_whyNoMore_11 : decode cX9_whyNoMore 11 = .ok (.goto 22, 3) := by decide +kernel
theorem dX9_whyNoMore_14 : decode cX9_whyNoMore 14 = .ok (.aload_n 0, 1) := by decide +kernel
theorem dX9_whyNoMore_15 : decode cX9_whyNoMore 15 = .ok (.getfield 49, 3) := by decide +kernel
theorem dX9_whyNoMore_18 : decode cX9_whyNoMore 18 = .ok (.iload_n 1, 1) := by decide +kernel
theorem dX9_whyNoMore_19 : decode cX9_whyNoMore 19 = .ok (.iaload, 1) := by decide +kernel
theorem dX9_whyNoMore_20 : decode cX9_whyNoMore 20 = .ok (.iload_n 2, 1) := by decide +kernel
theorem dX9_whyNoMore_21 : decode cX9_whyNoMore 21 = .ok (.iadd, 1) := by decide +kernel
theorem dX9_whyNoMore_22 : decode cX9_whyNoMore 22 = .ok (.bipush 99, 2) := by decide +kernel
theorem dX9_whyNoMore_24 : decode cX9_whyNoMore 24 = .ok (.if_icmp .le 7, 3) := by decide +kernel
theorem dX9_whyNoMore_27 : decode cX9_whyNoMore 27 = .ok (.iconst 5, 1) := by decide +kernel
theorem dX9_whyNoMore_28 : decode cX9_whyNoMore 28 = .ok (.goto 5, 3) := by decide +kernel
theorem dX9_whyNoMore_31 : decode cX9_whyNoMore 31 = .ok (.bipush (-6), 2) := by decide +kernel
theorem dX9_whyNoMore_33 : decode cX9_whyNoMore 33 = .ok (.ireturn, 1) := by decide +kernel
theorem dX9_whyNoLock_0 : decode cX9_whyNoLock 0 = .ok (.aload_n 0, 1) := by decide +kernel
theorem dX9_whyNoLock_1 : decode cX9_whyNoLock 1 = .ok (.getfield 49, 3) := by decide +kernel
theorem dX9_whyNoLock_4 : decode cX9_whyNoLock 4 = .ok (.iload_n 1, 1) := by decide +kernel
theorem dX9_whyNoLock_5 : decode cX9_whyNoLock 5 = .ok (.iaload, 1) := by decide +kernel
theorem dX9_whyNoLock_6 : decode cX9_whyNoLock 6 = .ok (.ifCond .ne 7, 3) := by decide +kernel
theorem dX9_whyNoLock_9 : decode cX9_whyNoLock 9 = .ok (.iconst 3, 1) := by decide +kernel
theorem dX9_whyNoLock_10 : decode cX9_whyNoLock 10 = .ok (.goto 20, 3) := by decide +kernel
theorem dX9_whyNoLock_13 : decode cX9_whyNoLock 13 = .ok (.aload_n 0, 1) := by decide +kernel
theorem dX9_whyNoLock_14 : decode cX9_whyNoLock 14 = .ok (.getfield 64, 3) := by decide +kernel
theorem dX9_whyNoLock_17 : decode cX9_whyNoLock 17 = .ok (.iload_n 2, 1) := by decide +kernel
theorem dX9_whyNoLock_18 : decode cX9_whyNoLock 18 = .ok (.iaload, 1) := by decide +kernel
theorem dX9_whyNoLock_19 : decode cX9_whyNoLock 19 = .ok (.bipush 8, 2) := by decide +kernel
theorem dX9_whyNoLock_21 : decode cX9_whyNoLock 21 = .ok (.if_icmp .ne 7, 3) := by decide +kernel
theorem dX9_whyNoLock_24 : decode cX9_whyNoLock 24 = .ok (.iconst 4, 1) := by decide +kernel
theorem dX9_whyNoLock_25 : decode cX9_whyNoLock 25 = .ok (.goto 5, 3) := by decide +kernel
theorem dX9_whyNoLock_28 : decode cX9_whyNoLock 28 = .ok (.bipush (-6), 2) := by decide +kernel
theorem dX9_whyNoLock_30 : decode cX9_whyNoLock 30 = .ok (.ireturn, 1) := by decide +kernel
theorem dX9_does_0 : decode cX9_does 0 = .ok (.aload_n 0, 1) := by decide +kernel
theorem dX9_does_1 : decode cX9_does 1 = .ok (.getfield 67, 3) := by decide +kernel
theorem dX9_does_4 : decode cX9_does 4 = .ok (.iload_n 1, 1) := by decide +kernel
theorem dX9_does_5 : decode cX9_does 5 = .ok (.iaload, 1) := by decide +kernel
theorem dX9_does_6 : decode cX9_does 6 = .ok (.bipush 46, 2) := by decide +kernel
theorem dX9_does_8 : decode cX9_does 8 = .ok (.if_icmp .ne 10, 3) := by decide +kernel
theorem dX9_does_11 : decode cX9_does 11 = .ok (.aload_n 0, 1) := by decide +kernel
theorem dX9_does_12 : decode cX9_does 12 = .ok (.invokevirtual 145, 3) := by decide +kernel
theorem dX9_does_15 : decode cX9_does 15 = .ok (.bipush (-6), 2) := by decide +kernel
theorem dX9_does_17 : decode cX9_does 17 = .ok (.ireturn, 1) := by decide +kernel
theorem dX9_does_18 : decode cX9_does 18 = .ok (.aload_n 0, 1) := by decide +kernel
theorem dX9_does_19 : decode cX9_does 19 = .ok (.getfield 67, 3) := by decide +kernel
theorem dX9_does_22 : decode cX9_does 22 = .ok (.iload_n 1, 1) := by decide +kernel
theorem dX9_does_23 : decode cX9_does 23 = .ok (.iaload, 1) := by decide +kernel
theorem dX9_does_24 : decode cX9_does 24 = .ok (.bipush 65, 2) := by decide +kernel
theorem dX9_does_26 : decode cX9_does 26 = .ok (.isub, 1) := by decide +kernel
theorem dX9_does_27 : decode cX9_does 27 = .ok (.istore_n 2, 1) := by decide +kernel
theorem dX9_does_28 : decode cX9_does 28 = .ok (.aload_n 0, 1) := by decide +kernel
theorem dX9_does_29 : decode cX9_does 29 = .ok (.getfield 67, 3) := by decide +kernel
theorem dX9_does_32 : decode cX9_does 32 = .ok (.iload_n 1, 1) := by decide +kernel
theorem dX9_does_33 : decode cX9_does 33 = .ok (.iconst 1, 1) := by decide +kernel
theorem dX9_does_34 : decode cX9_does 34 = .ok (.iadd, 1) := by decide +kernel
theorem dX9_does_35 : decode cX9_does 35 = .ok (.iaload, 1) := by decide +kernel
theorem dX9_does_36 : decode cX9_does 36 = .ok (.bipush 43, 2) := by decide +kernel
theorem dX9_does_38 : decode cX9_does 38 = .ok (.if_icmp .ne 40, 3) := by decide +kernel
theorem dX9_does_41 : decode cX9_does 41 = .ok (.aload_n 0, 1) := by decide +kernel
theorem dX9_does_42 : decode cX9_does 42 = .ok (.getfield 46, 3) := by decide +kernel
theorem dX9_does_45 : decode cX9_does 45 = .ok (.iload_n 2, 1) := by decide +kernel
theorem dX9_does_46 : decode cX9_does 46 = .ok (.iaload, 1) := by decide +kernel
theorem dX9_does_47 : decode cX9_does 47 = .ok (.aload_n 0, 1) := by decide +kernel
theorem dX9_does_48 : decode cX9_does 48 = .ok (.getfield 67, 3) := by decide +kernel
theorem dX9_does_51 : decode cX9_does 51 = .ok (.iload_n 1, 1) := by decide +kernel
theorem dX9_does_52 : decode cX9_does 52 = .ok (.iconst 2, 1) := by decide +kernel
theorem dX9_does_53 : decode cX9_does 53 = .ok (.iadd, 1) := by decide +kernel
theorem dX9_does_54 : decode cX9_does 54 = .ok (.iaload, 1) := by decide +kernel
theorem dX9_does_55 : decode cX9_does 55 = .ok (.iadd, 1) := by decide +kernel
theorem dX9_does_56 : decode cX9_does 56 = .ok (.bipush 48, 2) := by decide +kernel
theorem dX9_does_58 : decode cX9_does 58 = .ok (.isub, 1) := by decide +kernel
theorem dX9_does_59 : decode cX9_does 59 = .ok (.istore_n 3, 1) := by decide +kernel
theorem dX9_does_60 : decode cX9_does 60 = .ok (.iload_n 3, 1) := by decide +kernel
theorem dX9_does_61 : decode cX9_does 61 = .ok (.bipush 40, 2) := by decide +kernel
theorem dX9_does_63 : decode cX9_does 63 = .ok (.if_icmp .le 5, 3) := by decide +kernel
theorem dX9_does_66 : decode cX9_does 66 = .ok (.iconst 1, 1) := by decide +kernel
theorem dX9_does_67 : decode cX9_does 67 = .ok (.ireturn, 1) := by decide +kernel
theorem dX9_does_68 : decode cX9_does 68 = .ok (.aload_n 0, 1) := by decide +kernel
theorem dX9_does_69 : decode cX9_does 69 = .ok (.getfield 46, 3) := by decide +kernel
theorem dX9_does_72 : decode cX9_does 72 = .ok (.iload_n 2, 1) := by decide +kernel
theorem dX9_does_73 : decode cX9_does 73 = .ok (.iload_n 3, 1) := by decide +kernel
theorem dX9_does_74 : decode cX9_does 74 = .ok (.iastore, 1) := by decide +kernel
theorem dX9_does_75 : decode cX9_does 75 = .ok (.bipush (-6), 2) := by decide +kernel
theorem dX9_does_77 : decode cX9_does 77 = .ok (.ireturn, 1) := by decide +kernel
theorem dX9_does_78 : decode cX9_does 78 = .ok (.aload_n 0, 1) := by decide +kernel
theorem dX9_does_79 : decode cX9_does 79 = .ok (.getfield 67, 3) := by decide +kernel
theorem dX9_does_82 : decode cX9_does 82 = .ok (.iload_n 1, 1) := by decide +kernel
theorem dX9_does_83 : decode cX9_does 83 = .ok (.iconst 1, 1) := by decide +kernel
theorem dX9_does_84 : decode cX9_does 84 = .ok (.iadd, 1) := by decide +kernel
theorem dX9_does_85 : decode cX9_does 85 = .ok (.iaload, 1) := by decide +kernel
theorem dX9_does_86 : decode cX9_does 86 = .ok (.bipush 45, 2) := by decide +kernel
theorem dX9_does_88 : decode cX9_does 88 = .ok (.if_icmp .ne 53, 3) := by decide +kernel
theorem dX9_does_91 : decode cX9_does 91 = .ok (.aload_n 0, 1) := by decide +kernel
theorem dX9_does_92 : decode cX9_does 92 = .ok (.getfield 67, 3) := by decide +kernel
theorem dX9_does_95 : decode cX9_does 95 = .ok (.iload_n 1, 1) := by decide +kernel
theorem dX9_does_96 : decode cX9_does 96 = .ok (.iconst 2, 1) := by decide +kernel
theorem dX9_does_97 : decode cX9_does 97 = .ok (.iadd, 1) := by decide +kernel
theorem dX9_does_98 : decode cX9_does 98 = .ok (.iaload, 1) := by decide +kernel
theorem dX9_does_99 : decode cX9_does 99 = .ok (.bipush 48, 2) := by decide +kernel
theorem dX9_does_101 : decode cX9_does 101 = .ok (.isub, 1) := by decide +kernel
theorem dX9_does_102 : decode cX9_does 102 = .ok (.istore_n 3, 1) := by decide +kernel
theorem dX9_does_103 : decode cX9_does 103 = .ok (.aload_n 0, 1) := by decide +kernel
theorem dX9_does_104 : decode cX9_does 104 = .ok (.iload_n 2, 1) := by decide +kernel
theorem dX9_does_105 : decode cX9_does 105 = .ok (.iload_n 3, 1) := by decide +kernel
theorem dX9_does_106 : decode cX9_does 106 = .ok (.invokevirtual 148, 3) := by decide +kernel
theorem dX9_does_109 : decode cX9_does 109 = .ok (.istore 4, 2) := by decide +kernel
theorem dX9_does_111 : decode cX9_does 111 = .ok (.iload 4, 2) := by decide +kernel
theorem dX9_does_113 : decode cX9_does 113 = .ok (.bipush (-6), 2) := by decide +kernel
theorem dX9_does_115 : decode cX9_does 115 = .ok (.if_icmp .ne 23, 3) := by decide +kernel
theorem dX9_does_118 : decode cX9_does 118 = .ok (.aload_n 0, 1) := by decide +kernel
theorem dX9_does_119 : decode cX9_does 119 = .ok (.getfield 46, 3) := by decide +kernel
theorem dX9_does_122 : decode cX9_does 122 = .ok (.iload_n 2, 1) := by decide +kernel
theorem dX9_does_123 : decode cX9_does 123 = .ok (.dup2, 1) := by decide +kernel
theorem dX9_does_124 : decode cX9_does 124 = .ok (.iaload, 1) := by decide +kernel
theorem dX9_does_125 : decode cX9_does 125 = .ok (.iload_n 3, 1) := by decide +kernel
theorem dX9_does_126 : decode cX9_does 126 = .ok (.isub, 1) := by decide +kernel
theorem dX9_does_127 : decode cX9_does 127 = .ok (.iastore, 1) := by decide +kernel
theorem dX9_does_128 : decode cX9_does 128 = .ok (.aload_n 0, 1) := by decide +kernel
theorem dX9_does_129 : decode cX9_does 129 = .ok (.getfield 49, 3) := by decide +kernel
theorem dX9_does_132 : decode cX9_does 132 = .ok (.iload_n 2, 1) := by decide +kernel
theorem dX9_does_133 : decode cX9_does 133 = .ok (.dup2, 1) := by decide +kernel
theorem dX9_does_134 : decode cX9_does 134 = .ok (.iaload, 1) := by decide +kernel
theorem dX9_does_135 : decode cX9_does 135 = .ok (.iload_n 3, 1) := by decide +kernel
theorem dX9_does_136 : decode cX9_does 136 = .ok (.iadd, 1) := by decide +kernel
theorem dX9_does_137 : decode cX9_does 137 = .ok (.iastore, 1) := by decide +kernel
theorem dX9_does_138 : decode cX9_does 138 = .ok (.iload 4, 2) := by decide +kernel
theorem dX9_does_140 : decode cX9_does 140 = .ok (.ireturn, 1) := by decide +kernel
theorem dX9_does_141 : decode cX9_does 141 = .ok (.aload_n 0, 1) := by decide +kernel
theorem dX9_does_142 : decode cX9_does 142 = .ok (.getfield 67, 3) := by decide +kernel
theorem dX9_does_145 : decode cX9_does 145 = .ok (.iload_n 1, 1) := by decide +kernel
theorem dX9_does_146 : decode cX9_does 146 = .ok (.iconst 1, 1) := by decide +kernel
theorem dX9_does_147 : decode cX9_does 147 = .ok (.iadd, 1) := by decide +kernel
theorem dX9_does_148 : decode cX9_does 148 = .ok (.iaload, 1) := by decide +kernel
theorem dX9_does_149 : decode cX9_does 149 = .ok (.bipush 48, 2) := by decide +kernel
theorem dX9_does_151 : decode cX9_does 151 = .ok (.isub, 1) := by decide +kernel
theorem dX9_does_152 : decode cX9_does 152 = .ok (.istore_n 3, 1) := by decide +kernel
theorem dX9_does_153 : decode cX9_does 153 = .ok (.aload_n 0, 1) := by decide +kernel
theorem dX9_does_154 : decode cX9_does 154 = .ok (.iload_n 2, 1) := by decide +kernel
theorem dX9_does_155 : decode cX9_does 155 = .ok (.iload_n 3, 1) := by decide +kernel
theorem dX9_does_156 : decode cX9_does 156 = .ok (.invokevirtual 152, 3) := by decide +kernel
theorem dX9_does_159 : decode cX9_does 159 = .ok (.istore 4, 2) := by decide +kernel
theorem dX9_does_161 : decode cX9_does 161 = .ok (.iload 4, 2) := by decide +kernel
theorem dX9_does_163 : decode cX9_does 163 = .ok (.bipush (-6), 2) := by decide +kernel
theorem dX9_does_165 : decode cX9_does 165 = .ok (.if_icmp .ne 9, 3) := by decide +kernel
theorem dX9_does_168 : decode cX9_does 168 = .ok (.aload_n 0, 1) := by decide +kernel
theorem dX9_does_169 : decode cX9_does 169 = .ok (.iload_n 2, 1) := by decide +kernel
theorem dX9_does_170 : decode cX9_does 170 = .ok (.iload_n 3, 1) := by decide +kernel
theorem dX9_does_171 : decode cX9_does 171 = .ok (.invokevirtual 155, 3) := by decide +kernel
theorem dX9_does_174 : decode cX9_does 174 = .ok (.iload 4, 2) := by decide +kernel
theorem dX9_does_176 : decode cX9_does 176 = .ok (.ireturn, 1) := by decide +kernel
theorem dX9_goText_0 : decode cX9_goText 0 = .ok (.aload_n 0, 1) := by decide +kernel
theorem dX9_goText_1 : decode cX9_goText 1 = .ok (.invokevirtual 159, 3) := by decide +kernel
theorem dX9_goText_4 : decode cX9_goText 4 = .ok (.aload_n 0, 1) := by decide +kernel
theorem dX9_goText_5 : decode cX9_goText 5 = .ok (.iconst 0, 1) := by decide +kernel
theorem dX9_goText_6 : decode cX9_goText 6 = .ok (.putfield 162, 3) := by decide +kernel
theorem dX9_goText_9 : decode cX9_goText 9 = .ok (.aload_n 0, 1) := by decide +kernel
theorem dX9_goText_10 : decode cX9_goText 10 = .ok (.bipush (-6), 2) := by decide +kernel
theorem dX9_goText_12 : decode cX9_goText 12 = .ok (.putfield 165, 3) := by decide +kernel
theorem dX9_goText_15 : decode cX9_goText 15 = .ok (.iconst 0, 1) := by decide +kernel
theorem dX9_goText_16 : decode cX9_goText 16 = .ok (.istore_n 1, 1) := by decide +kernel
theorem dX9_goText_17 : decode cX9_goText 17 = .ok (.iload_n 1, 1) := by decide +kernel
theorem dX9_goText_18 : decode cX9_goText 18 = .ok (.aload_n 0, 1) := by decide +kernel
theorem dX9_goText_19 : decode cX9_goText 19 = .ok (.getfield 130, 3) := by decide +kernel
theorem dX9_goText_22 : decode cX9_goText 22 = .ok (.if_icmp .ge 78, 3) := by decide +kernel
theorem dX9_goText_25 : decode cX9_goText 25 = .ok (.aload_n 0, 1) := by decide +kernel
theorem dX9_goText_26 : decode cX9_goText 26 = .ok (.aload_n 0, 1) := by decide +kernel
theorem dX9_goText_27 : decode cX9_goText 27 = .ok (.iload_n 1, 1) := by decide +kernel
theorem dX9_goText_28 : decode cX9_goText 28 = .ok (.invokevirtual 168, 3) := by decide +kernel
theorem dX9_goText_31 : decode cX9_goText 31 = .ok (.putfield 165, 3) := by decide +kernel
theorem dX9_goText_34 : decode cX9_goText 34 = .ok (.aload_n 0, 1) := by decide +kernel
theorem dX9_goText_35 : decode cX9_goText 35 = .ok (.getfield 165, 3) := by decide +kernel
theorem dX9_goText_38 : decode cX9_goText 38 = .ok (.ifCond .lt 5, 3) := by decide +kernel
theorem dX9_goText_41 : decode cX9_goText 41 = .ok (.iconst 0, 1) := by decide +kernel
theorem dX9_goText_42 : decode cX9_goText 42 = .ok (.ireturn, 1) := by decide +kernel
theorem dX9_goText_43 : decode cX9_goText 43 = .ok (.aload_n 0, 1) := by decide +kernel
theorem dX9_goText_44 : decode cX9_goText 44 = .ok (.dup, 1) := by decide +kernel
theorem dX9_goText_45 : decode cX9_goText 45 = .ok (.getfield 162, 3) := by decide +kernel
theorem dX9_goText_48 : decode cX9_goText 48 = .ok (.iconst 1, 1) := by decide +kernel
theorem dX9_goText_49 : decode cX9_goText 49 = .ok (.iadd, 1) := by decide +kernel
theorem dX9_goText_50 : decode cX9_goText 50 = .ok (.putfield 162, 3) := by decide +kernel
theorem dX9_goText_53 : decode cX9_goText 53 = .ok (.iload_n 1, 1) := by decide +kernel
theorem dX9_goText_54 : decode cX9_goText 54 = .ok (.aload_n 0, 1) := by decide +kernel
theorem dX9_goText_55 : decode cX9_goText 55 = .ok (.getfield 67, 3) := by decide +kernel
theorem dX9_goText_58 : decode cX9_goText 58 = .ok (.iload_n 1, 1) := by decide +kernel
theorem dX9_goText_59 : decode cX9_goText 59 = .ok (.iaload, 1) := by decide +kernel
theorem dX9_goText_60 : decode cX9_goText 60 = .ok (.bipush 46, 2) := by decide +kernel
theorem dX9_goText_62 : decode cX9_goText 62 = .ok (.if_icmp .ne 7, 3) := by decide +kernel
theorem dX9_goText_65 : decode cX9_goText 65 = .ok (.iconst 1, 1) := by decide +kernel
theorem dX9_goText_66 : decode cX9_goText 66 = .ok (.goto 29, 3) := by decide +kernel
theorem dX9_goText_69 : decode cX9_goText 69 = .ok (.aload_n 0, 1) := by decide +kernel
theorem dX9_goText_70 : decode cX9_goText 70 = .ok (.getfield 67, 3) := by decide +kernel
theorem dX9_goText_73 : decode cX9_goText 73 = .ok (.iload_n 1, 1) := by decide +kernel
theorem dX9_goText_74 : decode cX9_goText 74 = .ok (.iconst 1, 1) := by decide +kernel
theorem dX9_goText_75 : decode cX9_goText 75 = .ok (.iadd, 1) := by decide +kernel
theorem dX9_goText_76 : decode cX9_goText 76 = .ok (.iaload, 1) := by decide +kernel
theorem dX9_goText_77 : decode cX9_goText 77 = .ok (.i2l, 1) := by decide +kernel
theorem dX9_goText_78 : decode cX9_goText 78 = .ok (.ldc2_w 137, 3) := by decide +kernel
theorem dX9_goText_81 : decode cX9_goText 81 = .ok (.ldc2_w 139, 3) := by decide +kernel
theorem dX9_goText_84 : decode cX9_goText 84 = .ok (.invokestatic 95, 3) := by decide +kernel
theorem dX9_goText_87 : decode cX9_goText 87 = .ok (.ifCond .eq 7, 3) := by decide +kernel
theorem dX9_goText_90 : decode cX9_goText 90 = .ok (.iconst 2, 1) := by decide +kernel
theorem dX9_goText_91 : decode cX9_goText 91 = .ok (.goto 4, 3) := by decide +kernel
theorem dX9_goText_94 : decode cX9_goText 94 = .ok (.iconst 3, 1) := by decide +kernel
theorem dX9_goText_95 : decode cX9_goText 95 = .ok (.iadd, 1) := by decide +kernel
theorem dX9_goText_96 : decode cX9_goText 96 = .ok (.istore_n 1, 1) := by decide +kernel
theorem dX9_goText_97 : decode cX9_goText 97 = .ok (.goto (-80), 3) := by decide +kernel
theorem dX9_goText_100 : decode cX9_goText 100 = .ok (.iconst 1, 1) := by decide +kernel
theorem dX9_goText_101 : decode cX9_goText 101 = .ok (.ireturn, 1) := by decide +kernel
theorem dX9_judge_0 : decode cX9_judge 0 = .ok (.iload_n 1, 1) := by decide +kernel
theorem dX9_judge_1 : decode cX9_judge 1 = .ok (.i2l, 1) := by decide +kernel
theorem dX9_judge_2 : decode cX9_judge 2 = .ok (.lconst 0, 1) := by decide +kernel
theorem dX9_judge_3 : decode cX9_judge 3 = .ok (.lconst 1, 1) := by decide +kernel
theorem dX9_judge_4 : decode cX9_judge 4 = .ok (.invokestatic 95, 3) := by decide +kernel
theorem dX9_judge_7 : decode cX9_judge 7 = .ok (.ifCond .ne 6, 3) := by decide +kernel
theorem dX9_judge_10 : decode cX9_judge 10 = .ok (.bipush (-2), 2) := by decide +kernel
theorem dX9_judge_12 : decode cX9_judge 12 = .ok (.ireturn, 1) := by decide +kernel
theorem dX9_judge_13 : decode cX9_judge 13 = .ok (.aload_n 0, 1) := by decide +kernel
theorem dX9_judge_14 : decode cX9_judge 14 = .ok (.invokevirtual 171, 3) := by decide +kernel
theorem dX9_judge_17 : decode cX9_judge 17 = .ok (.ifCond .lt 6, 3) := by decide +kernel
theorem dX9_judge_20 : decode cX9_judge 20 = .ok (.bipush (-5), 2) := by decide +kernel
theorem dX9_judge_22 : decode cX9_judge 22 = .ok (.ireturn, 1) := by decide +kernel
theorem dX9_judge_23 : decode cX9_judge 23 = .ok (.aload_n 0, 1) := by decide +kernel
theorem dX9_judge_24 : decode cX9_judge 24 = .ok (.invokevirtual 175, 3) := by decide +kernel
theorem dX9_judge_27 : decode cX9_judge 27 = .ok (.istore_n 2, 1) := by decide +kernel
theorem dX9_judge_28 : decode cX9_judge 28 = .ok (.iload_n 2, 1) := by decide +kernel
theorem dX9_judge_29 : decode cX9_judge 29 = .ok (.ifCond .eq 8, 3) := by decide +kernel
theorem dX9_judge_32 : decode cX9_judge 32 = .ok (.bipush (-6), 2) := by decide +kernel
theorem dX9_judge_34 : decode cX9_judge 34 = .ok (.goto 18, 3) := by decide +kernel
theorem dX9_judge_37 : decode cX9_judge 37 = .ok (.iload_n 1, 1) := by decide +kernel
theorem dX9_judge_38 : decode cX9_judge 38 = .ok (.ifCond .ne 10, 3) := by decide +kernel
theorem dX9_judge_41 : decode cX9_judge 41 = .ok (.aload_n 0, 1) := by decide +kernel
theorem dX9_judge_42 : decode cX9_judge 42 = .ok (.getfield 162, 3) := by decide +kernel
theorem dX9_judge_45 : decode cX9_judge 45 = .ok (.goto 7, 3) := by decide +kernel
theorem dX9_judge_48 : decode cX9_judge 48 = .ok (.aload_n 0, 1) := by decide +kernel
theorem dX9_judge_49 : decode cX9_judge 49 = .ok (.getfield 165, 3) := by decide +kernel
theorem dX9_judge_52 : decode cX9_judge 52 = .ok (.ireturn, 1) := by decide +kernel
theorem dX9_done_0 : decode cX9_done 0 = .ok (.aload_n 0, 1) := by decide +kernel
theorem dX9_done_1 : decode cX9_done 1 = .ok (.invokevirtual 171, 3) := by decide +kernel
theorem dX9_done_4 : decode cX9_done 4 = .ok (.ifCond .ge 10, 3) := by decide +kernel
theorem dX9_done_7 : decode cX9_done 7 = .ok (.aload_n 0, 1) := by decide +kernel
theorem dX9_done_8 : decode cX9_done 8 = .ok (.invokevirtual 175, 3) := by decide +kernel
theorem dX9_done_11 : decode cX9_done 11 = .ok (.ifCond .ne 6, 3) := by decide +kernel
theorem dX9_done_14 : decode cX9_done 14 = .ok (.bipush (-5), 2) := by decide +kernel
theorem dX9_done_16 : decode cX9_done 16 = .ok (.ireturn, 1) := by decide +kernel
theorem dX9_done_17 : decode cX9_done 17 = .ok (.aload_n 0, 1) := by decide +kernel
theorem dX9_done_18 : decode cX9_done 18 = .ok (.invokevirtual 179, 3) := by decide +kernel
theorem dX9_done_21 : decode cX9_done 21 = .ok (.aload_n 0, 1) := by decide +kernel
theorem dX9_done_22 : decode cX9_done 22 = .ok (.iconst 0, 1) := by decide +kernel
theorem dX9_done_23 : decode cX9_done 23 = .ok (.putfield 130, 3) := by decide +kernel
theorem dX9_done_26 : decode cX9_done 26 = .ok (.aload_n 0, 1) := by decide +kernel
theorem dX9_done_27 : decode cX9_done 27 = .ok (.getfield 162, 3) := by decide +kernel
theorem dX9_done_30 : decode cX9_done 30 = .ok (.ireturn, 1) := by decide +kernel
theorem dX9_lock_0 : decode cX9_lock 0 = .ok (.iload_n 1, 1) := by decide +kernel
theorem dX9_lock_1 : decode cX9_lock 1 = .ok (.invokestatic 182, 3) := by decide +kernel
theorem dX9_lock_4 : decode cX9_lock 4 = .ok (.ifCond .eq 21, 3) := by decide +kernel
theorem dX9_lock_7 : decode cX9_lock 7 = .ok (.iload_n 2, 1) := by decide +kernel
theorem dX9_lock_8 : decode cX9_lock 8 = .ok (.i2l, 1) := by decide +kernel
theorem dX9_lock_9 : decode cX9_lock 9 = .ok (.lconst 0, 1) := by decide +kernel
theorem dX9_lock_10 : decode cX9_lock 10 = .ok (.aload_n 0, 1) := by decide +kernel
theorem dX9_lock_11 : decode cX9_lock 11 = .ok (.getfield 31, 3) := by decide +kernel
theorem dX9_lock_14 : decode cX9_lock 14 = .ok (.iload_n 1, 1) := by decide +kernel
theorem dX9_lock_15 : decode cX9_lock 15 = .ok (.iaload, 1) := by decide +kernel
theorem dX9_lock_16 : decode cX9_lock 16 = .ok (.iconst 1, 1) := by decide +kernel
theorem dX9_lock_17 : decode cX9_lock 17 = .ok (.isub, 1) := by decide +kernel
theorem dX9_lock_18 : decode cX9_lock 18 = .ok (.i2l, 1) := by decide +kernel
theorem dX9_lock_19 : decode cX9_lock 19 = .ok (.invokestatic 95, 3) := by decide +kernel
theorem dX9_lock_22 : decode cX9_lock 22 = .ok (.ifCond .ne 5, 3) := by decide +kernel
theorem dX9_lock_25 : decode cX9_lock 25 = .ok (.iconst (-1), 1) := by decide +kernel
theorem dX9_lock_26 : decode cX9_lock 26 = .ok (.ireturn, 1) := by decide +kernel
theorem dX9_lock_27 : decode cX9_lock 27 = .ok (.bipush 8, 2) := by decide +kernel
theorem dX9_lock_29 : decode cX9_lock 29 = .ok (.iload_n 1, 1) := by decide +kernel
theorem dX9_lock_30 : decode cX9_lock 30 = .ok (.imul, 1) := by decide +kernel
theorem dX9_lock_31 : decode cX9_lock 31 = .ok (.iload_n 2, 1) := by decide +kernel
theorem dX9_lock_32 : decode cX9_lock 32 = .ok (.iadd, 1) := by decide +kernel
theorem dX9_lock_33 : decode cX9_lock 33 = .ok (.istore 4, 2) := by decide +kernel
theorem dX9_lock_35 : decode cX9_lock 35 = .ok (.iload_n 3, 1) := by decide +kernel
theorem dX9_lock_36 : decode cX9_lock 36 = .ok (.ifCond .ne 13, 3) := by decide +kernel
theorem dX9_lock_39 : decode cX9_lock 39 = .ok (.aload_n 0, 1) := by decide +kernel
theorem dX9_lock_40 : decode cX9_lock 40 = .ok (.getfield 22, 3) := by decide +kernel
theorem dX9_lock_43 : decode cX9_lock 43 = .ok (.iload 4, 2) := by decide +kernel
theorem dX9_lock_45 : decode cX9_lock 45 = .ok (.iaload, 1) := by decide +kernel
theorem dX9_lock_46 : decode cX9_lock 46 = .ok (.goto 40, 3) := by decide +kernel
theorem dX9_lock_49 : decode cX9_lock 49 = .ok (.iload_n 3, 1) := by decide +kernel
theorem dX9_lock_50 : decode cX9_lock 50 = .ok (.iconst 1, 1) := by decide +kernel
theorem dX9_lock_51 : decode cX9_lock 51 = .ok (.if_icmp .ne 13, 3) := by decide +kernel
theorem dX9_lock_54 : decode cX9_lock 54 = .ok (.aload_n 0, 1) := by decide +kernel
theorem dX9_lock_55 : decode cX9_lock 55 = .ok (.getfield 25, 3) := by decide +kernel
theorem dX9_lock_58 : decode cX9_lock 58 = .ok (.iload 4, 2) := by decide +kernel
theorem dX9_lock_60 : decode cX9_lock 60 = .ok (.iaload, 1) := by decide +kernel
theorem dX9_lock_61 : decode cX9_lock 61 = .ok (.goto 25, 3) := by decide +kernel
theorem dX9_lock_64 : decode cX9_lock 64 = .ok (.iload_n 3, 1) := by decide +kernel
theorem dX9_lock_65 : decode cX9_lock 65 = .ok (.iconst 2, 1) := by decide +kernel
theorem dX9_lock_66 : decode cX9_lock 66 = .ok (.if_icmp .ne 18, 3) := by decide +kernel
theorem dX9_lock_69 : decode cX9_lock 69 = .ok (.aload_n 0, 1) := by decide +kernel
theorem dX9_lock_70 : decode cX9_lock 70 = .ok (.getfield 101, 3) := by decide +kernel
theorem dX9_lock_73 : decode cX9_lock 73 = .ok (.aload_n 0, 1) := by decide +kernel
theorem dX9_lock_74 : decode cX9_lock 74 = .ok (.getfield 28, 3) := by decide +kernel
theorem dX9_lock_77 : decode cX9_lock 77 = .ok (.iload 4, 2) := by decide +kernel
theorem dX9_lock_79 : decode cX9_lock 79 = .ok (.iaload, 1) := by decide +kernel
theorem dX9_lock_80 : decode cX9_lock 80 = .ok (.isub, 1) := by decide +kernel
theorem dX9_lock_81 : decode cX9_lock 81 = .ok (.goto 5, 3) := by decide +kernel
theorem dX9_lock_84 : decode cX9_lock 84 = .ok (.bipush (-2), 2) := by decide +kernel
theorem dX9_lock_86 : decode cX9_lock 86 = .ok (.ireturn, 1) := by decide +kernel
theorem dX9_power_0 : decode cX9_power 0 = .ok (.aload_n 0, 1) := by decide +kernel
theorem dX9_power_1 : decode cX9_power 1 = .ok (.invokevirtual 159, 3) := by decide +kernel
theorem dX9_power_4 : decode cX9_power 4 = .ok (.iload_n 1, 1) := by decide +kernel
theorem dX9_power_5 : decode cX9_power 5 = .ok (.invokestatic 182, 3) := by decide +kernel
theorem dX9_power_8 : decode cX9_power 8 = .ok (.ifCond .eq 11, 3) := by decide +kernel
theorem dX9_power_11 : decode cX9_power 11 = .ok (.aload_n 0, 1) := by decide +kernel
theorem dX9_power_12 : decode cX9_power 12 = .ok (.iload_n 1, 1) := by decide +kernel
theorem dX9_power_13 : decode cX9_power 13 = .ok (.invokevirtual 114, 3) := by decide +kernel
theorem dX9_power_16 : decode cX9_power 16 = .ok (.goto 4, 3) := by decide +kernel
theorem dX9_power_19 : decode cX9_power 19 = .ok (.iconst (-1), 1) := by decide +kernel
theorem dX9_power_20 : decode cX9_power 20 = .ok (.ireturn, 1) := by decide +kernel
theorem dX9_bears_0 : decode cX9_bears 0 = .ok (.aload_n 0, 1) := by decide +kernel
theorem dX9_bears_1 : decode cX9_bears 1 = .ok (.invokevirtual 159, 3) := by decide +kernel
theorem dX9_bears_4 : decode cX9_bears 4 = .ok (.aload_n 0, 1) := by decide +kernel
theorem dX9_bears_5 : decode cX9_bears 5 = .ok (.invokevirtual 185, 3) := by decide +kernel
theorem dX9_bears_8 : decode cX9_bears 8 = .ok (.ireturn, 1) := by decide +kernel
theorem dX9_ones_0 : decode cX9_ones 0 = .ok (.iconst 0, 1) := by decide +kernel
theorem dX9_ones_1 : decode cX9_ones 1 = .ok (.istore_n 1, 1) := by decide +kernel
theorem dX9_ones_2 : decode cX9_ones 2 = .ok (.iload_n 0, 1) := by decide +kernel
theorem dX9_ones_3 : decode cX9_ones 3 = .ok (.istore_n 2, 1) := by decide +kernel
theorem dX9_ones_4 : decode cX9_ones 4 = .ok (.iload_n 2, 1) := by decide +kernel
theorem dX9_ones_5 : decode cX9_ones 5 = .ok (.ifCond .eq 15, 3) := by decide +kernel
theorem dX9_ones_8 : decode cX9_ones 8 = .ok (.iinc 1 1, 3) := by decide +kernel
theorem dX9_ones_11 : decode cX9_ones 11 = .ok (.iload_n 2, 1) := by decide +kernel
theorem dX9_ones_12 : decode cX9_ones 12 = .ok (.iload_n 2, 1) := by decide +kernel
theorem dX9_ones_13 : decode cX9_ones 13 = .ok (.iconst 1, 1) := by decide +kernel
theorem dX9_ones_14 : decode cX9_ones 14 = .ok (.isub, 1) := by decide +kernel
theorem dX9_ones_15 : decode cX9_ones 15 = .ok (.iand, 1) := by decide +kernel
theorem dX9_ones_16 : decode cX9_ones 16 = .ok (.istore_n 2, 1) := by decide +kernel
theorem dX9_ones_17 : decode cX9_ones 17 = .ok (.goto (-13), 3) := by decide +kernel
theorem dX9_ones_20 : decode cX9_ones 20 = .ok (.iload_n 1, 1) := by decide +kernel
theorem dX9_ones_21 : decode cX9_ones 21 = .ok (.ireturn, 1) := by decide +kernel
theorem dX9_broken_0 : decode cX9_broken 0 = .ok (.iload_n 1, 1) := by decide +kernel
theorem dX9_broken_1 : decode cX9_broken 1 = .ok (.i2l, 1) := by decide +kernel
theorem dX9_broken_2 : decode cX9_broken 2 = .ok (.lconst 0, 1) := by decide +kernel
theorem dX9_broken_3 : decode cX9_broken 3 = .ok (.ldc2_w 188, 3) := by decide +kernel
theorem dX9_broken_6 : decode cX9_broken 6 = .ok (.invokestatic 95, 3) := by decide +kernel
theorem dX9_broken_9 : decode cX9_broken 9 = .ok (.ifCond .ne 6, 3) := by decide +kernel
theorem dX9_broken_12 : decode cX9_broken 12 = .ok (.bipush (-2), 2) := by decide +kernel
theorem dX9_broken_14 : decode cX9_broken 14 = .ok (.ireturn, 1) := by decide +kernel
theorem dX9_broken_15 : decode cX9_broken 15 = .ok (.aload_n 0, 1) := by decide +kernel
theorem dX9_broken_16 : decode cX9_broken 16 = .ok (.invokevirtual 159, 3) := by decide +kernel
theorem dX9_broken_19 : decode cX9_broken 19 = .ok (.iconst 0, 1) := by decide +kernel
theorem dX9_broken_20 : decode cX9_broken 20 = .ok (.istore_n 2, 1) := by decide +kernel
theorem dX9_broken_21 : decode cX9_broken 21 = .ok (.iconst 0, 1) := by decide +kernel
theorem dX9_broken_22 : decode cX9_broken 22 = .ok (.istore_n 3, 1) := by decide +kernel
theorem dX9_broken_23 : decode cX9_broken 23 = .ok (.iload_n 3, 1) := by decide +kernel
theorem dX9_broken_24 : decode cX9_broken 24 = .ok (.iconst 4, 1) := by decide +kernel
theorem dX9_broken_25 : decode cX9_broken 25 = .ok (.if_icmp .ge 27, 3) := by decide +kernel
theorem dX9_broken_28 : decode cX9_broken 28 = .ok (.iload_n 2, 1) := by decide +kernel
theorem dX9_broken_29 : decode cX9_broken 29 = .ok (.aload_n 0, 1) := by decide +kernel
theorem dX9_broken_30 : decode cX9_broken 30 = .ok (.iload_n 3, 1) := by decide +kernel
theorem dX9_broken_31 : decode cX9_broken 31 = .ok (.invokevirtual 114, 3) := by decide +kernel
theorem dX9_broken_34 : decode cX9_broken 34 = .ok (.ifCond .le 9, 3) := by decide +kernel
theorem dX9_broken_37 : decode cX9_broken 37 = .ok (.iconst 1, 1) := by decide +kernel
theorem dX9_broken_38 : decode cX9_broken 38 = .ok (.iload_n 3, 1) := by decide +kernel
theorem dX9_broken_39 : decode cX9_broken 39 = .ok (.ishl, 1) := by decide +kernel
theorem dX9_broken_40 : decode cX9_broken 40 = .ok (.goto 4, 3) := by decide +kernel
theorem dX9_broken_43 : decode cX9_broken 43 = .ok (.iconst 0, 1) := by decide +kernel
theorem dX9_broken_44 : decode cX9_broken 44 = .ok (.ior, 1) := by decide +kernel
theorem dX9_broken_45 : decode cX9_broken 45 = .ok (.istore_n 2, 1) := by decide +kernel
theorem dX9_broken_46 : decode cX9_broken 46 = .ok (.iinc 3 1, 3) := by decide +kernel
theorem dX9_broken_49 : decode cX9_broken 49 = .ok (.goto (-26), 3) := by decide +kernel
theorem dX9_broken_52 : decode cX9_broken 52 = .ok (.iconst 0, 1) := by decide +kernel
theorem dX9_broken_53 : decode cX9_broken 53 = .ok (.istore_n 3, 1) := by decide +kernel
theorem dX9_broken_54 : decode cX9_broken 54 = .ok (.iconst 1, 1) := by decide +kernel
theorem dX9_broken_55 : decode cX9_broken 55 = .ok (.istore 4, 2) := by decide +kernel
theorem dX9_broken_57 : decode cX9_broken 57 = .ok (.iload 4, 2) := by decide +kernel
theorem dX9_broken_59 : decode cX9_broken 59 = .ok (.ifCond .eq 86, 3) := by decide +kernel
theorem dX9_broken_62 : decode cX9_broken 62 = .ok (.iconst 0, 1) := by decide +kernel
theorem dX9_broken_63 : decode cX9_broken 63 = .ok (.istore 5, 2) := by decide +kernel
theorem dX9_broken_65 : decode cX9_broken 65 = .ok (.iconst 0, 1) := by decide +kernel
theorem dX9_broken_66 : decode cX9_broken 66 = .ok (.istore 6, 2) := by decide +kernel
theorem dX9_broken_68 : decode cX9_broken 68 = .ok (.iload 6, 2) := by decide +kernel
theorem dX9_broken_70 : decode cX9_broken 70 = .ok (.iconst 4, 1) := by decide +kernel
theorem dX9_broken_71 : decode cX9_broken 71 = .ok (.if_icmp .ge 47, 3) := by decide +kernel
theorem dX9_broken_74 : decode cX9_broken 74 = .ok (.iload 5, 2) := by decide +kernel
theorem dX9_broken_76 : decode cX9_broken 76 = .ok (.iload_n 2, 1) := by decide +kernel
theorem dX9_broken_77 : decode cX9_broken 77 = .ok (.iload 6, 2) := by decide +kernel
theorem dX9_broken_79 : decode cX9_broken 79 = .ok (.ishr, 1) := by decide +kernel
theorem dX9_broken_80 : decode cX9_broken 80 = .ok (.iconst 1, 1) := by decide +kernel
theorem dX9_broken_81 : decode cX9_broken 81 = .ok (.iand, 1) := by decide +kernel
theorem dX9_broken_82 : decode cX9_broken 82 = .ok (.iconst 1, 1) := by decide +kernel
theorem dX9_broken_83 : decode cX9_broken 83 = .ok (.if_icmp .ne 25, 3) := by decide +kernel
theorem dX9_broken_86 : decode cX9_broken 86 = .ok (.aload_n 0, 1) := by decide +kernel
theorem dX9_broken_87 : decode cX9_broken 87 = .ok (.iload 6, 2) := by decide +kernel
theorem dX9_broken_89 : decode cX9_broken 89 = .ok (.invokevirtual 114, 3) := by decide +kernel
theorem dX9_broken_92 : decode cX9_broken 92 = .ok (.iload_n 2, 1) := by decide +kernel
theorem dX9_broken_93 : decode cX9_broken 93 = .ok (.invokestatic 190, 3) := by decide +kernel
theorem dX9_broken_96 : decode cX9_broken 96 = .ok (.imul, 1) := by decide +kernel
theorem dX9_broken_97 : decode cX9_broken 97 = .ok (.iload_n 1, 1) := by decide +kernel
theorem dX9_broken_98 : decode cX9_broken 98 = .ok (.if_icmp .ge 10, 3) := by decide +kernel
theorem dX9_broken_101 : decode cX9_broken 101 = .ok (.iconst 1, 1) := by decide +kernel
theorem dX9_broken_102 : decode cX9_broken 102 = .ok (.iload 6, 2) := by decide +kernel
theorem dX9_broken_104 : decode cX9_broken 104 = .ok (.ishl, 1) := by decide +kernel
theorem dX9_broken_105 : decode cX9_broken 105 = .ok (.goto 4, 3) := by decide +kernel
theorem dX9_broken_108 : decode cX9_broken 108 = .ok (.iconst 0, 1) := by decide +kernel
theorem dX9_broken_109 : decode cX9_broken 109 = .ok (.ior, 1) := by decide +kernel
theorem dX9_broken_110 : decode cX9_broken 110 = .ok (.istore 5, 2) := by decide +kernel
theorem dX9_broken_112 : decode cX9_broken 112 = .ok (.iinc 6 1, 3) := by decide +kernel
theorem dX9_broken_115 : decode cX9_broken 115 = .ok (.goto (-47), 3) := by decide +kernel
theorem dX9_broken_118 : decode cX9_broken 118 = .ok (.iload_n 2, 1) := by decide +kernel
theorem dX9_broken_119 : decode cX9_broken 119 = .ok (.iload 5, 2) := by decide +kernel
theorem dX9_broken_121 : decode cX9_broken 121 = .ok (.iconst (-1), 1) := by decide +kernel
theorem dX9_broken_122 : decode cX9_broken 122 = .ok (.ixor, 1) := by decide +kernel
theorem dX9_broken_123 : decode cX9_broken 123 = .ok (.iand, 1) := by decide +kernel
theorem dX9_broken_124 : decode cX9_broken 124 = .ok (.istore_n 2, 1) := by decide +kernel
theorem dX9_broken_125 : decode cX9_broken 125 = .ok (.iload_n 3, 1) := by decide +kernel
theorem dX9_broken_126 : decode cX9_broken 126 = .ok (.iload 5, 2) := by decide +kernel
theorem dX9_broken_128 : decode cX9_broken 128 = .ok (.ior, 1) := by decide +kernel
theorem dX9_broken_129 : decode cX9_broken 129 = .ok (.istore_n 3, 1) := by decide +kernel
theorem dX9_broken_130 : decode cX9_broken 130 = .ok (.iload 5, 2) := by decide +kernel
theorem dX9_broken_132 : decode cX9_broken 132 = .ok (.ifCond .eq 7, 3) := by decide +kernel
theorem dX9_broken_135 : decode cX9_broken 135 = .ok (.iconst 1, 1) := by decide +kernel
theorem dX9_broken_136 : decode cX9_broken 136 = .ok (.goto 4, 3) := by decide +kernel
theorem dX9_broken_139 : decode cX9_broken 139 = .ok (.iconst 0, 1) := by decide +kernel
theorem dX9_broken_140 : decode cX9_broken 140 = .ok (.istore 4, 2) := by decide +kernel
theorem dX9_broken_142 : decode cX9_broken 142 = .ok (.goto (-85), 3) := by decide +kernel
theorem dX9_broken_145 : decode cX9_broken 145 = .ok (.iload_n 3, 1) := by decide +kernel
theorem dX9_broken_146 : decode cX9_broken 146 = .ok (.ireturn, 1) := by decide +kernel
theorem dX9_share_0 : decode cX9_share 0 = .ok (.iload_n 1, 1) := by decide +kernel
theorem dX9_share_1 : decode cX9_share 1 = .ok (.invokestatic 118, 3) := by decide +kernel
theorem dX9_share_4 : decode cX9_share 4 = .ok (.ifCond .ne 7, 3) := by decide +kernel
theorem dX9_share_7 : decode cX9_share 7 = .ok (.ldc2_w 193, 3) := by decide +kernel
theorem dX9_share_10 : decode cX9_share 10 = .ok (.lreturn, 1) := by decide +kernel
theorem dX9_share_11 : decode cX9_share 11 = .ok (.iload_n 2, 1) := by decide +kernel
theorem dX9_share_12 : decode cX9_share 12 = .ok (.i2l, 1) := by decide +kernel
theorem dX9_share_13 : decode cX9_share 13 = .ok (.lconst 0, 1) := by decide +kernel
theorem dX9_share_14 : decode cX9_share 14 = .ok (.lconst 1, 1) := by decide +kernel
theorem dX9_share_15 : decode cX9_share 15 = .ok (.invokestatic 95, 3) := by decide +kernel
theorem dX9_share_18 : decode cX9_share 18 = .ok (.ifCond .ne 7, 3) := by decide +kernel
theorem dX9_share_21 : decode cX9_share 21 = .ok (.ldc2_w 195, 3) := by decide +kernel
theorem dX9_share_24 : decode cX9_share 24 = .ok (.lreturn, 1) := by decide +kernel
theorem dX9_share_25 : decode cX9_share 25 = .ok (.aload_n 0, 1) := by decide +kernel
theorem dX9_share_26 : decode cX9_share 26 = .ok (.invokevirtual 159, 3) := by decide +kernel
theorem dX9_share_29 : decode cX9_share 29 = .ok (.lconst 0, 1) := by decide +kernel
theorem dX9_share_30 : decode cX9_share 30 = .ok (.lstore_n 3, 1) := by decide +kernel
theorem dX9_share_31 : decode cX9_share 31 = .ok (.lconst 0, 1) := by decide +kernel
theorem dX9_share_32 : decode cX9_share 32 = .ok (.lstore 5, 2) := by decide +kernel
theorem dX9_share_34 : decode cX9_share 34 = .ok (.iconst 0, 1) := by decide +kernel
theorem dX9_share_35 : decode cX9_share 35 = .ok (.istore 7, 2) := by decide +kernel
theorem dX9_share_37 : decode cX9_share 37 = .ok (.iload 7, 2) := by decide +kernel
theorem dX9_share_39 : decode cX9_share 39 = .ok (.iconst 4, 1) := by decide +kernel
theorem dX9_share_40 : decode cX9_share 40 = .ok (.if_icmp .ge 39, 3) := by decide +kernel
theorem dX9_share_43 : decode cX9_share 43 = .ok (.lload_n 3, 1) := by decide +kernel
theorem dX9_share_44 : decode cX9_share 44 = .ok (.aload_n 0, 1) := by decide +kernel
theorem dX9_share_45 : decode cX9_share 45 = .ok (.iload 7, 2) := by decide +kernel
theorem dX9_share_47 : decode cX9_share 47 = .ok (.invokevirtual 114, 3) := by decide +kernel
theorem dX9_share_50 : decode cX9_share 50 = .ok (.i2l, 1) := by decide +kernel
theorem dX9_share_51 : decode cX9_share 51 = .ok (.ladd, 1) := by decide +kernel
theorem dX9_share_52 : decode cX9_share 52 = .ok (.lstore_n 3, 1) := by decide +kernel
theorem dX9_share_53 : decode cX9_share 53 = .ok (.lload 5, 2) := by decide +kernel
theorem dX9_share_55 : decode cX9_share 55 = .ok (.aload_n 0, 1) := by decide +kernel
theorem dX9_share_56 : decode cX9_share 56 = .ok (.getfield 13, 3) := by decide +kernel
theorem dX9_share_59 : decode cX9_share 59 = .ok (.iload_n 1, 1) := by decide +kernel
theorem dX9_share_60 : decode cX9_share 60 = .ok (.iaload, 1) := by decide +kernel
theorem dX9_share_61 : decode cX9_share 61 = .ok (.aload_n 0, 1) := by decide +kernel
theorem dX9_share_62 : decode cX9_share 62 = .ok (.iload_n 1, 1) := by decide +kernel
theorem dX9_share_63 : decode cX9_share 63 = .ok (.iload 7, 2) := by decide +kernel
theorem dX9_share_65 : decode cX9_share 65 = .ok (.invokevirtual 197, 3) := by decide +kernel
theorem dX9_share_68 : decode cX9_share 68 = .ok (.imul, 1) := by decide +kernel
theorem dX9_share_69 : decode cX9_share 69 = .ok (.i2l, 1) := by decide +kernel
theorem dX9_share_70 : decode cX9_share 70 = .ok (.ladd, 1) := by decide +kernel
theorem dX9_share_71 : decode cX9_share 71 = .ok (.lstore 5, 2) := by decide +kernel
theorem dX9_share_73 : decode cX9_share 73 = .ok (.iinc 7 1, 3) := by decide +kernel
theorem dX9_share_76 : decode cX9_share 76 = .ok (.goto (-39), 3) := by decide +kernel
theorem dX9_share_79 : decode cX9_share 79 = .ok (.lload_n 3, 1) := by decide +kernel
theorem dX9_share_80 : decode cX9_share 80 = .ok (.lconst 0, 1) := by decide +kernel
theorem dX9_share_81 : decode cX9_share 81 = .ok (.lcmp, 1) := by decide +kernel
theorem dX9_share_82 : decode cX9_share 82 = .ok (.ifCond .ne 7, 3) := by decide +kernel
theorem dX9_share_85 : decode cX9_share 85 = .ok (.ldc2_w 200, 3) := by decide +kernel
theorem dX9_share_88 : decode cX9_share 88 = .ok (.lreturn, 1) := by decide +kernel
theorem dX9_share_89 : decode cX9_share 89 = .ok (.lload_n 3, 1) := by decide +kernel
theorem dX9_share_90 : decode cX9_share 90 = .ok (.lstore 7, 2) := by decide +kernel
theorem dX9_share_92 : decode cX9_share 92 = .ok (.lload 5, 2) := by decide +kernel
theorem dX9_share_94 : decode cX9_share 94 = .ok (.lstore 9, 2) := by decide +kernel
theorem dX9_share_96 : decode cX9_share 96 = .ok (.lload 9, 2) := by decide +kernel
theorem dX9_share_98 : decode cX9_share 98 = .ok (.lconst 0, 1) := by decide +kernel
theorem dX9_share_99 : decode cX9_share 99 = .ok (.lcmp, 1) := by decide +kernel
theorem dX9_share_100 : decode cX9_share 100 = .ok (.ifCond .eq 21, 3) := by decide +kernel
theorem dX9_share_103 : decode cX9_share 103 = .ok (.lload 7, 2) := by decide +kernel
theorem dX9_share_105 : decode cX9_share 105 = .ok (.lload 9, 2) := by decide +kernel
theorem dX9_share_107 : decode cX9_share 107 = .ok (.lrem, 1) := by decide +kernel
theorem dX9_share_108 : decode cX9_share 108 = .ok (.lstore 11, 2) := by decide +kernel
theorem dX9_share_110 : decode cX9_share 110 = .ok (.lload 9, 2) := by decide +kernel
theorem dX9_share_112 : decode cX9_share 112 = .ok (.lstore 7, 2) := by decide +kernel
theorem dX9_share_114 : decode cX9_share 114 = .ok (.lload 11, 2) := by decide +kernel
theorem dX9_share_116 : decode cX9_share 116 = .ok (.lstore 9, 2) := by decide +kernel
theorem dX9_share_118 : decode cX9_share 118 = .ok (.goto (-22), 3) := by decide +kernel
theorem dX9_share_121 : decode cX9_share 121 = .ok (.iload_n 2, 1) := by decide +kernel
theorem dX9_share_122 : decode cX9_share 122 = .ok (.ifCond .ne 11, 3) := by decide +kernel
theorem dX9_share_125 : decode cX9_share 125 = .ok (.lload 5, 2) := by decide +kernel
theorem dX9_share_127 : decode cX9_share 127 = .ok (.lload 7, 2) := by decide +kernel
theorem dX9_share_129 : decode cX9_share 129 = .ok (.ldiv, 1) := by decide +kernel
theorem dX9_share_130 : decode cX9_share 130 = .ok (.goto 7, 3) := by decide +kernel
theorem dX9_share_133 : decode cX9_share 133 = .ok (.lload_n 3, 1) := by decide +kernel
theorem dX9_share_134 : decode cX9_share 134 = .ok (.lload 7, 2) := by decide +kernel
theorem dX9_share_136 : decode cX9_share 136 = .ok (.ldiv, 1) := by decide +kernel
theorem dX9_share_137 : decode cX9_share 137 = .ok (.lreturn, 1) := by decide +kernel
theorem dX9_inchesOf_0 : decode cX9_inchesOf 0 = .ok (.iconst 0, 1) := by decide +kernel
theorem dX9_inchesOf_1 : decode cX9_inchesOf 1 = .ok (.istore_n 3, 1) := by decide +kernel
theorem dX9_inchesOf_2 : decode cX9_inchesOf 2 = .ok (.bipush 8, 2) := by decide +kernel
theorem dX9_inchesOf_4 : decode cX9_inchesOf 4 = .ok (.iload_n 2, 1) := by decide +kernel
theorem dX9_inchesOf_5 : decode cX9_inchesOf 5 = .ok (.imul, 1) := by decide +kernel
theorem dX9_inchesOf_6 : decode cX9_inchesOf 6 = .ok (.istore 4, 2) := by decide +kernel
theorem dX9_inchesOf_8 : decode cX9_inchesOf 8 = .ok (.iload 4, 2) := by decide +kernel
theorem dX9_inchesOf_10 : decode cX9_inchesOf 10 = .ok (.bipush 8, 2) := by decide +kernel
theorem dX9_inchesOf_12 : decode cX9_inchesOf 12 = .ok (.iload_n 2, 1) := by decide +kernel
theorem dX9_inchesOf_13 : decode cX9_inchesOf 13 = .ok (.imul, 1) := by decide +kernel
theorem dX9_inchesOf_14 : decode cX9_inchesOf 14 = .ok (.aload_n 0, 1) := by decide +kernel
theorem dX9_inchesOf_15 : decode cX9_inchesOf 15 = .ok (.getfield 64, 3) := by decide +kernel
theorem dX9_inchesOf_18 : decode cX9_inchesOf 18 = .ok (.iload_n 2, 1) := by decide +kernel
theorem dX9_inchesOf_19 : decode cX9_inchesOf 19 = .ok (.iaload, 1) := by decide +kernel
theorem dX9_inchesOf_20 : decode cX9_inchesOf 20 = .ok (.iadd, 1) := by decide +kernel
theorem dX9_inchesOf_21 : decode cX9_inchesOf 21 = .ok (.if_icmp .ge 34, 3) := by decide +kernel
theorem dX9_inchesOf_24 : decode cX9_inchesOf 24 = .ok (.iload_n 3, 1) := by decide +kernel
theorem dX9_inchesOf_25 : decode cX9_inchesOf 25 = .ok (.aload_n 0, 1) := by decide +kernel
theorem dX9_inchesOf_26 : decode cX9_inchesOf 26 = .ok (.getfield 55, 3) := by decide +kernel
theorem dX9_inchesOf_29 : decode cX9_inchesOf 29 = .ok (.iload 4, 2) := by decide +kernel
theorem dX9_inchesOf_31 : decode cX9_inchesOf 31 = .ok (.iaload, 1) := by decide +kernel
theorem dX9_inchesOf_32 : decode cX9_inchesOf 32 = .ok (.iload_n 1, 1) := by decide +kernel
theorem dX9_inchesOf_33 : decode cX9_inchesOf 33 = .ok (.if_icmp .ne 13, 3) := by decide +kernel
theorem dX9_inchesOf_36 : decode cX9_inchesOf 36 = .ok (.aload_n 0, 1) := by decide +kernel
theorem dX9_inchesOf_37 : decode cX9_inchesOf 37 = .ok (.getfield 58, 3) := by decide +kernel
theorem dX9_inchesOf_40 : decode cX9_inchesOf 40 = .ok (.iload 4, 2) := by decide +kernel
theorem dX9_inchesOf_42 : decode cX9_inchesOf 42 = .ok (.iaload, 1) := by decide +kernel
theorem dX9_inchesOf_43 : decode cX9_inchesOf 43 = .ok (.goto 4, 3) := by decide +kernel
theorem dX9_inchesOf_46 : decode cX9_inchesOf 46 = .ok (.iconst 0, 1) := by decide +kernel
theorem dX9_inchesOf_47 : decode cX9_inchesOf 47 = .ok (.iadd, 1) := by decide +kernel
theorem dX9_inchesOf_48 : decode cX9_inchesOf 48 = .ok (.istore_n 3, 1) := by decide +kernel
theorem dX9_inchesOf_49 : decode cX9_inchesOf 49 = .ok (.iinc 4 1, 3) := by decide +kernel
theorem dX9_inchesOf_52 : decode cX9_inchesOf 52 = .ok (.goto (-44), 3) := by decide +kernel
theorem dX9_inchesOf_55 : decode cX9_inchesOf 55 = .ok (.iload_n 3, 1) := by decide +kernel
theorem dX9_inchesOf_56 : decode cX9_inchesOf 56 = .ok (.ireturn, 1) := by decide +kernel
theorem dX9_led_0 : decode cX9_led 0 = .ok (.iload_n 1, 1) := by decide +kernel
theorem dX9_led_1 : decode cX9_led 1 = .ok (.invokestatic 118, 3) := by decide +kernel
theorem dX9_led_4 : decode cX9_led 4 = .ok (.ifCond .ne 5, 3) := by decide +kernel
theorem dX9_led_7 : decode cX9_led 7 = .ok (.iconst (-1), 1) := by decide +kernel
theorem dX9_led_8 : decode cX9_led 8 = .ok (.ireturn, 1) := by decide +kernel
theorem dX9_led_9 : decode cX9_led 9 = .ok (.iload_n 2, 1) := by decide +kernel
theorem dX9_led_10 : decode cX9_led 10 = .ok (.i2l, 1) := by decide +kernel
theorem dX9_led_11 : decode cX9_led 11 = .ok (.lconst 0, 1) := by decide +kernel
theorem dX9_led_12 : decode cX9_led 12 = .ok (.lconst 1, 1) := by decide +kernel
theorem dX9_led_13 : decode cX9_led 13 = .ok (.invokestatic 95, 3) := by decide +kernel
theorem dX9_led_16 : decode cX9_led 16 = .ok (.ifCond .ne 6, 3) := by decide +kernel
theorem dX9_led_19 : decode cX9_led 19 = .ok (.bipush (-2), 2) := by decide +kernel
theorem dX9_led_21 : decode cX9_led 21 = .ok (.ireturn, 1) := by decide +kernel
theorem dX9_led_22 : decode cX9_led 22 = .ok (.aload_n 0, 1) := by decide +kernel
theorem dX9_led_23 : decode cX9_led 23 = .ok (.invokevirtual 159, 3) := by decide +kernel
theorem dX9_led_26 : decode cX9_led 26 = .ok (.iconst 0, 1) := by decide +kernel
theorem dX9_led_27 : decode cX9_led 27 = .ok (.istore_n 3, 1) := by decide +kernel
theorem dX9_led_28 : decode cX9_led 28 = .ok (.iconst 0, 1) := by decide +kernel
theorem dX9_led_29 : decode cX9_led 29 = .ok (.istore 4, 2) := by decide +kernel
theorem dX9_led_31 : decode cX9_led 31 = .ok (.iload 4, 2) := by decide +kernel
theorem dX9_led_33 : decode cX9_led 33 = .ok (.iconst 4, 1) := by decide +kernel
theorem dX9_led_34 : decode cX9_led 34 = .ok (.if_icmp .ge 19, 3) := by decide +kernel
theorem dX9_led_37 : decode cX9_led 37 = .ok (.iload_n 3, 1) := by decide +kernel
theorem dX9_led_38 : decode cX9_led 38 = .ok (.aload_n 0, 1) := by decide +kernel
theorem dX9_led_39 : decode cX9_led 39 = .ok (.iload_n 1, 1) := by decide +kernel
theorem dX9_led_40 : decode cX9_led 40 = .ok (.iload 4, 2) := by decide +kernel
theorem dX9_led_42 : decode cX9_led 42 = .ok (.invokevirtual 197, 3) := by decide +kernel
theorem dX9_led_45 : decode cX9_led 45 = .ok (.iadd, 1) := by decide +kernel
theorem dX9_led_46 : decode cX9_led 46 = .ok (.istore_n 3, 1) := by decide +kernel
theorem dX9_led_47 : decode cX9_led 47 = .ok (.iinc 4 1, 3) := by decide +kernel
theorem dX9_led_50 : decode cX9_led 50 = .ok (.goto (-19), 3) := by decide +kernel
theorem dX9_led_53 : decode cX9_led 53 = .ok (.iload_n 2, 1) := by decide +kernel
theorem dX9_led_54 : decode cX9_led 54 = .ok (.ifCond .ne 7, 3) := by decide +kernel
theorem dX9_led_57 : decode cX9_led 57 = .ok (.iload_n 3, 1) := by decide +kernel
theorem dX9_led_58 : decode cX9_led 58 = .ok (.goto 9, 3) := by decide +kernel
theorem dX9_led_61 : decode cX9_led 61 = .ok (.aload_n 0, 1) := by decide +kernel
theorem dX9_led_62 : decode cX9_led 62 = .ok (.getfield 19, 3) := by decide +kernel
theorem dX9_led_65 : decode cX9_led 65 = .ok (.iload_n 1, 1) := by decide +kernel
theorem dX9_led_66 : decode cX9_led 66 = .ok (.iaload, 1) := by decide +kernel
theorem dX9_led_67 : decode cX9_led 67 = .ok (.ireturn, 1) := by decide +kernel
theorem dX9_load_0 : decode cX9_load 0 = .ok (.iload_n 1, 1) := by decide +kernel
theorem dX9_load_1 : decode cX9_load 1 = .ok (.i2l, 1) := by decide +kernel
theorem dX9_load_2 : decode cX9_load 2 = .ok (.lconst 0, 1) := by decide +kernel
theorem dX9_load_3 : decode cX9_load 3 = .ok (.ldc2_w 202, 3) := by decide +kernel
theorem dX9_load_6 : decode cX9_load 6 = .ok (.invokestatic 95, 3) := by decide +kernel
theorem dX9_load_9 : decode cX9_load 9 = .ok (.ifCond .eq 15, 3) := by decide +kernel
theorem dX9_load_12 : decode cX9_load 12 = .ok (.iload_n 2, 1) := by decide +kernel
theorem dX9_load_13 : decode cX9_load 13 = .ok (.i2l, 1) := by decide +kernel
theorem dX9_load_14 : decode cX9_load 14 = .ok (.lconst 0, 1) := by decide +kernel
theorem dX9_load_15 : decode cX9_load 15 = .ok (.ldc2_w 204, 3) := by decide +kernel
theorem dX9_load_18 : decode cX9_load 18 = .ok (.invokestatic 95, 3) := by decide +kernel
theorem dX9_load_21 : decode cX9_load 21 = .ok (.ifCond .ne 6, 3) := by decide +kernel
theorem dX9_load_24 : decode cX9_load 24 = .ok (.bipush (-2), 2) := by decide +kernel
theorem dX9_load_26 : decode cX9_load 26 = .ok (.ireturn, 1) := by decide +kernel
theorem dX9_load_27 : decode cX9_load 27 = .ok (.aload_n 0, 1) := by decide +kernel
theorem dX9_load_28 : decode cX9_load 28 = .ok (.getfield 206, 3) := by decide +kernel
theorem dX9_load_31 : decode cX9_load 31 = .ok (.bipush 6, 2) := by decide +kernel
theorem dX9_load_33 : decode cX9_load 33 = .ok (.if_icmp .ne 6, 3) := by decide +kernel
theorem dX9_load_36 : decode cX9_load 36 = .ok (.bipush (-4), 2) := by decide +kernel
theorem dX9_load_38 : decode cX9_load 38 = .ok (.ireturn, 1) := by decide +kernel
theorem dX9_load_39 : decode cX9_load 39 = .ok (.aload_n 0, 1) := by decide +kernel
theorem dX9_load_40 : decode cX9_load 40 = .ok (.getfield 34, 3) := by decide +kernel
theorem dX9_load_43 : decode cX9_load 43 = .ok (.aload_n 0, 1) := by decide +kernel
theorem dX9_load_44 : decode cX9_load 44 = .ok (.getfield 206, 3) := by decide +kernel
theorem dX9_load_47 : decode cX9_load 47 = .ok (.iload_n 1, 1) := by decide +kernel
theorem dX9_load_48 : decode cX9_load 48 = .ok (.iastore, 1) := by decide +kernel
theorem dX9_load_49 : decode cX9_load 49 = .ok (.aload_n 0, 1) := by decide +kernel
theorem dX9_load_50 : decode cX9_load 50 = .ok (.getfield 37, 3) := by decide +kernel
theorem dX9_load_53 : decode cX9_load 53 = .ok (.aload_n 0, 1) := by decide +kernel
theorem dX9_load_54 : decode cX9_load 54 = .ok (.getfield 206, 3) := by decide +kernel
theorem dX9_load_57 : decode cX9_load 57 = .ok (.iload_n 2, 1) := by decide +kernel
theorem dX9_load_58 : decode cX9_load 58 = .ok (.iastore, 1) := by decide +kernel
theorem dX9_load_59 : decode cX9_load 59 = .ok (.aload_n 0, 1) := by decide +kernel
theorem dX9_load_60 : decode cX9_load 60 = .ok (.dup, 1) := by decide +kernel
theorem dX9_load_61 : decode cX9_load 61 = .ok (.getfield 206, 3) := by decide +kernel
theorem dX9_load_64 : decode cX9_load 64 = .ok (.iconst 1, 1) := by decide +kernel
theorem dX9_load_65 : decode cX9_load 65 = .ok (.iadd, 1) := by decide +kernel
theorem dX9_load_66 : decode cX9_load 66 = .ok (.putfield 206, 3) := by decide +kernel
theorem dX9_load_69 : decode cX9_load 69 = .ok (.aload_n 0, 1) := by decide +kernel
theorem dX9_load_70 : decode cX9_load 70 = .ok (.getfield 206, 3) := by decide +kernel
theorem dX9_load_73 : decode cX9_load 73 = .ok (.ireturn, 1) := by decide +kernel
theorem dX9_drop_0 : decode cX9_drop 0 = .ok (.aload_n 0, 1) := by decide +kernel
theorem dX9_drop_1 : decode cX9_drop 1 = .ok (.getfield 206, 3) := by decide +kernel
theorem dX9_drop_4 : decode cX9_drop 4 = .ok (.istore_n 1, 1) := by decide +kernel
theorem dX9_drop_5 : decode cX9_drop 5 = .ok (.aload_n 0, 1) := by decide +kernel
theorem dX9_drop_6 : decode cX9_drop 6 = .ok (.iconst 0, 1) := by decide +kernel
theorem dX9_drop_7 : decode cX9_drop 7 = .ok (.putfield 206, 3) := by decide +kernel
theorem dX9_drop_10 : decode cX9_drop 10 = .ok (.iload_n 1, 1) := by decide +kernel
theorem dX9_drop_11 : decode cX9_drop 11 = .ok (.ireturn, 1) := by decide +kernel
theorem dX9_layOrder_0 : decode cX9_layOrder 0 = .ok (.iload_n 1, 1) := by decide +kernel
theorem dX9_layOrder_1 : decode cX9_layOrder 1 = .ok (.istore_n 2, 1) := by decide +kernel
theorem dX9_layOrder_2 : decode cX9_layOrder 2 = .ok (.iconst 0, 1) := by decide +kernel
theorem dX9_layOrder_3 : decode cX9_layOrder 3 = .ok (.istore_n 3, 1) := by decide +kernel
theorem dX9_layOrder_4 : decode cX9_layOrder 4 = .ok (.aload_n 0, 1) := by decide +kernel
theorem dX9_layOrder_5 : decode cX9_layOrder 5 = .ok (.getfield 206, 3) := by decide +kernel
theorem dX9_layOrder_8 : decode cX9_layOrder 8 = .ok (.iconst 1, 1) := by decide +kernel
theorem dX9_layOrder_9 : decode cX9_layOrder 9 = .ok (.isub, 1) := by decide +kernel
theorem dX9_layOrder_10 : decode cX9_layOrder 10 = .ok (.istore 4, 2) := by decide +kernel
theorem dX9_layOrder_12 : decode cX9_layOrder 12 = .ok (.iload 4, 2) := by decide +kernel
theorem dX9_layOrder_14 : decode cX9_layOrder 14 = .ok (.ifCond .lt 41, 3) := by decide +kernel
theorem dX9_layOrder_17 : decode cX9_layOrder 17 = .ok (.aload_n 0, 1) := by decide +kernel
theorem dX9_layOrder_18 : decode cX9_layOrder 18 = .ok (.getfield 70, 3) := by decide +kernel
theorem dX9_layOrder_21 : decode cX9_layOrder 21 = .ok (.iload 4, 2) := by decide +kernel
theorem dX9_layOrder_23 : decode cX9_layOrder 23 = .ok (.iload_n 2, 1) := by decide +kernel
theorem dX9_layOrder_24 : decode cX9_layOrder 24 = .ok (.aload_n 0, 1) := by decide +kernel
theorem dX9_layOrder_25 : decode cX9_layOrder 25 = .ok (.getfield 206, 3) := by decide +kernel
theorem dX9_layOrder_28 : decode cX9_layOrder 28 = .ok (.irem, 1) := by decide +kernel
theorem dX9_layOrder_29 : decode cX9_layOrder 29 = .ok (.iastore, 1) := by decide +kernel
theorem dX9_layOrder_30 : decode cX9_layOrder 30 = .ok (.iload_n 3, 1) := by decide +kernel
theorem dX9_layOrder_31 : decode cX9_layOrder 31 = .ok (.iconst 1, 1) := by decide +kernel
theorem dX9_layOrder_32 : decode cX9_layOrder 32 = .ok (.aload_n 0, 1) := by decide +kernel
theorem dX9_layOrder_33 : decode cX9_layOrder 33 = .ok (.getfield 70, 3) := by decide +kernel
theorem dX9_layOrder_36 : decode cX9_layOrder 36 = .ok (.iload 4, 2) := by decide +kernel
theorem dX9_layOrder_38 : decode cX9_layOrder 38 = .ok (.iaload, 1) := by decide +kernel
theorem dX9_layOrder_39 : decode cX9_layOrder 39 = .ok (.ishl, 1) := by decide +kernel
theorem dX9_layOrder_40 : decode cX9_layOrder 40 = .ok (.ior, 1) := by decide +kernel
theorem dX9_layOrder_41 : decode cX9_layOrder 41 = .ok (.istore_n 3, 1) := by decide +kernel
theorem dX9_layOrder_42 : decode cX9_layOrder 42 = .ok (.iload_n 2, 1) := by decide +kernel
theorem dX9_layOrder_43 : decode cX9_layOrder 43 = .ok (.aload_n 0, 1) := by decide +kernel
theorem dX9_layOrder_44 : decode cX9_layOrder 44 = .ok (.getfield 206, 3) := by decide +kernel
theorem dX9_layOrder_47 : decode cX9_layOrder 47 = .ok (.idiv, 1) := by decide +kernel
theorem dX9_layOrder_48 : decode cX9_layOrder 48 = .ok (.istore_n 2, 1) := by decide +kernel
theorem dX9_layOrder_49 : decode cX9_layOrder 49 = .ok (.iinc 4 (-1), 3) := by decide +kernel
theorem dX9_layOrder_52 : decode cX9_layOrder 52 = .ok (.goto (-40), 3) := by decide +kernel
theorem dX9_layOrder_55 : decode cX9_layOrder 55 = .ok (.iload_n 3, 1) := by decide +kernel
theorem dX9_layOrder_56 : decode cX9_layOrder 56 = .ok (.iconst 1, 1) := by decide +kernel
theorem dX9_layOrder_57 : decode cX9_layOrder 57 = .ok (.aload_n 0, 1) := by decide +kernel
theorem dX9_layOrder_58 : decode cX9_layOrder 58 = .ok (.getfield 206, 3) := by decide +kernel
theorem dX9_layOrder_61 : decode cX9_layOrder 61 = .ok (.ishl, 1) := by decide +kernel
theorem dX9_layOrder_62 : decode cX9_layOrder 62 = .ok (.iconst 1, 1) := by decide +kernel
theorem dX9_layOrder_63 : decode cX9_layOrder 63 = .ok (.isub, 1) := by decide +kernel
theorem dX9_layOrder_64 : decode cX9_layOrder 64 = .ok (.if_icmp .ne 7, 3) := by decide +kernel
theorem dX9_layOrder_67 : decode cX9_layOrder 67 = .ok (.iconst 1, 1) := by decide +kernel
theorem dX9_layOrder_68 : decode cX9_layOrder 68 = .ok (.goto 4, 3) := by decide +kernel
theorem dX9_layOrder_71 : decode cX9_layOrder 71 = .ok (.iconst 0, 1) := by decide +kernel
theorem dX9_layOrder_72 : decode cX9_layOrder 72 = .ok (.ireturn, 1) := by decide +kernel
theorem dX9_worthOfOrder_0 : decode cX9_worthOfOrder 0 = .ok (.aload_n 0, 1) := by decide +kernel
theorem dX9_worthOfOrder_1 : decode cX9_worthOfOrder 1 = .ok (.invokevirtual 159, 3) := by decide +kernel
theorem dX9_worthOfOrder_4 : decode cX9_worthOfOrder 4 = .ok (.iconst 0, 1) := by decide +kernel
theorem dX9_worthOfOrder_5 : decode cX9_worthOfOrder 5 = .ok (.istore_n 1, 1) := by decide +kernel
theorem dX9_worthOfOrder_6 : decode cX9_worthOfOrder 6 = .ok (.iconst 0, 1) := by decide +kernel
theorem dX9_worthOfOrder_7 : decode cX9_worthOfOrder 7 = .ok (.istore_n 2, 1) := by decide +kernel
theorem dX9_worthOfOrder_8 : decode cX9_worthOfOrder 8 = .ok (.iload_n 2, 1) := by decide +kernel
theorem dX9_worthOfOrder_9 : decode cX9_worthOfOrder 9 = .ok (.aload_n 0, 1) := by decide +kernel
theorem dX9_worthOfOrder_10 : decode cX9_worthOfOrder 10 = .ok (.getfield 206, 3) := by decide +kernel
theorem dX9_worthOfOrder_13 : decode cX9_worthOfOrder 13 = .ok (.if_icmp .ge 46, 3) := by decide +kernel
theorem dX9_worthOfOrder_16 : decode cX9_worthOfOrder 16 = .ok (.aload_n 0, 1) := by decide +kernel
theorem dX9_worthOfOrder_17 : decode cX9_worthOfOrder 17 = .ok (.getfield 34, 3) := by decide +kernel
theorem dX9_worthOfOrder_20 : decode cX9_worthOfOrder 20 = .ok (.aload_n 0, 1) := by decide +kernel
theorem dX9_worthOfOrder_21 : decode cX9_worthOfOrder 21 = .ok (.getfield 70, 3) := by decide +kernel
theorem dX9_worthOfOrder_24 : decode cX9_worthOfOrder 24 = .ok (.iload_n 2, 1) := by decide +kernel
theorem dX9_worthOfOrder_25 : decode cX9_worthOfOrder 25 = .ok (.iaload, 1) := by decide +kernel
theorem dX9_worthOfOrder_26 : decode cX9_worthOfOrder 26 = .ok (.iaload, 1) := by decide +kernel
theorem dX9_worthOfOrder_27 : decode cX9_worthOfOrder 27 = .ok (.aload_n 0, 1) := by decide +kernel
theorem dX9_worthOfOrder_28 : decode cX9_worthOfOrder 28 = .ok (.invokevirtual 185, 3) := by decide +kernel
theorem dX9_worthOfOrder_31 : decode cX9_worthOfOrder 31 = .ok (.if_icmp .gt 22, 3) := by decide +kernel
theorem dX9_worthOfOrder_34 : decode cX9_worthOfOrder 34 = .ok (.iload_n 1, 1) := by decide +kernel
theorem dX9_worthOfOrder_35 : decode cX9_worthOfOrder 35 = .ok (.aload_n 0, 1) := by decide +kernel
theorem dX9_worthOfOrder_36 : decode cX9_worthOfOrder 36 = .ok (.getfield 37, 3) := by decide +kernel
theorem dX9_worthOfOrder_39 : decode cX9_worthOfOrder 39 = .ok (.aload_n 0, 1) := by decide +kernel
theorem dX9_worthOfOrder_40 : decode cX9_worthOfOrder 40 = .ok (.getfield 70, 3) := by decide +kernel
theorem dX9_worthOfOrder_43 : decode cX9_worthOfOrder 43 = .ok (.iload_n 2, 1) := by decide +kernel
theorem dX9_worthOfOrder_44 : decode cX9_worthOfOrder 44 = .ok (.iaload, 1) := by decide +kernel
theorem dX9_worthOfOrder_45 : decode cX9_worthOfOrder 45 = .ok (.iaload, 1) := by decide +kernel
theorem dX9_worthOfOrder_46 : decode cX9_worthOfOrder 46 = .ok (.iadd, 1) := by decide +kernel
theorem dX9_worthOfOrder_47 : decode cX9_worthOfOrder 47 = .ok (.istore_n 1, 1) := by decide +kernel
theorem dX9_worthOfOrder_48 : decode cX9_worthOfOrder 48 = .ok (.aload_n 0, 1) := by decide +kernel
theorem dX9_worthOfOrder_49 : decode cX9_worthOfOrder 49 = .ok (.iconst 1, 1) := by decide +kernel
theorem dX9_worthOfOrder_50 : decode cX9_worthOfOrder 50 = .ok (.invokevirtual 111, 3) := by decide +kernel
theorem dX9_worthOfOrder_53 : decode cX9_worthOfOrder 53 = .ok (.iinc 2 1, 3) := by decide +kernel
theorem dX9_worthOfOrder_56 : decode cX9_worthOfOrder 56 = .ok (.goto (-48), 3) := by decide +kernel
theorem dX9_worthOfOrder_59 : decode cX9_worthOfOrder 59 = .ok (.iload_n 1, 1) := by decide +kernel
theorem dX9_worthOfOrder_60 : decode cX9_worthOfOrder 60 = .ok (.ireturn, 1) := by decide +kernel
theorem dX9_best_0 : decode cX9_best 0 = .ok (.iconst 1, 1) := by decide +kernel
theorem dX9_best_1 : decode cX9_best 1 = .ok (.istore_n 2, 1) := by decide +kernel
theorem dX9_best_2 : decode cX9_best 2 = .ok (.iconst 0, 1) := by decide +kernel
theorem dX9_best_3 : decode cX9_best 3 = .ok (.istore_n 3, 1) := by decide +kernel
theorem dX9_best_4 : decode cX9_best 4 = .ok (.iload_n 3, 1) := by decide +kernel
theorem dX9_best_5 : decode cX9_best 5 = .ok (.aload_n 0, 1) := by decide +kernel
theorem dX9_best_6 : decode cX9_best 6 = .ok (.getfield 206, 3) := by decide +kernel
theorem dX9_best_9 : decode cX9_best 9 = .ok (.if_icmp .ge 16, 3) := by decide +kernel
theorem dX9_best_12 : decode cX9_best 12 = .ok (.iload_n 2, 1) := by decide +kernel
theorem dX9_best_13 : decode cX9_best 13 = .ok (.aload_n 0, 1) := by decide +kernel
theorem dX9_best_14 : decode cX9_best 14 = .ok (.getfield 206, 3) := by decide +kernel
theorem dX9_best_17 : decode cX9_best 17 = .ok (.imul, 1) := by decide +kernel
theorem dX9_best_18 : decode cX9_best 18 = .ok (.istore_n 2, 1) := by decide +kernel
theorem dX9_best_19 : decode cX9_best 19 = .ok (.iinc 3 1, 3) := by decide +kernel
theorem dX9_best_22 : decode cX9_best 22 = .ok (.goto (-18), 3) := by decide +kernel
theorem dX9_best_25 : decode cX9_best 25 = .ok (.bipush (-6), 2) := by decide +kernel
theorem dX9_best_27 : decode cX9_best 27 = .ok (.istore_n 3, 1) := by decide +kernel
theorem dX9_best_28 : decode cX9_best 28 = .ok (.iconst 0, 1) := by decide +kernel
theorem dX9_best_29 : decode cX9_best 29 = .ok (.istore 4, 2) := by decide +kernel
theorem dX9_best_31 : decode cX9_best 31 = .ok (.iconst 0, 1) := by decide +kernel
theorem dX9_best_32 : decode cX9_best 32 = .ok (.istore 5, 2) := by decide +kernel
theorem dX9_best_34 : decode cX9_best 34 = .ok (.iload 5, 2) := by decide +kernel
theorem dX9_best_36 : decode cX9_best 36 = .ok (.iload_n 2, 1) := by decide +kernel
theorem dX9_best_37 : decode cX9_best 37 = .ok (.if_icmp .ge 37, 3) := by decide +kernel
theorem dX9_best_40 : decode cX9_best 40 = .ok (.aload_n 0, 1) := by decide +kernel
theorem dX9_best_41 : decode cX9_best 41 = .ok (.iload 5, 2) := by decide +kernel
theorem dX9_best_43 : decode cX9_best 43 = .ok (.invokevirtual 209, 3) := by decide +kernel
theorem dX9_best_46 : decode cX9_best 46 = .ok (.ifCond .eq 22, 3) := by decide +kernel
theorem dX9_best_49 : decode cX9_best 49 = .ok (.aload_n 0, 1) := by decide +kernel
theorem dX9_best_50 : decode cX9_best 50 = .ok (.invokevirtual 212, 3) := by decide +kernel
theorem dX9_best_53 : decode cX9_best 53 = .ok (.istore 6, 2) := by decide +kernel
theorem dX9_best_55 : decode cX9_best 55 = .ok (.iload 6, 2) := by decide +kernel
theorem dX9_best_57 : decode cX9_best 57 = .ok (.iload_n 3, 1) := by decide +kernel
theorem dX9_best_58 : decode cX9_best 58 = .ok (.if_icmp .le 10, 3) := by decide +kernel
theorem dX9_best_61 : decode cX9_best 61 = .ok (.iload 6, 2) := by decide +kernel
theorem dX9_best_63 : decode cX9_best 63 = .ok (.istore_n 3, 1) := by decide +kernel
theorem dX9_best_64 : decode cX9_best 64 = .ok (.iload 5, 2) := by decide +kernel
theorem dX9_best_66 : decode cX9_best 66 = .ok (.istore 4, 2) := by decide +kernel
theorem dX9_best_68 : decode cX9_best 68 = .ok (.iinc 5 1, 3) := by decide +kernel
theorem dX9_best_71 : decode cX9_best 71 = .ok (.goto (-37), 3) := by decide +kernel
theorem dX9_best_74 : decode cX9_best 74 = .ok (.iload_n 1, 1) := by decide +kernel
theorem dX9_best_75 : decode cX9_best 75 = .ok (.iconst (-1), 1) := by decide +kernel
theorem dX9_best_76 : decode cX9_best 76 = .ok (.if_icmp .ne 5, 3) := by decide +kernel
theorem dX9_best_79 : decode cX9_best 79 = .ok (.iload_n 3, 1) := by decide +kernel
theorem dX9_best_80 : decode cX9_best 80 = .ok (.ireturn, 1) := by decide +kernel
theorem dX9_best_81 : decode cX9_best 81 = .ok (.aload_n 0, 1) := by decide +kernel
theorem dX9_best_82 : decode cX9_best 82 = .ok (.iload 4, 2) := by decide +kernel
theorem dX9_best_84 : decode cX9_best 84 = .ok (.invokevirtual 209, 3) := by decide +kernel
theorem dX9_best_87 : decode cX9_best 87 = .ok (.pop, 1) := by decide +kernel
theorem dX9_best_88 : decode cX9_best 88 = .ok (.iload_n 1, 1) := by decide +kernel
theorem dX9_best_89 : decode cX9_best 89 = .ok (.i2l, 1) := by decide +kernel
theorem dX9_best_90 : decode cX9_best 90 = .ok (.lconst 0, 1) := by decide +kernel
theorem dX9_best_91 : decode cX9_best 91 = .ok (.aload_n 0, 1) := by decide +kernel
theorem dX9_best_92 : decode cX9_best 92 = .ok (.getfield 206, 3) := by decide +kernel
theorem dX9_best_95 : decode cX9_best 95 = .ok (.iconst 1, 1) := by decide +kernel
theorem dX9_best_96 : decode cX9_best 96 = .ok (.isub, 1) := by decide +kernel
theorem dX9_best_97 : decode cX9_best 97 = .ok (.i2l, 1) := by decide +kernel
theorem dX9_best_98 : decode cX9_best 98 = .ok (.invokestatic 95, 3) := by decide +kernel
theorem dX9_best_101 : decode cX9_best 101 = .ok (.ifCond .eq 12, 3) := by decide +kernel
theorem dX9_best_104 : decode cX9_best 104 = .ok (.aload_n 0, 1) := by decide +kernel
theorem dX9_best_105 : decode cX9_best 105 = .ok (.getfield 70, 3) := by decide +kernel
theorem dX9_best_108 : decode cX9_best 108 = .ok (.iload_n 1, 1) := by decide +kernel
theorem dX9_best_109 : decode cX9_best 109 = .ok (.iaload, 1) := by decide +kernel
theorem dX9_best_110 : decode cX9_best 110 = .ok (.goto 5, 3) := by decide +kernel
theorem dX9_best_113 : decode cX9_best 113 = .ok (.bipush (-6), 2) := by decide +kernel
theorem dX9_best_115 : decode cX9_best 115 = .ok (.ireturn, 1) := by decide +kernel
theorem dX9_badWeek_0 : decode cX9_badWeek 0 = .ok (.aload_n 0, 1) := by decide +kernel
theorem dX9_badWeek_1 : decode cX9_badWeek 1 = .ok (.invokevirtual 159, 3) := by decide +kernel
theorem dX9_badWeek_4 : decode cX9_badWeek 4 = .ok (.aload_n 0, 1) := by decide +kernel
theorem dX9_badWeek_5 : decode cX9_badWeek 5 = .ok (.iconst 0, 1) := by decide +kernel
theorem dX9_badWeek_6 : decode cX9_badWeek 6 = .ok (.putfield 215, 3) := by decide +kernel
theorem dX9_badWeek_9 : decode cX9_badWeek 9 = .ok (.iconst 1, 1) := by decide +kernel
theorem dX9_badWeek_10 : decode cX9_badWeek 10 = .ok (.istore 4, 2) := by decide +kernel
theorem dX9_badWeek_12 : decode cX9_badWeek 12 = .ok (.iconst 1, 1) := by decide +kernel
theorem dX9_badWeek_13 : decode cX9_badWeek 13 = .ok (.istore 5, 2) := by decide +kernel
theorem dX9_badWeek_15 : decode cX9_badWeek 15 = .ok (.iload 5, 2) := by decide +kernel
theorem dX9_badWeek_17 : decode cX9_badWeek 17 = .ok (.iload_n 2, 1) := by decide +kernel
theorem dX9_badWeek_18 : decode cX9_badWeek 18 = .ok (.if_icmp .ge 16, 3) := by decide +kernel
theorem dX9_badWeek_21 : decode cX9_badWeek 21 = .ok (.iload 4, 2) := by decide +kernel
theorem dX9_badWeek_23 : decode cX9_badWeek 23 = .ok (.bipush 25, 2) := by decide +kernel
theorem dX9_badWeek_25 : decode cX9_badWeek 25 = .ok (.imul, 1) := by decide +kernel
theorem dX9_badWeek_26 : decode cX9_badWeek 26 = .ok (.istore 4, 2) := by decide +kernel
theorem dX9_badWeek_28 : decode cX9_badWeek 28 = .ok (.iinc 5 1, 3) := by decide +kernel
theorem dX9_badWeek_31 : decode cX9_badWeek 31 = .ok (.goto (-16), 3) := by decide +kernel
theorem dX9_badWeek_34 : decode cX9_badWeek 34 = .ok (.iload_n 1, 1) := by decide +kernel
theorem dX9_badWeek_35 : decode cX9_badWeek 35 = .ok (.istore 5, 2) := by decide +kernel
theorem dX9_badWeek_37 : decode cX9_badWeek 37 = .ok (.iconst 0, 1) := by decide +kernel
theorem dX9_badWeek_38 : decode cX9_badWeek 38 = .ok (.istore 6, 2) := by decide +kernel
theorem dX9_badWeek_40 : decode cX9_badWeek 40 = .ok (.iload 6, 2) := by decide +kernel
theorem dX9_badWeek_42 : decode cX9_badWeek 42 = .ok (.iload_n 2, 1) := by decide +kernel
theorem dX9_badWeek_43 : decode cX9_badWeek 43 = .ok (.if_icmp .ge 134, 3) := by decide +kernel
theorem dX9_badWeek_46 : decode cX9_badWeek 46 = .ok (.aload_n 0, 1) := by decide +kernel
theorem dX9_badWeek_47 : decode cX9_badWeek 47 = .ok (.getfield 73, 3) := by decide +kernel
theorem dX9_badWeek_50 : decode cX9_badWeek 50 = .ok (.iload 6, 2) := by decide +kernel
theorem dX9_badWeek_52 : decode cX9_badWeek 52 = .ok (.iload 5, 2) := by decide +kernel
theorem dX9_badWeek_54 : decode cX9_badWeek 54 = .ok (.iload 4, 2) := by decide +kernel
theorem dX9_badWeek_56 : decode cX9_badWeek 56 = .ok (.idiv, 1) := by decide +kernel
theorem dX9_badWeek_57 : decode cX9_badWeek 57 = .ok (.iastore, 1) := by decide +kernel
theorem dX9_badWeek_58 : decode cX9_badWeek 58 = .ok (.iload 5, 2) := by decide +kernel
theorem dX9_badWeek_60 : decode cX9_badWeek 60 = .ok (.iload 4, 2) := by decide +kernel
theorem dX9_badWeek_62 : decode cX9_badWeek 62 = .ok (.irem, 1) := by decide +kernel
theorem dX9_badWeek_63 : decode cX9_badWeek 63 = .ok (.istore 5, 2) := by decide +kernel
theorem dX9_badWeek_65 : decode cX9_badWeek 65 = .ok (.iload 4, 2) := by decide +kernel
theorem dX9_badWeek_67 : decode cX9_badWeek 67 = .ok (.bipush 25, 2) := by decide +kernel
theorem dX9_badWeek_69 : decode cX9_badWeek 69 = .ok (.idiv, 1) := by decide +kernel
theorem dX9_badWeek_70 : decode cX9_badWeek 70 = .ok (.istore 4, 2) := by decide +kernel
theorem dX9_badWeek_72 : decode cX9_badWeek 72 = .ok (.aload_n 0, 1) := by decide +kernel
theorem dX9_badWeek_73 : decode cX9_badWeek 73 = .ok (.getfield 73, 3) := by decide +kernel
theorem dX9_badWeek_76 : decode cX9_badWeek 76 = .ok (.iload 6, 2) := by decide +kernel
theorem dX9_badWeek_78 : decode cX9_badWeek 78 = .ok (.iaload, 1) := by decide +kernel
theorem dX9_badWeek_79 : decode cX9_badWeek 79 = .ok (.iconst 1, 1) := by decide +kernel
theorem dX9_badWeek_80 : decode cX9_badWeek 80 = .ok (.isub, 1) := by decide +kernel
theorem dX9_badWeek_81 : decode cX9_badWeek 81 = .ok (.iconst 4, 1) := by decide +kernel
theorem dX9_badWeek_82 : decode cX9_badWeek 82 = .ok (.idiv, 1) := by decide +kernel
theorem dX9_badWeek_83 : decode cX9_badWeek 83 = .ok (.istore 7, 2) := by decide +kernel
theorem dX9_badWeek_85 : decode cX9_badWeek 85 = .ok (.aload_n 0, 1) := by decide +kernel
theorem dX9_badWeek_86 : decode cX9_badWeek 86 = .ok (.getfield 73, 3) := by decide +kernel
theorem dX9_badWeek_89 : decode cX9_badWeek 89 = .ok (.iload 6, 2) := by decide +kernel
theorem dX9_badWeek_91 : decode cX9_badWeek 91 = .ok (.iaload, 1) := by decide +kernel
theorem dX9_badWeek_92 : decode cX9_badWeek 92 = .ok (.iconst 3, 1) := by decide +kernel
theorem dX9_badWeek_93 : decode cX9_badWeek 93 = .ok (.iadd, 1) := by decide +kernel
theorem dX9_badWeek_94 : decode cX9_badWeek 94 = .ok (.iconst 4, 1) := by decide +kernel
theorem dX9_badWeek_95 : decode cX9_badWeek 95 = .ok (.irem, 1) := by decide +kernel
theorem dX9_badWeek_96 : decode cX9_badWeek 96 = .ok (.istore 8, 2) := by decide +kernel
theorem dX9_badWeek_98 : decode cX9_badWeek 98 = .ok (.aload_n 0, 1) := by decide +kernel
theorem dX9_badWeek_99 : decode cX9_badWeek 99 = .ok (.getfield 73, 3) := by decide +kernel
theorem dX9_badWeek_102 : decode cX9_badWeek 102 = .ok (.iload 6, 2) := by decide +kernel
theorem dX9_badWeek_104 : decode cX9_badWeek 104 = .ok (.iaload, 1) := by decide +kernel
theorem dX9_badWeek_105 : decode cX9_badWeek 105 = .ok (.ifCond .le 17, 3) := by decide +kernel
theorem dX9_badWeek_108 : decode cX9_badWeek 108 = .ok (.aload_n 0, 1) := by decide +kernel
theorem dX9_badWeek_109 : decode cX9_badWeek 109 = .ok (.iload 7, 2) := by decide +kernel
theorem dX9_badWeek_111 : decode cX9_badWeek 111 = .ok (.iload 8, 2) := by decide +kernel
theorem dX9_badWeek_113 : decode cX9_badWeek 113 = .ok (.invokevirtual 152, 3) := by decide +kernel
theorem dX9_badWeek_116 : decode cX9_badWeek 116 = .ok (.ifCond .lt 6, 3) := by decide +kernel
theorem dX9_badWeek_119 : decode cX9_badWeek 119 = .ok (.iload 6, 2) := by decide +kernel
theorem dX9_badWeek_121 : decode cX9_badWeek 121 = .ok (.ireturn, 1) := by decide +kernel
theorem dX9_badWeek_122 : decode cX9_badWeek 122 = .ok (.aload_n 0, 1) := by decide +kernel
theorem dX9_badWeek_123 : decode cX9_badWeek 123 = .ok (.getfield 73, 3) := by decide +kernel
theorem dX9_badWeek_126 : decode cX9_badWeek 126 = .ok (.iload 6, 2) := by decide +kernel
theorem dX9_badWeek_128 : decode cX9_badWeek 128 = .ok (.iaload, 1) := by decide +kernel
theorem dX9_badWeek_129 : decode cX9_badWeek 129 = .ok (.ifCond .le 27, 3) := by decide +kernel
theorem dX9_badWeek_132 : decode cX9_badWeek 132 = .ok (.aload_n 0, 1) := by decide +kernel
theorem dX9_badWeek_133 : decode cX9_badWeek 133 = .ok (.dup, 1) := by decide +kernel
theorem dX9_badWeek_134 : decode cX9_badWeek 134 = .ok (.getfield 215, 3) := by decide +kernel
theorem dX9_badWeek_137 : decode cX9_badWeek 137 = .ok (.aload_n 0, 1) := by decide +kernel
theorem dX9_badWeek_138 : decode cX9_badWeek 138 = .ok (.getfield 49, 3) := by decide +kernel
theorem dX9_badWeek_141 : decode cX9_badWeek 141 = .ok (.iload 7, 2) := by decide +kernel
theorem dX9_badWeek_143 : decode cX9_badWeek 143 = .ok (.iaload, 1) := by decide +kernel
theorem dX9_badWeek_144 : decode cX9_badWeek 144 = .ok (.iadd, 1) := by decide +kernel
theorem dX9_badWeek_145 : decode cX9_badWeek 145 = .ok (.putfield 215, 3) := by decide +kernel
theorem dX9_badWeek_148 : decode cX9_badWeek 148 = .ok (.aload_n 0, 1) := by decide +kernel
theorem dX9_badWeek_149 : decode cX9_badWeek 149 = .ok (.iload 7, 2) := by decide +kernel
theorem dX9_badWeek_151 : decode cX9_badWeek 151 = .ok (.iload 8, 2) := by decide +kernel
theorem dX9_badWeek_153 : decode cX9_badWeek 153 = .ok (.invokevirtual 155, 3) := by decide +kernel
theorem dX9_badWeek_156 : decode cX9_badWeek 156 = .ok (.aload_n 0, 1) := by decide +kernel
theorem dX9_badWeek_157 : decode cX9_badWeek 157 = .ok (.invokevirtual 145, 3) := by decide +kernel
theorem dX9_badWeek_160 : decode cX9_badWeek 160 = .ok (.aload_n 0, 1) := by decide +kernel
theorem dX9_badWeek_161 : decode cX9_badWeek 161 = .ok (.invokevirtual 185, 3) := by decide +kernel
theorem dX9_badWeek_164 : decode cX9_badWeek 164 = .ok (.iload_n 3, 1) := by decide +kernel
theorem dX9_badWeek_165 : decode cX9_badWeek 165 = .ok (.if_icmp .ge 6, 3) := by decide +kernel
theorem dX9_badWeek_168 : decode cX9_badWeek 168 = .ok (.iload 6, 2) := by decide +kernel
theorem dX9_badWeek_170 : decode cX9_badWeek 170 = .ok (.ireturn, 1) := by decide +kernel
theorem dX9_badWeek_171 : decode cX9_badWeek 171 = .ok (.iinc 6 1, 3) := by decide +kernel
theorem dX9_badWeek_174 : decode cX9_badWeek 174 = .ok (.goto (-134), 3) := by decide +kernel
theorem dX9_badWeek_177 : decode cX9_badWeek 177 = .ok (.bipush (-6), 2) := by decide +kernel
theorem dX9_badWeek_179 : decode cX9_badWeek 179 = .ok (.ireturn, 1) := by decide +kernel
theorem dX9_renewed_0 : decode cX9_renewed 0 = .ok (.iload_n 1, 1) := by decide +kernel
theorem dX9_renewed_1 : decode cX9_renewed 1 = .ok (.i2l, 1) := by decide +kernel
theorem dX9_renewed_2 : decode cX9_renewed 2 = .ok (.lconst 0, 1) := by decide +kernel
theorem dX9_renewed_3 : decode cX9_renewed 3 = .ok (.ldc2_w 218, 3) := by decide +kernel
theorem dX9_renewed_6 : decode cX9_renewed 6 = .ok (.invokestatic 95, 3) := by decide +kernel
theorem dX9_renewed_9 : decode cX9_renewed 9 = .ok (.ifCond .eq 30, 3) := by decide +kernel
theorem dX9_renewed_12 : decode cX9_renewed 12 = .ok (.iload_n 2, 1) := by decide +kernel
theorem dX9_renewed_13 : decode cX9_renewed 13 = .ok (.i2l, 1) := by decide +kernel
theorem dX9_renewed_14 : decode cX9_renewed 14 = .ok (.lconst 0, 1) := by decide +kernel
theorem dX9_renewed_15 : decode cX9_renewed 15 = .ok (.ldc2_w 202, 3) := by decide +kernel
theorem dX9_renewed_18 : decode cX9_renewed 18 = .ok (.invokestatic 95, 3) := by decide +kernel
theorem dX9_renewed_21 : decode cX9_renewed 21 = .ok (.ifCond .eq 18, 3) := by decide +kernel
theorem dX9_renewed_24 : decode cX9_renewed 24 = .ok (.iload_n 3, 1) := by decide +kernel
theorem dX9_renewed_25 : decode cX9_renewed 25 = .ok (.i2l, 1) := by decide +kernel
theorem dX9_renewed_26 : decode cX9_renewed 26 = .ok (.ldc2_w 220, 3) := by decide +kernel
theorem dX9_renewed_29 : decode cX9_renewed 29 = .ok (.iload_n 1, 1) := by decide +kernel
theorem dX9_renewed_30 : decode cX9_renewed 30 = .ok (.iconst 1, 1) := by decide +kernel
theorem dX9_renewed_31 : decode cX9_renewed 31 = .ok (.isub, 1) := by decide +kernel
theorem dX9_renewed_32 : decode cX9_renewed 32 = .ok (.i2l, 1) := by decide +kernel
theorem dX9_renewed_33 : decode cX9_renewed 33 = .ok (.invokestatic 95, 3) := by decide +kernel
theorem dX9_renewed_36 : decode cX9_renewed 36 = .ok (.ifCond .ne 6, 3) := by decide +kernel
theorem dX9_renewed_39 : decode cX9_renewed 39 = .ok (.bipush (-2), 2) := by decide +kernel
theorem dX9_renewed_41 : decode cX9_renewed 41 = .ok (.ireturn, 1) := by decide +kernel
theorem dX9_renewed_42 : decode cX9_renewed 42 = .ok (.iconst 1, 1) := by decide +kernel
theorem dX9_renewed_43 : decode cX9_renewed 43 = .ok (.istore 4, 2) := by decide +kernel
theorem dX9_renewed_45 : decode cX9_renewed 45 = .ok (.iconst 0, 1) := by decide +kernel
theorem dX9_renewed_46 : decode cX9_renewed 46 = .ok (.istore 5, 2) := by decide +kernel
theorem dX9_renewed_48 : decode cX9_renewed 48 = .ok (.iload 5, 2) := by decide +kernel
theorem dX9_renewed_50 : decode cX9_renewed 50 = .ok (.iload_n 1, 1) := by decide +kernel
theorem dX9_renewed_51 : decode cX9_renewed 51 = .ok (.if_icmp .ge 16, 3) := by decide +kernel
theorem dX9_renewed_54 : decode cX9_renewed 54 = .ok (.iload 4, 2) := by decide +kernel
theorem dX9_renewed_56 : decode cX9_renewed 56 = .ok (.bipush 25, 2) := by decide +kernel
theorem dX9_renewed_58 : decode cX9_renewed 58 = .ok (.imul, 1) := by decide +kernel
theorem dX9_renewed_59 : decode cX9_renewed 59 = .ok (.istore 4, 2) := by decide +kernel
theorem dX9_renewed_61 : decode cX9_renewed 61 = .ok (.iinc 5 1, 3) := by decide +kernel
theorem dX9_renewed_64 : decode cX9_renewed 64 = .ok (.goto (-16), 3) := by decide +kernel
theorem dX9_renewed_67 : decode cX9_renewed 67 = .ok (.bipush (-6), 2) := by decide +kernel
theorem dX9_renewed_69 : decode cX9_renewed 69 = .ok (.istore 5, 2) := by decide +kernel
theorem dX9_renewed_71 : decode cX9_renewed 71 = .ok (.iconst 0, 1) := by decide +kernel
theorem dX9_renewed_72 : decode cX9_renewed 72 = .ok (.istore 6, 2) := by decide +kernel
theorem dX9_renewed_74 : decode cX9_renewed 74 = .ok (.iload 6, 2) := by decide +kernel
theorem dX9_renewed_76 : decode cX9_renewed 76 = .ok (.iload 4, 2) := by decide +kernel
theorem dX9_renewed_78 : decode cX9_renewed 78 = .ok (.if_icmp .ge 114, 3) := by decide +kernel
theorem dX9_renewed_81 : decode cX9_renewed 81 = .ok (.aload_n 0, 1) := by decide +kernel
theorem dX9_renewed_82 : decode cX9_renewed 82 = .ok (.iload 6, 2) := by decide +kernel
theorem dX9_renewed_84 : decode cX9_renewed 84 = .ok (.iload_n 1, 1) := by decide +kernel
theorem dX9_renewed_85 : decode cX9_renewed 85 = .ok (.iload_n 2, 1) := by decide +kernel
theorem dX9_renewed_86 : decode cX9_renewed 86 = .ok (.invokevirtual 222, 3) := by decide +kernel
theorem dX9_renewed_89 : decode cX9_renewed 89 = .ok (.istore 7, 2) := by decide +kernel
theorem dX9_renewed_91 : decode cX9_renewed 91 = .ok (.iload 7, 2) := by decide +kernel
theorem dX9_renewed_93 : decode cX9_renewed 93 = .ok (.ifCond .ge 52, 3) := by decide +kernel
theorem dX9_renewed_96 : decode cX9_renewed 96 = .ok (.iload 5, 2) := by decide +kernel
theorem dX9_renewed_98 : decode cX9_renewed 98 = .ok (.ifCond .lt 12, 3) := by decide +kernel
theorem dX9_renewed_101 : decode cX9_renewed 101 = .ok (.aload_n 0, 1) := by decide +kernel
theorem dX9_renewed_102 : decode cX9_renewed 102 = .ok (.getfield 215, 3) := by decide +kernel
theorem dX9_renewed_105 : decode cX9_renewed 105 = .ok (.iload 5, 2) := by decide +kernel
theorem dX9_renewed_107 : decode cX9_renewed 107 = .ok (.if_icmp .ge 38, 3) := by decide +kernel
theorem dX9_renewed_110 : decode cX9_renewed 110 = .ok (.aload_n 0, 1) := by decide +kernel
theorem dX9_renewed_111 : decode cX9_renewed 111 = .ok (.getfield 215, 3) := by decide +kernel
theorem dX9_renewed_114 : decode cX9_renewed 114 = .ok (.istore 5, 2) := by decide +kernel
theorem dX9_renewed_116 : decode cX9_renewed 116 = .ok (.iconst 0, 1) := by decide +kernel
theorem dX9_renewed_117 : decode cX9_renewed 117 = .ok (.istore 8, 2) := by decide +kernel
theorem dX9_renewed_119 : decode cX9_renewed 119 = .ok (.iload 8, 2) := by decide +kernel
theorem dX9_renewed_121 : decode cX9_renewed 121 = .ok (.iload_n 1, 1) := by decide +kernel
theorem dX9_renewed_122 : decode cX9_renewed 122 = .ok (.if_icmp .ge 23, 3) := by decide +kernel
theorem dX9_renewed_125 : decode cX9_renewed 125 = .ok (.aload_n 0, 1) := by decide +kernel
theorem dX9_renewed_126 : decode cX9_renewed 126 = .ok (.getfield 76, 3) := by decide +kernel
theorem dX9_renewed_129 : decode cX9_renewed 129 = .ok (.iload 8, 2) := by decide +kernel
theorem dX9_renewed_131 : decode cX9_renewed 131 = .ok (.aload_n 0, 1) := by decide +kernel
theorem dX9_renewed_132 : decode cX9_renewed 132 = .ok (.getfield 73, 3) := by decide +kernel
theorem dX9_renewed_135 : decode cX9_renewed 135 = .ok (.iload 8, 2) := by decide +kernel
theorem dX9_renewed_137 : decode cX9_renewed 137 = .ok (.iaload, 1) := by decide +kernel
theorem dX9_renewed_138 : decode cX9_renewed 138 = .ok (.iastore, 1) := by decide +kernel
theorem dX9_renewed_139 : decode cX9_renewed 139 = .ok (.iinc 8 1, 3) := by decide +kernel
theorem dX9_renewed_142 : decode cX9_renewed 142 = .ok (.goto (-23), 3) := by decide +kernel
theorem dX9_renewed_145 : decode cX9_renewed 145 = .ok (.iconst 1, 1) := by decide +kernel
theorem dX9_renewed_146 : decode cX9_renewed 146 = .ok (.istore 8, 2) := by decide +kernel
theorem dX9_renewed_148 : decode cX9_renewed 148 = .ok (.iload 7, 2) := by decide +kernel
theorem dX9_renewed_150 : decode cX9_renewed 150 = .ok (.ifCond .ge 7, 3) := by decide +kernel
theorem dX9_renewed_153 : decode cX9_renewed 153 = .ok (.iload_n 1, 1) := by decide +kernel
theorem dX9_renewed_154 : decode cX9_renewed 154 = .ok (.goto 7, 3) := by decide +kernel
theorem dX9_renewed_157 : decode cX9_renewed 157 = .ok (.iload 7, 2) := by decide +kernel
theorem dX9_renewed_159 : decode cX9_renewed 159 = .ok (.iconst 1, 1) := by decide +kernel
theorem dX9_renewed_160 : decode cX9_renewed 160 = .ok (.iadd, 1) := by decide +kernel
theorem dX9_renewed_161 : decode cX9_renewed 161 = .ok (.istore 9, 2) := by decide +kernel
theorem dX9_renewed_163 : decode cX9_renewed 163 = .ok (.iload 9, 2) := by decide +kernel
theorem dX9_renewed_165 : decode cX9_renewed 165 = .ok (.iload_n 1, 1) := by decide +kernel
theorem dX9_renewed_166 : decode cX9_renewed 166 = .ok (.if_icmp .ge 16, 3) := by decide +kernel
theorem dX9_renewed_169 : decode cX9_renewed 169 = .ok (.iload 8, 2) := by decide +kernel
theorem dX9_renewed_171 : decode cX9_renewed 171 = .ok (.bipush 25, 2) := by decide +kernel
theorem dX9_renewed_173 : decode cX9_renewed 173 = .ok (.imul, 1) := by decide +kernel
theorem dX9_renewed_174 : decode cX9_renewed 174 = .ok (.istore 8, 2) := by decide +kernel
theorem dX9_renewed_176 : decode cX9_renewed 176 = .ok (.iinc 9 1, 3) := by decide +kernel
theorem dX9_renewed_179 : decode cX9_renewed 179 = .ok (.goto (-16), 3) := by decide +kernel
theorem dX9_renewed_182 : decode cX9_renewed 182 = .ok (.iload 6, 2) := by decide +kernel
theorem dX9_renewed_184 : decode cX9_renewed 184 = .ok (.iload 8, 2) := by decide +kernel
theorem dX9_renewed_186 : decode cX9_renewed 186 = .ok (.iadd, 1) := by decide +kernel
theorem dX9_renewed_187 : decode cX9_renewed 187 = .ok (.istore 6, 2) := by decide +kernel
theorem dX9_renewed_189 : decode cX9_renewed 189 = .ok (.goto (-115), 3) := by decide +kernel
theorem dX9_renewed_192 : decode cX9_renewed 192 = .ok (.iload 5, 2) := by decide +kernel
theorem dX9_renewed_194 : decode cX9_renewed 194 = .ok (.ifCond .lt 8, 3) := by decide +kernel
theorem dX9_renewed_197 : decode cX9_renewed 197 = .ok (.iload_n 3, 1) := by decide +kernel
theorem dX9_renewed_198 : decode cX9_renewed 198 = .ok (.iconst (-1), 1) := by decide +kernel
theorem dX9_renewed_199 : decode cX9_renewed 199 = .ok (.if_icmp .ne 6, 3) := by decide +kernel
theorem dX9_renewed_202 : decode cX9_renewed 202 = .ok (.iload 5, 2) := by decide +kernel
theorem dX9_renewed_204 : decode cX9_renewed 204 = .ok (.ireturn, 1) := by decide +kernel
theorem dX9_renewed_205 : decode cX9_renewed 205 = .ok (.aload_n 0, 1) := by decide +kernel
theorem dX9_renewed_206 : decode cX9_renewed 206 = .ok (.getfield 76, 3) := by decide +kernel
theorem dX9_renewed_209 : decode cX9_renewed 209 = .ok (.iload_n 3, 1) := by decide +kernel
theorem dX9_renewed_210 : decode cX9_renewed 210 = .ok (.iaload, 1) := by decide +kernel
theorem dX9_renewed_211 : decode cX9_renewed 211 = .ok (.istore 7, 2) := by decide +kernel
theorem dX9_renewed_213 : decode cX9_renewed 213 = .ok (.iload 7, 2) := by decide +kernel
theorem dX9_renewed_215 : decode cX9_renewed 215 = .ok (.ifCond .ne 8, 3) := by decide +kernel
theorem dX9_renewed_218 : decode cX9_renewed 218 = .ok (.bipush (-6), 2) := by decide +kernel
theorem dX9_renewed_220 : decode cX9_renewed 220 = .ok (.goto 19, 3) := by decide +kernel
theorem dX9_renewed_223 : decode cX9_renewed 223 = .ok (.bipush 10, 2) := by decide +kernel
theorem dX9_renewed_225 : decode cX9_renewed 225 = .ok (.iload 7, 2) := by decide +kernel
theorem dX9_renewed_227 : decode cX9_renewed 227 = .ok (.iconst 1, 1) := by decide +kernel
theorem dX9_renewed_228 : decode cX9_renewed 228 = .ok (.isub, 1) := by decide +kernel
theorem dX9_renewed_229 : decode cX9_renewed 229 = .ok (.iconst 4, 1) := by decide +kernel
theorem dX9_renewed_230 : decode cX9_renewed 230 = .ok (.idiv, 1) := by decide +kernel
theorem dX9_renewed_231 : decode cX9_renewed 231 = .ok (.imul, 1) := by decide +kernel
theorem dX9_renewed_232 : decode cX9_renewed 232 = .ok (.iload 7, 2) := by decide +kernel
theorem dX9_renewed_234 : decode cX9_renewed 234 = .ok (.iconst 1, 1) := by decide +kernel
theorem dX9_renewed_235 : decode cX9_renewed 235 = .ok (.isub, 1) := by decide +kernel
theorem dX9_renewed_236 : decode cX9_renewed 236 = .ok (.iconst 4, 1) := by decide +kernel
theorem dX9_renewed_237 : decode cX9_renewed 237 = .ok (.irem, 1) := by decide +kernel
theorem dX9_renewed_238 : decode cX9_renewed 238 = .ok (.iadd, 1) := by decide +kernel
theorem dX9_renewed_239 : decode cX9_renewed 239 = .ok (.ireturn, 1) := by decide +kernel
theorem dX9_sinAll_0 : decode cX9_sinAll 0 = .ok (.iconst 0, 1) := by decide +kernel
theorem dX9_sinAll_1 : decode cX9_sinAll 1 = .ok (.istore 4, 2) := by decide +kernel
theorem dX9_sinAll_3 : decode cX9_sinAll 3 = .ok (.iload 4, 2) := by decide +kernel
theorem dX9_sinAll_5 : decode cX9_sinAll 5 = .ok (.bipush 6, 2) := by decide +kernel
theorem dX9_sinAll_7 : decode cX9_sinAll 7 = .ok (.if_icmp .ge 94, 3) := by decide +kernel
theorem dX9_sinAll_10 : decode cX9_sinAll 10 = .ok (.iload_n 1, 1) := by decide +kernel
theorem dX9_sinAll_11 : decode cX9_sinAll 11 = .ok (.iload 4, 2) := by decide +kernel
theorem dX9_sinAll_13 : decode cX9_sinAll 13 = .ok (.ishr, 1) := by decide +kernel
theorem dX9_sinAll_14 : decode cX9_sinAll 14 = .ok (.iconst 1, 1) := by decide +kernel
theorem dX9_sinAll_15 : decode cX9_sinAll 15 = .ok (.iand, 1) := by decide +kernel
theorem dX9_sinAll_16 : decode cX9_sinAll 16 = .ok (.iconst 1, 1) := by decide +kernel
theorem dX9_sinAll_17 : decode cX9_sinAll 17 = .ok (.if_icmp .ne 78, 3) := by decide +kernel
theorem dX9_sinAll_20 : decode cX9_sinAll 20 = .ok (.aload_n 0, 1) := by decide +kernel
theorem dX9_sinAll_21 : decode cX9_sinAll 21 = .ok (.getfield 46, 3) := by decide +kernel
theorem dX9_sinAll_24 : decode cX9_sinAll 24 = .ok (.iload 4, 2) := by decide +kernel
theorem dX9_sinAll_26 : decode cX9_sinAll 26 = .ok (.iaload, 1) := by decide +kernel
theorem dX9_sinAll_27 : decode cX9_sinAll 27 = .ok (.iload_n 2, 1) := by decide +kernel
theorem dX9_sinAll_28 : decode cX9_sinAll 28 = .ok (.iadd, 1) := by decide +kernel
theorem dX9_sinAll_29 : decode cX9_sinAll 29 = .ok (.bipush 40, 2) := by decide +kernel
theorem dX9_sinAll_31 : decode cX9_sinAll 31 = .ok (.if_icmp .le 8, 3) := by decide +kernel
theorem dX9_sinAll_34 : decode cX9_sinAll 34 = .ok (.bipush 40, 2) := by decide +kernel
theorem dX9_sinAll_36 : decode cX9_sinAll 36 = .ok (.goto 12, 3) := by decide +kernel
theorem dX9_sinAll_39 : decode cX9_sinAll 39 = .ok (.aload_n 0, 1) := by decide +kernel
theorem dX9_sinAll_40 : decode cX9_sinAll 40 = .ok (.getfield 46, 3) := by decide +kernel
theorem dX9_sinAll_43 : decode cX9_sinAll 43 = .ok (.iload 4, 2) := by decide +kernel
theorem dX9_sinAll_45 : decode cX9_sinAll 45 = .ok (.iaload, 1) := by decide +kernel
theorem dX9_sinAll_46 : decode cX9_sinAll 46 = .ok (.iload_n 2, 1) := by decide +kernel
theorem dX9_sinAll_47 : decode cX9_sinAll 47 = .ok (.iadd, 1) := by decide +kernel
theorem dX9_sinAll_48 : decode cX9_sinAll 48 = .ok (.istore 5, 2) := by decide +kernel
theorem dX9_sinAll_50 : decode cX9_sinAll 50 = .ok (.aload_n 0, 1) := by decide +kernel
theorem dX9_sinAll_51 : decode cX9_sinAll 51 = .ok (.getfield 49, 3) := by decide +kernel
theorem dX9_sinAll_54 : decode cX9_sinAll 54 = .ok (.iload 4, 2) := by decide +kernel
theorem dX9_sinAll_56 : decode cX9_sinAll 56 = .ok (.aload_n 0, 1) := by decide +kernel
theorem dX9_sinAll_57 : decode cX9_sinAll 57 = .ok (.getfield 49, 3) := by decide +kernel
theorem dX9_sinAll_60 : decode cX9_sinAll 60 = .ok (.iload 4, 2) := by decide +kernel
theorem dX9_sinAll_62 : decode cX9_sinAll 62 = .ok (.iaload, 1) := by decide +kernel
theorem dX9_sinAll_63 : decode cX9_sinAll 63 = .ok (.iload 5, 2) := by decide +kernel
theorem dX9_sinAll_65 : decode cX9_sinAll 65 = .ok (.iadd, 1) := by decide +kernel
theorem dX9_sinAll_66 : decode cX9_sinAll 66 = .ok (.bipush 99, 2) := by decide +kernel
theorem dX9_sinAll_68 : decode cX9_sinAll 68 = .ok (.if_icmp .le 8, 3) := by decide +kernel
theorem dX9_sinAll_71 : decode cX9_sinAll 71 = .ok (.bipush 99, 2) := by decide +kernel
theorem dX9_sinAll_73 : decode cX9_sinAll 73 = .ok (.goto 13, 3) := by decide +kernel
theorem dX9_sinAll_76 : decode cX9_sinAll 76 = .ok (.aload_n 0, 1) := by decide +kernel
theorem dX9_sinAll_77 : decode cX9_sinAll 77 = .ok (.getfield 49, 3) := by decide +kernel
theorem dX9_sinAll_80 : decode cX9_sinAll 80 = .ok (.iload 4, 2) := by decide +kernel
theorem dX9_sinAll_82 : decode cX9_sinAll 82 = .ok (.iaload, 1) := by decide +kernel
theorem dX9_sinAll_83 : decode cX9_sinAll 83 = .ok (.iload 5, 2) := by decide +kernel
theorem dX9_sinAll_85 : decode cX9_sinAll 85 = .ok (.iadd, 1) := by decide +kernel
theorem dX9_sinAll_86 : decode cX9_sinAll 86 = .ok (.iastore, 1) := by decide +kernel
theorem dX9_sinAll_87 : decode cX9_sinAll 87 = .ok (.aload_n 0, 1) := by decide +kernel
theorem dX9_sinAll_88 : decode cX9_sinAll 88 = .ok (.getfield 46, 3) := by decide +kernel
theorem dX9_sinAll_91 : decode cX9_sinAll 91 = .ok (.iload 4, 2) := by decide +kernel
theorem dX9_sinAll_93 : decode cX9_sinAll 93 = .ok (.iconst 0, 1) := by decide +kernel
theorem dX9_sinAll_94 : decode cX9_sinAll 94 = .ok (.iastore, 1) := by decide +kernel
theorem dX9_sinAll_95 : decode cX9_sinAll 95 = .ok (.iinc 4 1, 3) := by decide +kernel
theorem dX9_sinAll_98 : decode cX9_sinAll 98 = .ok (.goto (-95), 3) := by decide +kernel
theorem dX9_sinAll_101 : decode cX9_sinAll 101 = .ok (.iconst 0, 1) := by decide +kernel
theorem dX9_sinAll_102 : decode cX9_sinAll 102 = .ok (.istore 4, 2) := by decide +kernel
theorem dX9_sinAll_104 : decode cX9_sinAll 104 = .ok (.iload 4, 2) := by decide +kernel
theorem dX9_sinAll_106 : decode cX9_sinAll 106 = .ok (.bipush 6, 2) := by decide +kernel
theorem dX9_sinAll_108 : decode cX9_sinAll 108 = .ok (.if_icmp .ge 38, 3) := by decide +kernel
theorem dX9_sinAll_111 : decode cX9_sinAll 111 = .ok (.iload_n 1, 1) := by decide +kernel
theorem dX9_sinAll_112 : decode cX9_sinAll 112 = .ok (.iload 4, 2) := by decide +kernel
theorem dX9_sinAll_114 : decode cX9_sinAll 114 = .ok (.ishr, 1) := by decide +kernel
theorem dX9_sinAll_115 : decode cX9_sinAll 115 = .ok (.iconst 1, 1) := by decide +kernel
theorem dX9_sinAll_116 : decode cX9_sinAll 116 = .ok (.iand, 1) := by decide +kernel
theorem dX9_sinAll_117 : decode cX9_sinAll 117 = .ok (.iconst 1, 1) := by decide +kernel
theorem dX9_sinAll_118 : decode cX9_sinAll 118 = .ok (.if_icmp .ne 22, 3) := by decide +kernel
theorem dX9_sinAll_121 : decode cX9_sinAll 121 = .ok (.aload_n 0, 1) := by decide +kernel
theorem dX9_sinAll_122 : decode cX9_sinAll 122 = .ok (.iload 4, 2) := by decide +kernel
theorem dX9_sinAll_124 : decode cX9_sinAll 124 = .ok (.iload_n 3, 1) := by decide +kernel
theorem dX9_sinAll_125 : decode cX9_sinAll 125 = .ok (.invokevirtual 152, 3) := by decide +kernel
theorem dX9_sinAll_128 : decode cX9_sinAll 128 = .ok (.bipush (-6), 2) := by decide +kernel
theorem dX9_sinAll_130 : decode cX9_sinAll 130 = .ok (.if_icmp .ne 10, 3) := by decide +kernel
theorem dX9_sinAll_133 : decode cX9_sinAll 133 = .ok (.aload_n 0, 1) := by decide +kernel
theorem dX9_sinAll_134 : decode cX9_sinAll 134 = .ok (.iload 4, 2) := by decide +kernel
theorem dX9_sinAll_136 : decode cX9_sinAll 136 = .ok (.iload_n 3, 1) := by decide +kernel
theorem dX9_sinAll_137 : decode cX9_sinAll 137 = .ok (.invokevirtual 155, 3) := by decide +kernel
theorem dX9_sinAll_140 : decode cX9_sinAll 140 = .ok (.iinc 4 1, 3) := by decide +kernel
theorem dX9_sinAll_143 : decode cX9_sinAll 143 = .ok (.goto (-39), 3) := by decide +kernel
theorem dX9_sinAll_146 : decode cX9_sinAll 146 = .ok (.return_, 1) := by decide +kernel
theorem dX9_soon_0 : decode cX9_soon 0 = .ok (.iload_n 3, 1) := by decide +kernel
theorem dX9_soon_1 : decode cX9_soon 1 = .ok (.invokestatic 182, 3) := by decide +kernel
theorem dX9_soon_4 : decode cX9_soon 4 = .ok (.ifCond .ne 5, 3) := by decide +kernel
theorem dX9_soon_7 : decode cX9_soon 7 = .ok (.iconst (-1), 1) := by decide +kernel
theorem dX9_soon_8 : decode cX9_soon 8 = .ok (.ireturn, 1) := by decide +kernel
theorem dX9_soon_9 : decode cX9_soon 9 = .ok (.iload_n 1, 1) := by decide +kernel
theorem dX9_soon_10 : decode cX9_soon 10 = .ok (.i2l, 1) := by decide +kernel
theorem dX9_soon_11 : decode cX9_soon 11 = .ok (.lconst 1, 1) := by decide +kernel
theorem dX9_soon_12 : decode cX9_soon 12 = .ok (.ldc2_w 226, 3) := by decide +kernel
theorem dX9_soon_15 : decode cX9_soon 15 = .ok (.invokestatic 95, 3) := by decide +kernel
theorem dX9_soon_18 : decode cX9_soon 18 = .ok (.ifCond .eq 28, 3) := by decide +kernel
theorem dX9_soon_21 : decode cX9_soon 21 = .ok (.iload_n 2, 1) := by decide +kernel
theorem dX9_soon_22 : decode cX9_soon 22 = .ok (.i2l, 1) := by decide +kernel
theorem dX9_soon_23 : decode cX9_soon 23 = .ok (.lconst 1, 1) := by decide +kernel
theorem dX9_soon_24 : decode cX9_soon 24 = .ok (.ldc2_w 124, 3) := by decide +kernel
theorem dX9_soon_27 : decode cX9_soon 27 = .ok (.invokestatic 95, 3) := by decide +kernel
theorem dX9_soon_30 : decode cX9_soon 30 = .ok (.ifCond .eq 16, 3) := by decide +kernel
theorem dX9_soon_33 : decode cX9_soon 33 = .ok (.iload 4, 2) := by decide +kernel
theorem dX9_soon_35 : decode cX9_soon 35 = .ok (.i2l, 1) := by decide +kernel
theorem dX9_soon_36 : decode cX9_soon 36 = .ok (.lconst 0, 1) := by decide +kernel
theorem dX9_soon_37 : decode cX9_soon 37 = .ok (.ldc2_w 202, 3) := by decide +kernel
theorem dX9_soon_40 : decode cX9_soon 40 = .ok (.invokestatic 95, 3) := by decide +kernel
theorem dX9_soon_43 : decode cX9_soon 43 = .ok (.ifCond .ne 6, 3) := by decide +kernel
theorem dX9_soon_46 : decode cX9_soon 46 = .ok (.bipush (-2), 2) := by decide +kernel
theorem dX9_soon_48 : decode cX9_soon 48 = .ok (.ireturn, 1) := by decide +kernel
theorem dX9_soon_49 : decode cX9_soon 49 = .ok (.aload_n 0, 1) := by decide +kernel
theorem dX9_soon_50 : decode cX9_soon 50 = .ok (.invokevirtual 159, 3) := by decide +kernel
theorem dX9_soon_53 : decode cX9_soon 53 = .ok (.iconst 0, 1) := by decide +kernel
theorem dX9_soon_54 : decode cX9_soon 54 = .ok (.istore 5, 2) := by decide +kernel
theorem dX9_soon_56 : decode cX9_soon 56 = .ok (.iload 5, 2) := by decide +kernel
theorem dX9_soon_58 : decode cX9_soon 58 = .ok (.bipush 30, 2) := by decide +kernel
theorem dX9_soon_60 : decode cX9_soon 60 = .ok (.if_icmp .gt 32, 3) := by decide +kernel
theorem dX9_soon_63 : decode cX9_soon 63 = .ok (.aload_n 0, 1) := by decide +kernel
theorem dX9_soon_64 : decode cX9_soon 64 = .ok (.invokevirtual 185, 3) := by decide +kernel
theorem dX9_soon_67 : decode cX9_soon 67 = .ok (.iload 4, 2) := by decide +kernel
theorem dX9_soon_69 : decode cX9_soon 69 = .ok (.if_icmp .lt 6, 3) := by decide +kernel
theorem dX9_soon_72 : decode cX9_soon 72 = .ok (.iload 5, 2) := by decide +kernel
theorem dX9_soon_74 : decode cX9_soon 74 = .ok (.ireturn, 1) := by decide +kernel
theorem dX9_soon_75 : decode cX9_soon 75 = .ok (.aload_n 0, 1) := by decide +kernel
theorem dX9_soon_76 : decode cX9_soon 76 = .ok (.iload_n 1, 1) := by decide +kernel
theorem dX9_soon_77 : decode cX9_soon 77 = .ok (.iload_n 2, 1) := by decide +kernel
theorem dX9_soon_78 : decode cX9_soon 78 = .ok (.iload_n 3, 1) := by decide +kernel
theorem dX9_soon_79 : decode cX9_soon 79 = .ok (.invokevirtual 228, 3) := by decide +kernel
theorem dX9_soon_82 : decode cX9_soon 82 = .ok (.aload_n 0, 1) := by decide +kernel
theorem dX9_soon_83 : decode cX9_soon 83 = .ok (.invokevirtual 145, 3) := by decide +kernel
theorem dX9_soon_86 : decode cX9_soon 86 = .ok (.iinc 5 1, 3) := by decide +kernel
theorem dX9_soon_89 : decode cX9_soon 89 = .ok (.goto (-33), 3) := by decide +kernel
theorem dX9_soon_92 : decode cX9_soon 92 = .ok (.bipush (-6), 2) := by decide +kernel
theorem dX9_soon_94 : decode cX9_soon 94 = .ok (.ireturn, 1) := by decide +kernel
theorem dX9_weighed_0 : decode cX9_weighed 0 = .ok (.iload_n 1, 1) := by decide +kernel
theorem dX9_weighed_1 : decode cX9_weighed 1 = .ok (.i2l, 1) := by decide +kernel
theorem dX9_weighed_2 : decode cX9_weighed 2 = .ok (.lconst 1, 1) := by decide +kernel
theorem dX9_weighed_3 : decode cX9_weighed 3 = .ok (.ldc2_w 226, 3) := by decide +kernel
theorem dX9_weighed_6 : decode cX9_weighed 6 = .ok (.invokestatic 95, 3) := by decide +kernel
theorem dX9_weighed_9 : decode cX9_weighed 9 = .ok (.ifCond .eq 15, 3) := by decide +kernel
theorem dX9_weighed_12 : decode cX9_weighed 12 = .ok (.iload_n 2, 1) := by decide +kernel
theorem dX9_weighed_13 : decode cX9_weighed 13 = .ok (.i2l, 1) := by decide +kernel
theorem dX9_weighed_14 : decode cX9_weighed 14 = .ok (.lconst 0, 1) := by decide +kernel
theorem dX9_weighed_15 : decode cX9_weighed 15 = .ok (.ldc2_w 232, 3) := by decide +kernel
theorem dX9_weighed_18 : decode cX9_weighed 18 = .ok (.invokestatic 95, 3) := by decide +kernel
theorem dX9_weighed_21 : decode cX9_weighed 21 = .ok (.ifCond .ne 6, 3) := by decide +kernel
theorem dX9_weighed_24 : decode cX9_weighed 24 = .ok (.bipush (-2), 2) := by decide +kernel
theorem dX9_weighed_26 : decode cX9_weighed 26 = .ok (.ireturn, 1) := by decide +kernel
theorem dX9_weighed_27 : decode cX9_weighed 27 = .ok (.aload_n 0, 1) := by decide +kernel
theorem dX9_weighed_28 : decode cX9_weighed 28 = .ok (.getfield 234, 3) := by decide +kernel
theorem dX9_weighed_31 : decode cX9_weighed 31 = .ok (.bipush 6, 2) := by decide +kernel
theorem dX9_weighed_33 : decode cX9_weighed 33 = .ok (.if_icmp .ne 6, 3) := by decide +kernel
theorem dX9_weighed_36 : decode cX9_weighed 36 = .ok (.bipush (-4), 2) := by decide +kernel
theorem dX9_weighed_38 : decode cX9_weighed 38 = .ok (.ireturn, 1) := by decide +kernel
theorem dX9_weighed_39 : decode cX9_weighed 39 = .ok (.aload_n 0, 1) := by decide +kernel
theorem dX9_weighed_40 : decode cX9_weighed 40 = .ok (.getfield 40, 3) := by decide +kernel
theorem dX9_weighed_43 : decode cX9_weighed 43 = .ok (.aload_n 0, 1) := by decide +kernel
theorem dX9_weighed_44 : decode cX9_weighed 44 = .ok (.getfield 234, 3) := by decide +kernel
theorem dX9_weighed_47 : decode cX9_weighed 47 = .ok (.iload_n 1, 1) := by decide +kernel
theorem dX9_weighed_48 : decode cX9_weighed 48 = .ok (.iastore, 1) := by decide +kernel
theorem dX9_weighed_49 : decode cX9_weighed 49 = .ok (.aload_n 0, 1) := by decide +kernel
theorem dX9_weighed_50 : decode cX9_weighed 50 = .ok (.getfield 43, 3) := by decide +kernel
theorem dX9_weighed_53 : decode cX9_weighed 53 = .ok (.aload_n 0, 1) := by decide +kernel
theorem dX9_weighed_54 : decode cX9_weighed 54 = .ok (.getfield 234, 3) := by decide +kernel
theorem dX9_weighed_57 : decode cX9_weighed 57 = .ok (.iload_n 2, 1) := by decide +kernel
theorem dX9_weighed_58 : decode cX9_weighed 58 = .ok (.iastore, 1) := by decide +kernel
theorem dX9_weighed_59 : decode cX9_weighed 59 = .ok (.aload_n 0, 1) := by decide +kernel
theorem dX9_weighed_60 : decode cX9_weighed 60 = .ok (.dup, 1) := by decide +kernel
theorem dX9_weighed_61 : decode cX9_weighed 61 = .ok (.getfield 234, 3) := by decide +kernel
theorem dX9_weighed_64 : decode cX9_weighed 64 = .ok (.iconst 1, 1) := by decide +kernel
theorem dX9_weighed_65 : decode cX9_weighed 65 = .ok (.iadd, 1) := by decide +kernel
theorem dX9_weighed_66 : decode cX9_weighed 66 = .ok (.putfield 234, 3) := by decide +kernel
theorem dX9_weighed_69 : decode cX9_weighed 69 = .ok (.aload_n 0, 1) := by decide +kernel
theorem dX9_weighed_70 : decode cX9_weighed 70 = .ok (.getfield 234, 3) := by decide +kernel
theorem dX9_weighed_73 : decode cX9_weighed 73 = .ok (.ireturn, 1) := by decide +kernel
theorem dX9_forget_0 : decode cX9_forget 0 = .ok (.aload_n 0, 1) := by decide +kernel
theorem dX9_forget_1 : decode cX9_forget 1 = .ok (.getfield 234, 3) := by decide +kernel
theorem dX9_forget_4 : decode cX9_forget 4 = .ok (.istore_n 1, 1) := by decide +kernel
theorem dX9_forget_5 : decode cX9_forget 5 = .ok (.aload_n 0, 1) := by decide +kernel
theorem dX9_forget_6 : decode cX9_forget 6 = .ok (.iconst 0, 1) := by decide +kernel
theorem dX9_forget_7 : decode cX9_forget 7 = .ok (.putfield 234, 3) := by decide +kernel
theorem dX9_forget_10 : decode cX9_forget 10 = .ok (.iload_n 1, 1) := by decide +kernel
theorem dX9_forget_11 : decode cX9_forget 11 = .ok (.ireturn, 1) := by decide +kernel
theorem dX9_weightOf_0 : decode cX9_weightOf 0 = .ok (.iconst 0, 1) := by decide +kernel
theorem dX9_weightOf_1 : decode cX9_weightOf 1 = .ok (.istore_n 3, 1) := by decide +kernel
theorem dX9_weightOf_2 : decode cX9_weightOf 2 = .ok (.iconst 0, 1) := by decide +kernel
theorem dX9_weightOf_3 : decode cX9_weightOf 3 = .ok (.istore 4, 2) := by decide +kernel
theorem dX9_weightOf_5 : decode cX9_weightOf 5 = .ok (.iload 4, 2) := by decide +kernel
theorem dX9_weightOf_7 : decode cX9_weightOf 7 = .ok (.bipush 6, 2) := by decide +kernel
theorem dX9_weightOf_9 : decode cX9_weightOf 9 = .ok (.if_icmp .ge 37, 3) := by decide +kernel
theorem dX9_weightOf_12 : decode cX9_weightOf 12 = .ok (.iload_n 3, 1) := by decide +kernel
theorem dX9_weightOf_13 : decode cX9_weightOf 13 = .ok (.iload_n 1, 1) := by decide +kernel
theorem dX9_weightOf_14 : decode cX9_weightOf 14 = .ok (.iload_n 2, 1) := by decide +kernel
theorem dX9_weightOf_15 : decode cX9_weightOf 15 = .ok (.iconst (-1), 1) := by decide +kernel
theorem dX9_weightOf_16 : decode cX9_weightOf 16 = .ok (.ixor, 1) := by decide +kernel
theorem dX9_weightOf_17 : decode cX9_weightOf 17 = .ok (.iand, 1) := by decide +kernel
theorem dX9_weightOf_18 : decode cX9_weightOf 18 = .ok (.iload 4, 2) := by decide +kernel
theorem dX9_weightOf_20 : decode cX9_weightOf 20 = .ok (.ishr, 1) := by decide +kernel
theorem dX9_weightOf_21 : decode cX9_weightOf 21 = .ok (.iconst 1, 1) := by decide +kernel
theorem dX9_weightOf_22 : decode cX9_weightOf 22 = .ok (.iand, 1) := by decide +kernel
theorem dX9_weightOf_23 : decode cX9_weightOf 23 = .ok (.iconst 1, 1) := by decide +kernel
theorem dX9_weightOf_24 : decode cX9_weightOf 24 = .ok (.if_icmp .ne 13, 3) := by decide +kernel
theorem dX9_weightOf_27 : decode cX9_weightOf 27 = .ok (.aload_n 0, 1) := by decide +kernel
theorem dX9_weightOf_28 : decode cX9_weightOf 28 = .ok (.getfield 7, 3) := by decide +kernel
theorem dX9_weightOf_31 : decode cX9_weightOf 31 = .ok (.iload 4, 2) := by decide +kernel
theorem dX9_weightOf_33 : decode cX9_weightOf 33 = .ok (.iaload, 1) := by decide +kernel
theorem dX9_weightOf_34 : decode cX9_weightOf 34 = .ok (.goto 4, 3) := by decide +kernel
theorem dX9_weightOf_37 : decode cX9_weightOf 37 = .ok (.iconst 0, 1) := by decide +kernel
theorem dX9_weightOf_38 : decode cX9_weightOf 38 = .ok (.iadd, 1) := by decide +kernel
theorem dX9_weightOf_39 : decode cX9_weightOf 39 = .ok (.istore_n 3, 1) := by decide +kernel
theorem dX9_weightOf_40 : decode cX9_weightOf 40 = .ok (.iinc 4 1, 3) := by decide +kernel
theorem dX9_weightOf_43 : decode cX9_weightOf 43 = .ok (.goto (-38), 3) := by decide +kernel
theorem dX9_weightOf_46 : decode cX9_weightOf 46 = .ok (.iload_n 3, 1) := by decide +kernel
theorem dX9_weightOf_47 : decode cX9_weightOf 47 = .ok (.ireturn, 1) := by decide +kernel
theorem dX9_fits_0 : decode cX9_fits 0 = .ok (.iconst 1, 1) := by decide +kernel
theorem dX9_fits_1 : decode cX9_fits 1 = .ok (.istore_n 2, 1) := by decide +kernel
theorem dX9_fits_2 : decode cX9_fits 2 = .ok (.iconst 0, 1) := by decide +kernel
theorem dX9_fits_3 : decode cX9_fits 3 = .ok (.istore_n 3, 1) := by decide +kernel
theorem dX9_fits_4 : decode cX9_fits 4 = .ok (.iload_n 3, 1) := by decide +kernel
theorem dX9_fits_5 : decode cX9_fits 5 = .ok (.aload_n 0, 1) := by decide +kernel
theorem dX9_fits_6 : decode cX9_fits 6 = .ok (.getfield 234, 3) := by decide +kernel
theorem dX9_fits_9 : decode cX9_fits 9 = .ok (.if_icmp .ge 39, 3) := by decide +kernel
theorem dX9_fits_12 : decode cX9_fits 12 = .ok (.iload_n 2, 1) := by decide +kernel
theorem dX9_fits_13 : decode cX9_fits 13 = .ok (.ifCond .eq 27, 3) := by decide +kernel
theorem dX9_fits_16 : decode cX9_fits 16 = .ok (.aload_n 0, 1) := by decide +kernel
theorem dX9_fits_17 : decode cX9_fits 17 = .ok (.aload_n 0, 1) := by decide +kernel
theorem dX9_fits_18 : decode cX9_fits 18 = .ok (.getfield 40, 3) := by decide +kernel
theorem dX9_fits_21 : decode cX9_fits 21 = .ok (.iload_n 3, 1) := by decide +kernel
theorem dX9_fits_22 : decode cX9_fits 22 = .ok (.iaload, 1) := by decide +kernel
theorem dX9_fits_23 : decode cX9_fits 23 = .ok (.iload_n 1, 1) := by decide +kernel
theorem dX9_fits_24 : decode cX9_fits 24 = .ok (.invokevirtual 237, 3) := by decide +kernel
theorem dX9_fits_27 : decode cX9_fits 27 = .ok (.aload_n 0, 1) := by decide +kernel
theorem dX9_fits_28 : decode cX9_fits 28 = .ok (.getfield 43, 3) := by decide +kernel
theorem dX9_fits_31 : decode cX9_fits 31 = .ok (.iload_n 3, 1) := by decide +kernel
theorem dX9_fits_32 : decode cX9_fits 32 = .ok (.iaload, 1) := by decide +kernel
theorem dX9_fits_33 : decode cX9_fits 33 = .ok (.if_icmp .ne 7, 3) := by decide +kernel
theorem dX9_fits_36 : decode cX9_fits 36 = .ok (.iconst 1, 1) := by decide +kernel
theorem dX9_fits_37 : decode cX9_fits 37 = .ok (.goto 4, 3) := by decide +kernel
theorem dX9_fits_40 : decode cX9_fits 40 = .ok (.iconst 0, 1) := by decide +kernel
theorem dX9_fits_41 : decode cX9_fits 41 = .ok (.istore_n 2, 1) := by decide +kernel
theorem dX9_fits_42 : decode cX9_fits 42 = .ok (.iinc 3 1, 3) := by decide +kernel
theorem dX9_fits_45 : decode cX9_fits 45 = .ok (.goto (-41), 3) := by decide +kernel
theorem dX9_fits_48 : decode cX9_fits 48 = .ok (.iload_n 2, 1) := by decide +kernel
theorem dX9_fits_49 : decode cX9_fits 49 = .ok (.ireturn, 1) := by decide +kernel
theorem dX9_canBe_0 : decode cX9_canBe 0 = .ok (.iconst 0, 1) := by decide +kernel
theorem dX9_canBe_1 : decode cX9_canBe 1 = .ok (.istore_n 2, 1) := by decide +kernel
theorem dX9_canBe_2 : decode cX9_canBe 2 = .ok (.iconst 0, 1) := by decide +kernel
theorem dX9_canBe_3 : decode cX9_canBe 3 = .ok (.istore_n 3, 1) := by decide +kernel
theorem dX9_canBe_4 : decode cX9_canBe 4 = .ok (.iload_n 3, 1) := by decide +kernel
theorem dX9_canBe_5 : decode cX9_canBe 5 = .ok (.bipush 64, 2) := by decide +kernel
theorem dX9_canBe_7 : decode cX9_canBe 7 = .ok (.if_icmp .ge 27, 3) := by decide +kernel
theorem dX9_canBe_10 : decode cX9_canBe 10 = .ok (.aload_n 0, 1) := by decide +kernel
theorem dX9_canBe_11 : decode cX9_canBe 11 = .ok (.iload_n 3, 1) := by decide +kernel
theorem dX9_canBe_12 : decode cX9_canBe 12 = .ok (.invokevirtual 240, 3) := by decide +kernel
theorem dX9_canBe_15 : decode cX9_canBe 15 = .ok (.ifCond .eq 13, 3) := by decide +kernel
theorem dX9_canBe_18 : decode cX9_canBe 18 = .ok (.iload_n 2, 1) := by decide +kernel
theorem dX9_canBe_19 : decode cX9_canBe 19 = .ok (.iload_n 1, 1) := by decide +kernel
theorem dX9_canBe_20 : decode cX9_canBe 20 = .ok (.if_icmp .ne 5, 3) := by decide +kernel
theorem dX9_canBe_23 : decode cX9_canBe 23 = .ok (.iload_n 3, 1) := by decide +kernel
theorem dX9_canBe_24 : decode cX9_canBe 24 = .ok (.ireturn, 1) := by decide +kernel
theorem dX9_canBe_25 : decode cX9_canBe 25 = .ok (.iinc 2 1, 3) := by decide +kernel
theorem dX9_canBe_28 : decode cX9_canBe 28 = .ok (.iinc 3 1, 3) := by decide +kernel
theorem dX9_canBe_31 : decode cX9_canBe 31 = .ok (.goto (-27), 3) := by decide +kernel
theorem dX9_canBe_34 : decode cX9_canBe 34 = .ok (.iload_n 1, 1) := by decide +kernel
theorem dX9_canBe_35 : decode cX9_canBe 35 = .ok (.iconst (-1), 1) := by decide +kernel
theorem dX9_canBe_36 : decode cX9_canBe 36 = .ok (.if_icmp .ne 7, 3) := by decide +kernel
theorem dX9_canBe_39 : decode cX9_canBe 39 = .ok (.iload_n 2, 1) := by decide +kernel
theorem dX9_canBe_40 : decode cX9_canBe 40 = .ok (.goto 5, 3) := by decide +kernel
theorem dX9_canBe_43 : decode cX9_canBe 43 = .ok (.bipush (-6), 2) := by decide +kernel
theorem dX9_canBe_45 : decode cX9_canBe 45 = .ok (.ireturn, 1) := by decide +kernel
theorem dX9_alikeBy_0 : decode cX9_alikeBy 0 = .ok (.iconst 0, 1) := by decide +kernel
theorem dX9_alikeBy_1 : decode cX9_alikeBy 1 = .ok (.istore_n 2, 1) := by decide +kernel
theorem dX9_alikeBy_2 : decode cX9_alikeBy 2 = .ok (.iload_n 2, 1) := by decide +kernel
theorem dX9_alikeBy_3 : decode cX9_alikeBy 3 = .ok (.sipush 241, 3) := by decide +kernel
theorem dX9_alikeBy_6 : decode cX9_alikeBy 6 = .ok (.if_icmp .ge 16, 3) := by decide +kernel
theorem dX9_alikeBy_9 : decode cX9_alikeBy 9 = .ok (.aload_n 0, 1) := by decide +kernel
theorem dX9_alikeBy_10 : decode cX9_alikeBy 10 = .ok (.getfield 79, 3) := by decide +kernel
theorem dX9_alikeBy_13 : decode cX9_alikeBy 13 = .ok (.iload_n 2, 1) := by decide +kernel
theorem dX9_alikeBy_14 : decode cX9_alikeBy 14 = .ok (.iconst 0, 1) := by decide +kernel
theorem dX9_alikeBy_15 : decode cX9_alikeBy 15 = .ok (.iastore, 1) := by decide +kernel
theorem dX9_alikeBy_16 : decode cX9_alikeBy 16 = .ok (.iinc 2 1, 3) := by decide +kernel
theorem dX9_alikeBy_19 : decode cX9_alikeBy 19 = .ok (.goto (-17), 3) := by decide +kernel
theorem dX9_alikeBy_22 : decode cX9_alikeBy 22 = .ok (.iconst 0, 1) := by decide +kernel
theorem dX9_alikeBy_23 : decode cX9_alikeBy 23 = .ok (.istore_n 2, 1) := by decide +kernel
theorem dX9_alikeBy_24 : decode cX9_alikeBy 24 = .ok (.iconst 0, 1) := by decide +kernel
theorem dX9_alikeBy_25 : decode cX9_alikeBy 25 = .ok (.istore_n 3, 1) := by decide +kernel
theorem dX9_alikeBy_26 : decode cX9_alikeBy 26 = .ok (.iload_n 3, 1) := by decide +kernel
theorem dX9_alikeBy_27 : decode cX9_alikeBy 27 = .ok (.bipush 64, 2) := by decide +kernel
theorem dX9_alikeBy_29 : decode cX9_alikeBy 29 = .ok (.if_icmp .ge 59, 3) := by decide +kernel
theorem dX9_alikeBy_32 : decode cX9_alikeBy 32 = .ok (.aload_n 0, 1) := by decide +kernel
theorem dX9_alikeBy_33 : decode cX9_alikeBy 33 = .ok (.iload_n 3, 1) := by decide +kernel
theorem dX9_alikeBy_34 : decode cX9_alikeBy 34 = .ok (.invokevirtual 240, 3) := by decide +kernel
theorem dX9_alikeBy_37 : decode cX9_alikeBy 37 = .ok (.ifCond .eq 45, 3) := by decide +kernel
theorem dX9_alikeBy_40 : decode cX9_alikeBy 40 = .ok (.aload_n 0, 1) := by decide +kernel
theorem dX9_alikeBy_41 : decode cX9_alikeBy 41 = .ok (.iload_n 1, 1) := by decide +kernel
theorem dX9_alikeBy_42 : decode cX9_alikeBy 42 = .ok (.iload_n 3, 1) := by decide +kernel
theorem dX9_alikeBy_43 : decode cX9_alikeBy 43 = .ok (.invokevirtual 237, 3) := by decide +kernel
theorem dX9_alikeBy_46 : decode cX9_alikeBy 46 = .ok (.istore 4, 2) := by decide +kernel
theorem dX9_alikeBy_48 : decode cX9_alikeBy 48 = .ok (.aload_n 0, 1) := by decide +kernel
theorem dX9_alikeBy_49 : decode cX9_alikeBy 49 = .ok (.getfield 79, 3) := by decide +kernel
theorem dX9_alikeBy_52 : decode cX9_alikeBy 52 = .ok (.iload 4, 2) := by decide +kernel
theorem dX9_alikeBy_54 : decode cX9_alikeBy 54 = .ok (.dup2, 1) := by decide +kernel
theorem dX9_alikeBy_55 : decode cX9_alikeBy 55 = .ok (.iaload, 1) := by decide +kernel
theorem dX9_alikeBy_56 : decode cX9_alikeBy 56 = .ok (.iconst 1, 1) := by decide +kernel
theorem dX9_alikeBy_57 : decode cX9_alikeBy 57 = .ok (.iadd, 1) := by decide +kernel
theorem dX9_alikeBy_58 : decode cX9_alikeBy 58 = .ok (.iastore, 1) := by decide +kernel
theorem dX9_alikeBy_59 : decode cX9_alikeBy 59 = .ok (.aload_n 0, 1) := by decide +kernel
theorem dX9_alikeBy_60 : decode cX9_alikeBy 60 = .ok (.getfield 79, 3) := by decide +kernel
theorem dX9_alikeBy_63 : decode cX9_alikeBy 63 = .ok (.iload 4, 2) := by decide +kernel
theorem dX9_alikeBy_65 : decode cX9_alikeBy 65 = .ok (.iaload, 1) := by decide +kernel
theorem dX9_alikeBy_66 : decode cX9_alikeBy 66 = .ok (.iload_n 2, 1) := by decide +kernel
theorem dX9_alikeBy_67 : decode cX9_alikeBy 67 = .ok (.if_icmp .le 13, 3) := by decide +kernel
theorem dX9_alikeBy_70 : decode cX9_alikeBy 70 = .ok (.aload_n 0, 1) := by decide +kernel
theorem dX9_alikeBy_71 : decode cX9_alikeBy 71 = .ok (.getfield 79, 3) := by decide +kernel
theorem dX9_alikeBy_74 : decode cX9_alikeBy 74 = .ok (.iload 4, 2) := by decide +kernel
theorem dX9_alikeBy_76 : decode cX9_alikeBy 76 = .ok (.iaload, 1) := by decide +kernel
theorem dX9_alikeBy_77 : decode cX9_alikeBy 77 = .ok (.goto 4, 3) := by decide +kernel
theorem dX9_alikeBy_80 : decode cX9_alikeBy 80 = .ok (.iload_n 2, 1) := by decide +kernel
theorem dX9_alikeBy_81 : decode cX9_alikeBy 81 = .ok (.istore_n 2, 1) := by decide +kernel
theorem dX9_alikeBy_82 : decode cX9_alikeBy 82 = .ok (.iinc 3 1, 3) := by decide +kernel
theorem dX9_alikeBy_85 : decode cX9_alikeBy 85 = .ok (.goto (-59), 3) := by decide +kernel
theorem dX9_alikeBy_88 : decode cX9_alikeBy 88 = .ok (.iload_n 2, 1) := by decide +kernel
theorem dX9_alikeBy_89 : decode cX9_alikeBy 89 = .ok (.ireturn, 1) := by decide +kernel
theorem dX9_ask_0 : decode cX9_ask 0 = .ok (.bipush (-6), 2) := by decide +kernel
theorem dX9_ask_2 : decode cX9_ask 2 = .ok (.istore_n 1, 1) := by decide +kernel
theorem dX9_ask_3 : decode cX9_ask 3 = .ok (.iconst 0, 1) := by decide +kernel
theorem dX9_ask_4 : decode cX9_ask 4 = .ok (.istore_n 2, 1) := by decide +kernel
theorem dX9_ask_5 : decode cX9_ask 5 = .ok (.iconst 1, 1) := by decide +kernel
theorem dX9_ask_6 : decode cX9_ask 6 = .ok (.istore_n 3, 1) := by decide +kernel
theorem dX9_ask_7 : decode cX9_ask 7 = .ok (.iload_n 3, 1) := by decide +kernel
theorem dX9_ask_8 : decode cX9_ask 8 = .ok (.bipush 64, 2) := by decide +kernel
theorem dX9_ask_10 : decode cX9_ask 10 = .ok (.if_icmp .ge 31, 3) := by decide +kernel
theorem dX9_ask_13 : decode cX9_ask 13 = .ok (.aload_n 0, 1) := by decide +kernel
theorem dX9_ask_14 : decode cX9_ask 14 = .ok (.iload_n 3, 1) := by decide +kernel
theorem dX9_ask_15 : decode cX9_ask 15 = .ok (.invokevirtual 243, 3) := by decide +kernel
theorem dX9_ask_18 : decode cX9_ask 18 = .ok (.istore 4, 2) := by decide +kernel
theorem dX9_ask_20 : decode cX9_ask 20 = .ok (.iload_n 1, 1) := by decide +kernel
theorem dX9_ask_21 : decode cX9_ask 21 = .ok (.ifCond .lt 9, 3) := by decide +kernel
theorem dX9_ask_24 : decode cX9_ask 24 = .ok (.iload 4, 2) := by decide +kernel
theorem dX9_ask_26 : decode cX9_ask 26 = .ok (.iload_n 2, 1) := by decide +kernel
theorem dX9_ask_27 : decode cX9_ask 27 = .ok (.if_icmp .ge 8, 3) := by decide +kernel
theorem dX9_ask_30 : decode cX9_ask 30 = .ok (.iload_n 3, 1) := by decide +kernel
theorem dX9_ask_31 : decode cX9_ask 31 = .ok (.istore_n 1, 1) := by decide +kernel
theorem dX9_ask_32 : decode cX9_ask 32 = .ok (.iload 4, 2) := by decide +kernel
theorem dX9_ask_34 : decode cX9_ask 34 = .ok (.istore_n 2, 1) := by decide +kernel
theorem dX9_ask_35 : decode cX9_ask 35 = .ok (.iinc 3 1, 3) := by decide +kernel
theorem dX9_ask_38 : decode cX9_ask 38 = .ok (.goto (-31), 3) := by decide +kernel
theorem dX9_ask_41 : decode cX9_ask 41 = .ok (.iload_n 1, 1) := by decide +kernel
theorem dX9_ask_42 : decode cX9_ask 42 = .ok (.ireturn, 1) := by decide +kernel
theorem dX9_sure_0 : decode cX9_sure 0 = .ok (.iload_n 1, 1) := by decide +kernel
theorem dX9_sure_1 : decode cX9_sure 1 = .ok (.i2l, 1) := by decide +kernel
theorem dX9_sure_2 : decode cX9_sure 2 = .ok (.lconst 0, 1) := by decide +kernel
theorem dX9_sure_3 : decode cX9_sure 3 = .ok (.ldc2_w 246, 3) := by decide +kernel
theorem dX9_sure_6 : decode cX9_sure 6 = .ok (.invokestatic 95, 3) := by decide +kernel
theorem dX9_sure_9 : decode cX9_sure 9 = .ok (.ifCond .ne 6, 3) := by decide +kernel
theorem dX9_sure_12 : decode cX9_sure 12 = .ok (.bipush (-2), 2) := by decide +kernel
theorem dX9_sure_14 : decode cX9_sure 14 = .ok (.ireturn, 1) := by decide +kernel
theorem dX9_sure_15 : decode cX9_sure 15 = .ok (.iconst 0, 1) := by decide +kernel
theorem dX9_sure_16 : decode cX9_sure 16 = .ok (.istore_n 2, 1) := by decide +kernel
theorem dX9_sure_17 : decode cX9_sure 17 = .ok (.bipush 63, 2) := by decide +kernel
theorem dX9_sure_19 : decode cX9_sure 19 = .ok (.istore_n 3, 1) := by decide +kernel
theorem dX9_sure_20 : decode cX9_sure 20 = .ok (.iconst 0, 1) := by decide +kernel
theorem dX9_sure_21 : decode cX9_sure 21 = .ok (.istore 4, 2) := by decide +kernel
theorem dX9_sure_23 : decode cX9_sure 23 = .ok (.iconst 0, 1) := by decide +kernel
theorem dX9_sure_24 : decode cX9_sure 24 = .ok (.istore 5, 2) := by decide +kernel
theorem dX9_sure_26 : decode cX9_sure 26 = .ok (.iload 5, 2) := by decide +kernel
theorem dX9_sure_28 : decode cX9_sure 28 = .ok (.bipush 64, 2) := by decide +kernel
theorem dX9_sure_30 : decode cX9_sure 30 = .ok (.if_icmp .ge 33, 3) := by decide +kernel
theorem dX9_sure_33 : decode cX9_sure 33 = .ok (.aload_n 0, 1) := by decide +kernel
theorem dX9_sure_34 : decode cX9_sure 34 = .ok (.iload 5, 2) := by decide +kernel
theorem dX9_sure_36 : decode cX9_sure 36 = .ok (.invokevirtual 240, 3) := by decide +kernel
theorem dX9_sure_39 : decode cX9_sure 39 = .ok (.ifCond .eq 18, 3) := by decide +kernel
theorem dX9_sure_42 : decode cX9_sure 42 = .ok (.iinc 2 1, 3) := by decide +kernel
theorem dX9_sure_45 : decode cX9_sure 45 = .ok (.iload_n 3, 1) := by decide +kernel
theorem dX9_sure_46 : decode cX9_sure 46 = .ok (.iload 5, 2) := by decide +kernel
theorem dX9_sure_48 : decode cX9_sure 48 = .ok (.iand, 1) := by decide +kernel
theorem dX9_sure_49 : decode cX9_sure 49 = .ok (.istore_n 3, 1) := by decide +kernel
theorem dX9_sure_50 : decode cX9_sure 50 = .ok (.iload 4, 2) := by decide +kernel
theorem dX9_sure_52 : decode cX9_sure 52 = .ok (.iload 5, 2) := by decide +kernel
theorem dX9_sure_54 : decode cX9_sure 54 = .ok (.ior, 1) := by decide +kernel
theorem dX9_sure_55 : decode cX9_sure 55 = .ok (.istore 4, 2) := by decide +kernel
theorem dX9_sure_57 : decode cX9_sure 57 = .ok (.iinc 5 1, 3) := by decide +kernel
theorem dX9_sure_60 : decode cX9_sure 60 = .ok (.goto (-34), 3) := by decide +kernel
theorem dX9_sure_63 : decode cX9_sure 63 = .ok (.iload_n 2, 1) := by decide +kernel
theorem dX9_sure_64 : decode cX9_sure 64 = .ok (.ifCond .ne 8, 3) := by decide +kernel
theorem dX9_sure_67 : decode cX9_sure 67 = .ok (.bipush (-5), 2) := by decide +kernel
theorem dX9_sure_69 : decode cX9_sure 69 = .ok (.goto 30, 3) := by decide +kernel
theorem dX9_sure_72 : decode cX9_sure 72 = .ok (.iload_n 1, 1) := by decide +kernel
theorem dX9_sure_73 : decode cX9_sure 73 = .ok (.ifCond .ne 7, 3) := by decide +kernel
theorem dX9_sure_76 : decode cX9_sure 76 = .ok (.iload_n 3, 1) := by decide +kernel
theorem dX9_sure_77 : decode cX9_sure 77 = .ok (.goto 22, 3) := by decide +kernel
theorem dX9_sure_80 : decode cX9_sure 80 = .ok (.iload_n 1, 1) := by decide +kernel
theorem dX9_sure_81 : decode cX9_sure 81 = .ok (.iconst 1, 1) := by decide +kernel
theorem dX9_sure_82 : decode cX9_sure 82 = .ok (.if_icmp .ne 13, 3) := by decide +kernel
theorem dX9_sure_85 : decode cX9_sure 85 = .ok (.bipush 63, 2) := by decide +kernel
theorem dX9_sure_87 : decode cX9_sure 87 = .ok (.iload 4, 2) := by decide +kernel
theorem dX9_sure_89 : decode cX9_sure 89 = .ok (.iconst (-1), 1) := by decide +kernel
theorem dX9_sure_90 : decode cX9_sure 90 = .ok (.ixor, 1) := by decide +kernel
theorem dX9_sure_91 : decode cX9_sure 91 = .ok (.iand, 1) := by decide +kernel
theorem dX9_sure_92 : decode cX9_sure 92 = .ok (.goto 7, 3) := by decide +kernel
theorem dX9_sure_95 : decode cX9_sure 95 = .ok (.aload_n 0, 1) := by decide +kernel
theorem dX9_sure_96 : decode cX9_sure 96 = .ok (.invokevirtual 248, 3) := by decide +kernel
theorem dX9_sure_99 : decode cX9_sure 99 = .ok (.ireturn, 1) := by decide +kernel
theorem dX9_doesBy_0 : decode cX9_doesBy 0 = .ok (.iload_n 2, 1) := by decide +kernel
theorem dX9_doesBy_1 : decode cX9_doesBy 1 = .ok (.iconst 3, 1) := by decide +kernel
theorem dX9_doesBy_2 : decode cX9_doesBy 2 = .ok (.irem, 1) := by decide +kernel
theorem dX9_doesBy_3 : decode cX9_doesBy 3 = .ok (.ifCond .ne 31, 3) := by decide +kernel
theorem dX9_doesBy_6 : decode cX9_doesBy 6 = .ok (.aload_n 0, 1) := by decide +kernel
theorem dX9_doesBy_7 : decode cX9_doesBy 7 = .ok (.getfield 46, 3) := by decide +kernel
theorem dX9_doesBy_10 : decode cX9_doesBy 10 = .ok (.iload_n 1, 1) := by decide +kernel
theorem dX9_doesBy_11 : decode cX9_doesBy 11 = .ok (.dup2, 1) := by decide +kernel
theorem dX9_doesBy_12 : decode cX9_doesBy 12 = .ok (.iaload, 1) := by decide +kernel
theorem dX9_doesBy_13 : decode cX9_doesBy 13 = .ok (.aload_n 0, 1) := by decide +kernel
theorem dX9_doesBy_14 : decode cX9_doesBy 14 = .ok (.getfield 46, 3) := by decide +kernel
theorem dX9_doesBy_17 : decode cX9_doesBy 17 = .ok (.iload_n 1, 1) := by decide +kernel
theorem dX9_doesBy_18 : decode cX9_doesBy 18 = .ok (.iaload, 1) := by decide +kernel
theorem dX9_doesBy_19 : decode cX9_doesBy 19 = .ok (.bipush 40, 2) := by decide +kernel
theorem dX9_doesBy_21 : decode cX9_doesBy 21 = .ok (.if_icmp .ge 7, 3) := by decide +kernel
theorem dX9_doesBy_24 : decode cX9_doesBy 24 = .ok (.iconst 1, 1) := by decide +kernel
theorem dX9_doesBy_25 : decode cX9_doesBy 25 = .ok (.goto 4, 3) := by decide +kernel
theorem dX9_doesBy_28 : decode cX9_doesBy 28 = .ok (.iconst 0, 1) := by decide +kernel
theorem dX9_doesBy_29 : decode cX9_doesBy 29 = .ok (.iadd, 1) := by decide +kernel
theorem dX9_doesBy_30 : decode cX9_doesBy 30 = .ok (.iastore, 1) := by decide +kernel
theorem dX9_doesBy_31 : decode cX9_doesBy 31 = .ok (.goto 65, 3) := by decide +kernel
theorem dX9_doesBy_34 : decode cX9_doesBy 34 = .ok (.iload_n 2, 1) := by decide +kernel
theorem dX9_doesBy_35 : decode cX9_doesBy 35 = .ok (.iconst 3, 1) := by decide +kernel
theorem dX9_doesBy_36 : decode cX9_doesBy 36 = .ok (.irem, 1) := by decide +kernel
theorem dX9_doesBy_37 : decode cX9_doesBy 37 = .ok (.iconst 1, 1) := by decide +kernel
theorem dX9_doesBy_38 : decode cX9_doesBy 38 = .ok (.if_icmp .ne 37, 3) := by decide +kernel
theorem dX9_doesBy_41 : decode cX9_doesBy 41 = .ok (.aload_n 0, 1) := by decide +kernel
theorem dX9_doesBy_42 : decode cX9_doesBy 42 = .ok (.iload_n 1, 1) := by decide +kernel
theorem dX9_doesBy_43 : decode cX9_doesBy 43 = .ok (.iconst 1, 1) := by decide +kernel
theorem dX9_doesBy_44 : decode cX9_doesBy 44 = .ok (.invokevirtual 148, 3) := by decide +kernel
theorem dX9_doesBy_47 : decode cX9_doesBy 47 = .ok (.bipush (-6), 2) := by decide +kernel
theorem dX9_doesBy_49 : decode cX9_doesBy 49 = .ok (.if_icmp .ne 47, 3) := by decide +kernel
theorem dX9_doesBy_52 : decode cX9_doesBy 52 = .ok (.aload_n 0, 1) := by decide +kernel
theorem dX9_doesBy_53 : decode cX9_doesBy 53 = .ok (.getfield 46, 3) := by decide +kernel
theorem dX9_doesBy_56 : decode cX9_doesBy 56 = .ok (.iload_n 1, 1) := by decide +kernel
theorem dX9_doesBy_57 : decode cX9_doesBy 57 = .ok (.dup2, 1) := by decide +kernel
theorem dX9_doesBy_58 : decode cX9_doesBy 58 = .ok (.iaload, 1) := by decide +kernel
theorem dX9_doesBy_59 : decode cX9_doesBy 59 = .ok (.iconst 1, 1) := by decide +kernel
theorem dX9_doesBy_60 : decode cX9_doesBy 60 = .ok (.isub, 1) := by decide +kernel
theorem dX9_doesBy_61 : decode cX9_doesBy 61 = .ok (.iastore, 1) := by decide +kernel
theorem dX9_doesBy_62 : decode cX9_doesBy 62 = .ok (.aload_n 0, 1) := by decide +kernel
theorem dX9_doesBy_63 : decode cX9_doesBy 63 = .ok (.getfield 49, 3) := by decide +kernel
theorem dX9_doesBy_66 : decode cX9_doesBy 66 = .ok (.iload_n 1, 1) := by decide +kernel
theorem dX9_doesBy_67 : decode cX9_doesBy 67 = .ok (.dup2, 1) := by decide +kernel
theorem dX9_doesBy_68 : decode cX9_doesBy 68 = .ok (.iaload, 1) := by decide +kernel
theorem dX9_doesBy_69 : decode cX9_doesBy 69 = .ok (.iconst 1, 1) := by decide +kernel
theorem dX9_doesBy_70 : decode cX9_doesBy 70 = .ok (.iadd, 1) := by decide +kernel
theorem dX9_doesBy_71 : decode cX9_doesBy 71 = .ok (.iastore, 1) := by decide +kernel
theorem dX9_doesBy_72 : decode cX9_doesBy 72 = .ok (.goto 24, 3) := by decide +kernel
theorem dX9_doesBy_75 : decode cX9_doesBy 75 = .ok (.aload_n 0, 1) := by decide +kernel
theorem dX9_doesBy_76 : decode cX9_doesBy 76 = .ok (.iload_n 1, 1) := by decide +kernel
theorem dX9_doesBy_77 : decode cX9_doesBy 77 = .ok (.iload_n 2, 1) := by decide +kernel
theorem dX9_doesBy_78 : decode cX9_doesBy 78 = .ok (.iconst 4, 1) := by decide +kernel
theorem dX9_doesBy_79 : decode cX9_doesBy 79 = .ok (.irem, 1) := by decide +kernel
theorem dX9_doesBy_80 : decode cX9_doesBy 80 = .ok (.invokevirtual 152, 3) := by decide +kernel
theorem dX9_doesBy_83 : decode cX9_doesBy 83 = .ok (.bipush (-6), 2) := by decide +kernel
theorem dX9_doesBy_85 : decode cX9_doesBy 85 = .ok (.if_icmp .ne 11, 3) := by decide +kernel
theorem dX9_doesBy_88 : decode cX9_doesBy 88 = .ok (.aload_n 0, 1) := by decide +kernel
theorem dX9_doesBy_89 : decode cX9_doesBy 89 = .ok (.iload_n 1, 1) := by decide +kernel
theorem dX9_doesBy_90 : decode cX9_doesBy 90 = .ok (.iload_n 2, 1) := by decide +kernel
theorem dX9_doesBy_91 : decode cX9_doesBy 91 = .ok (.iconst 4, 1) := by decide +kernel
theorem dX9_doesBy_92 : decode cX9_doesBy 92 = .ok (.irem, 1) := by decide +kernel
theorem dX9_doesBy_93 : decode cX9_doesBy 93 = .ok (.invokevirtual 155, 3) := by decide +kernel
theorem dX9_doesBy_96 : decode cX9_doesBy 96 = .ok (.return_, 1) := by decide +kernel
theorem dX9_year_0 : decode cX9_year 0 = .ok (.iload_n 1, 1) := by decide +kernel
theorem dX9_year_1 : decode cX9_year 1 = .ok (.i2l, 1) := by decide +kernel
theorem dX9_year_2 : decode cX9_year 2 = .ok (.lconst 0, 1) := by decide +kernel
theorem dX9_year_3 : decode cX9_year 3 = .ok (.ldc2_w 202, 3) := by decide +kernel
theorem dX9_year_6 : decode cX9_year 6 = .ok (.invokestatic 95, 3) := by decide +kernel
theorem dX9_year_9 : decode cX9_year 9 = .ok (.ifCond .eq 25, 3) := by decide +kernel
theorem dX9_year_12 : decode cX9_year 12 = .ok (.iload_n 2, 1) := by decide +kernel
theorem dX9_year_13 : decode cX9_year 13 = .ok (.i2l, 1) := by decide +kernel
theorem dX9_year_14 : decode cX9_year 14 = .ok (.lconst 1, 1) := by decide +kernel
theorem dX9_year_15 : decode cX9_year 15 = .ok (.ldc2_w 251, 3) := by decide +kernel
theorem dX9_year_18 : decode cX9_year 18 = .ok (.invokestatic 95, 3) := by decide +kernel
theorem dX9_year_21 : decode cX9_year 21 = .ok (.ifCond .eq 13, 3) := by decide +kernel
theorem dX9_year_24 : decode cX9_year 24 = .ok (.iload_n 3, 1) := by decide +kernel
theorem dX9_year_25 : decode cX9_year 25 = .ok (.i2l, 1) := by decide +kernel
theorem dX9_year_26 : decode cX9_year 26 = .ok (.lconst 0, 1) := by decide +kernel
theorem dX9_year_27 : decode cX9_year 27 = .ok (.lconst 1, 1) := by decide +kernel
theorem dX9_year_28 : decode cX9_year 28 = .ok (.invokestatic 95, 3) := by decide +kernel
theorem dX9_year_31 : decode cX9_year 31 = .ok (.ifCond .ne 6, 3) := by decide +kernel
theorem dX9_year_34 : decode cX9_year 34 = .ok (.bipush (-2), 2) := by decide +kernel
theorem dX9_year_36 : decode cX9_year 36 = .ok (.ireturn, 1) := by decide +kernel
theorem dX9_year_37 : decode cX9_year 37 = .ok (.aload_n 0, 1) := by decide +kernel
theorem dX9_year_38 : decode cX9_year 38 = .ok (.invokevirtual 159, 3) := by decide +kernel
theorem dX9_year_41 : decode cX9_year 41 = .ok (.iload_n 1, 1) := by decide +kernel
theorem dX9_year_42 : decode cX9_year 42 = .ok (.istore 4, 2) := by decide +kernel
theorem dX9_year_44 : decode cX9_year 44 = .ok (.bipush (-6), 2) := by decide +kernel
theorem dX9_year_46 : decode cX9_year 46 = .ok (.istore 5, 2) := by decide +kernel
theorem dX9_year_48 : decode cX9_year 48 = .ok (.iconst 0, 1) := by decide +kernel
theorem dX9_year_49 : decode cX9_year 49 = .ok (.istore 6, 2) := by decide +kernel
theorem dX9_year_51 : decode cX9_year 51 = .ok (.iload 6, 2) := by decide +kernel
theorem dX9_year_53 : decode cX9_year 53 = .ok (.iload_n 2, 1) := by decide +kernel
theorem dX9_year_54 : decode cX9_year 54 = .ok (.if_icmp .ge 82, 3) := by decide +kernel
theorem dX9_year_57 : decode cX9_year 57 = .ok (.iconst 0, 1) := by decide +kernel
theorem dX9_year_58 : decode cX9_year 58 = .ok (.istore 7, 2) := by decide +kernel
theorem dX9_year_60 : decode cX9_year 60 = .ok (.iload 7, 2) := by decide +kernel
theorem dX9_year_62 : decode cX9_year 62 = .ok (.bipush 6, 2) := by decide +kernel
theorem dX9_year_64 : decode cX9_year 64 = .ok (.if_icmp .ge 35, 3) := by decide +kernel
theorem dX9_year_67 : decode cX9_year 67 = .ok (.ldc2_w 253, 3) := by decide +kernel
theorem dX9_year_70 : decode cX9_year 70 = .ok (.iload 4, 2) := by decide +kernel
theorem dX9_year_72 : decode cX9_year 72 = .ok (.i2l, 1) := by decide +kernel
theorem dX9_year_73 : decode cX9_year 73 = .ok (.lmul, 1) := by decide +kernel
theorem dX9_year_74 : decode cX9_year 74 = .ok (.ldc2_w 255, 3) := by decide +kernel
theorem dX9_year_77 : decode cX9_year 77 = .ok (.ladd, 1) := by decide +kernel
theorem dX9_year_78 : decode cX9_year 78 = .ok (.ldc2_w 257, 3) := by decide +kernel
theorem dX9_year_81 : decode cX9_year 81 = .ok (.lrem, 1) := by decide +kernel
theorem dX9_year_82 : decode cX9_year 82 = .ok (.l2i, 1) := by decide +kernel
theorem dX9_year_83 : decode cX9_year 83 = .ok (.istore 4, 2) := by decide +kernel
theorem dX9_year_85 : decode cX9_year 85 = .ok (.aload_n 0, 1) := by decide +kernel
theorem dX9_year_86 : decode cX9_year 86 = .ok (.iload 7, 2) := by decide +kernel
theorem dX9_year_88 : decode cX9_year 88 = .ok (.iload 4, 2) := by decide +kernel
theorem dX9_year_90 : decode cX9_year 90 = .ok (.invokevirtual 259, 3) := by decide +kernel
theorem dX9_year_93 : decode cX9_year 93 = .ok (.iinc 7 1, 3) := by decide +kernel
theorem dX9_year_96 : decode cX9_year 96 = .ok (.goto (-36), 3) := by decide +kernel
theorem dX9_year_99 : decode cX9_year 99 = .ok (.aload_n 0, 1) := by decide +kernel
theorem dX9_year_100 : decode cX9_year 100 = .ok (.invokevirtual 145, 3) := by decide +kernel
theorem dX9_year_103 : decode cX9_year 103 = .ok (.aload_n 0, 1) := by decide +kernel
theorem dX9_year_104 : decode cX9_year 104 = .ok (.invokevirtual 185, 3) := by decide +kernel
theorem dX9_year_107 : decode cX9_year 107 = .ok (.istore 7, 2) := by decide +kernel
theorem dX9_year_109 : decode cX9_year 109 = .ok (.iload 5, 2) := by decide +kernel
theorem dX9_year_111 : decode cX9_year 111 = .ok (.ifCond .lt 10, 3) := by decide +kernel
theorem dX9_year_114 : decode cX9_year 114 = .ok (.iload 7, 2) := by decide +kernel
theorem dX9_year_116 : decode cX9_year 116 = .ok (.iload 5, 2) := by decide +kernel
theorem dX9_year_118 : decode cX9_year 118 = .ok (.if_icmp .ge 8, 3) := by decide +kernel
theorem dX9_year_121 : decode cX9_year 121 = .ok (.iload 7, 2) := by decide +kernel
theorem dX9_year_123 : decode cX9_year 123 = .ok (.goto 5, 3) := by decide +kernel
theorem dX9_year_126 : decode cX9_year 126 = .ok (.iload 5, 2) := by decide +kernel
theorem dX9_year_128 : decode cX9_year 128 = .ok (.istore 5, 2) := by decide +kernel
theorem dX9_year_130 : decode cX9_year 130 = .ok (.iinc 6 1, 3) := by decide +kernel
theorem dX9_year_133 : decode cX9_year 133 = .ok (.goto (-82), 3) := by decide +kernel
theorem dX9_year_136 : decode cX9_year 136 = .ok (.iload_n 3, 1) := by decide +kernel
theorem dX9_year_137 : decode cX9_year 137 = .ok (.ifCond .ne 10, 3) := by decide +kernel
theorem dX9_year_140 : decode cX9_year 140 = .ok (.aload_n 0, 1) := by decide +kernel
theorem dX9_year_141 : decode cX9_year 141 = .ok (.invokevirtual 185, 3) := by decide +kernel
theorem dX9_year_144 : decode cX9_year 144 = .ok (.goto 5, 3) := by decide +kernel
theorem dX9_year_147 : decode cX9_year 147 = .ok (.iload 5, 2) := by decide +kernel
theorem dX9_year_149 : decode cX9_year 149 = .ok (.ireturn, 1) := by decide +kernel
theorem dX9_pass_0 : decode cX9_pass 0 = .ok (.aload_n 0, 1) := by decide +kernel
theorem dX9_pass_1 : decode cX9_pass 1 = .ok (.getfield 262, 3) := by decide +kernel
theorem dX9_pass_4 : decode cX9_pass 4 = .ok (.ifCond .eq 7, 3) := by decide +kernel
theorem dX9_pass_7 : decode cX9_pass 7 = .ok (.iload_n 1, 1) := by decide +kernel
theorem dX9_pass_8 : decode cX9_pass 8 = .ok (.goto 12, 3) := by decide +kernel
theorem dX9_pass_11 : decode cX9_pass 11 = .ok (.aload_n 0, 1) := by decide +kernel
theorem dX9_pass_12 : decode cX9_pass 12 = .ok (.getfield 82, 3) := by decide +kernel
theorem dX9_pass_15 : decode cX9_pass 15 = .ok (.aload_n 0, 1) := by decide +kernel
theorem dX9_pass_16 : decode cX9_pass 16 = .ok (.getfield 266, 3) := by decide +kernel
theorem dX9_pass_19 : decode cX9_pass 19 = .ok (.iaload, 1) := by decide +kernel
theorem dX9_pass_20 : decode cX9_pass 20 = .ok (.istore_n 2, 1) := by decide +kernel
theorem dX9_pass_21 : decode cX9_pass 21 = .ok (.aload_n 0, 1) := by decide +kernel
theorem dX9_pass_22 : decode cX9_pass 22 = .ok (.getfield 82, 3) := by decide +kernel
theorem dX9_pass_25 : decode cX9_pass 25 = .ok (.aload_n 0, 1) := by decide +kernel
theorem dX9_pass_26 : decode cX9_pass 26 = .ok (.getfield 266, 3) := by decide +kernel
theorem dX9_pass_29 : decode cX9_pass 29 = .ok (.iload_n 2, 1) := by decide +kernel
theorem dX9_pass_30 : decode cX9_pass 30 = .ok (.iastore, 1) := by decide +kernel
theorem dX9_pass_31 : decode cX9_pass 31 = .ok (.aload_n 0, 1) := by decide +kernel
theorem dX9_pass_32 : decode cX9_pass 32 = .ok (.dup, 1) := by decide +kernel
theorem dX9_pass_33 : decode cX9_pass 33 = .ok (.getfield 266, 3) := by decide +kernel
theorem dX9_pass_36 : decode cX9_pass 36 = .ok (.iconst 1, 1) := by decide +kernel
theorem dX9_pass_37 : decode cX9_pass 37 = .ok (.iadd, 1) := by decide +kernel
theorem dX9_pass_38 : decode cX9_pass 38 = .ok (.putfield 266, 3) := by decide +kernel
theorem dX9_pass_41 : decode cX9_pass 41 = .ok (.iload_n 2, 1) := by decide +kernel
theorem dX9_pass_42 : decode cX9_pass 42 = .ok (.ireturn, 1) := by decide +kernel
theorem dX9_passAll_0 : decode cX9_passAll 0 = .ok (.aload_n 0, 1) := by decide +kernel
theorem dX9_passAll_1 : decode cX9_passAll 1 = .ok (.aload_n 0, 1) := by decide +kernel
theorem dX9_passAll_2 : decode cX9_passAll 2 = .ok (.aload_n 0, 1) := by decide +kernel
theorem dX9_passAll_3 : decode cX9_passAll 3 = .ok (.getfield 89, 3) := by decide +kernel
theorem dX9_passAll_6 : decode cX9_passAll 6 = .ok (.invokevirtual 269, 3) := by decide +kernel
theorem dX9_passAll_9 : decode cX9_passAll 9 = .ok (.putfield 89, 3) := by decide +kernel
theorem dX9_passAll_12 : decode cX9_passAll 12 = .ok (.aload_n 0, 1) := by decide +kernel
theorem dX9_passAll_13 : decode cX9_passAll 13 = .ok (.aload_n 0, 1) := by decide +kernel
theorem dX9_passAll_14 : decode cX9_passAll 14 = .ok (.aload_n 0, 1) := by decide +kernel
theorem dX9_passAll_15 : decode cX9_passAll 15 = .ok (.getfield 101, 3) := by decide +kernel
theorem dX9_passAll_18 : decode cX9_passAll 18 = .ok (.invokevirtual 269, 3) := by decide +kernel
theorem dX9_passAll_21 : decode cX9_passAll 21 = .ok (.putfield 101, 3) := by decide +kernel
theorem dX9_passAll_24 : decode cX9_passAll 24 = .ok (.aload_n 0, 1) := by decide +kernel
theorem dX9_passAll_25 : decode cX9_passAll 25 = .ok (.aload_n 0, 1) := by decide +kernel
theorem dX9_passAll_26 : decode cX9_passAll 26 = .ok (.aload_n 0, 1) := by decide +kernel
theorem dX9_passAll_27 : decode cX9_passAll 27 = .ok (.getfield 206, 3) := by decide +kernel
theorem dX9_passAll_30 : decode cX9_passAll 30 = .ok (.invokevirtual 269, 3) := by decide +kernel
theorem dX9_passAll_33 : decode cX9_passAll 33 = .ok (.putfield 206, 3) := by decide +kernel
theorem dX9_passAll_36 : decode cX9_passAll 36 = .ok (.aload_n 0, 1) := by decide +kernel
theorem dX9_passAll_37 : decode cX9_passAll 37 = .ok (.aload_n 0, 1) := by decide +kernel
theorem dX9_passAll_38 : decode cX9_passAll 38 = .ok (.aload_n 0, 1) := by decide +kernel
theorem dX9_passAll_39 : decode cX9_passAll 39 = .ok (.getfield 234, 3) := by decide +kernel
theorem dX9_passAll_42 : decode cX9_passAll 42 = .ok (.invokevirtual 269, 3) := by decide +kernel
theorem dX9_passAll_45 : decode cX9_passAll 45 = .ok (.putfield 234, 3) := by decide +kernel
theorem dX9_passAll_48 : decode cX9_passAll 48 = .ok (.iconst 0, 1) := by decide +kernel
theorem dX9_passAll_49 : decode cX9_passAll 49 = .ok (.istore_n 1, 1) := by decide +kernel
theorem dX9_passAll_50 : decode cX9_passAll 50 = .ok (.iload_n 1, 1) := by decide +kernel
theorem dX9_passAll_51 : decode cX9_passAll 51 = .ok (.bipush 6, 2) := by decide +kernel
theorem dX9_passAll_53 : decode cX9_passAll 53 = .ok (.if_icmp .ge 137, 3) := by decide +kernel
theorem dX9_passAll_56 : decode cX9_passAll 56 = .ok (.aload_n 0, 1) := by decide +kernel
theorem dX9_passAll_57 : decode cX9_passAll 57 = .ok (.getfield 7, 3) := by decide +kernel
theorem dX9_passAll_60 : decode cX9_passAll 60 = .ok (.iload_n 1, 1) := by decide +kernel
theorem dX9_passAll_61 : decode cX9_passAll 61 = .ok (.aload_n 0, 1) := by decide +kernel
theorem dX9_passAll_62 : decode cX9_passAll 62 = .ok (.aload_n 0, 1) := by decide +kernel
theorem dX9_passAll_63 : decode cX9_passAll 63 = .ok (.getfield 7, 3) := by decide +kernel
theorem dX9_passAll_66 : decode cX9_passAll 66 = .ok (.iload_n 1, 1) := by decide +kernel
theorem dX9_passAll_67 : decode cX9_passAll 67 = .ok (.iaload, 1) := by decide +kernel
theorem dX9_passAll_68 : decode cX9_passAll 68 = .ok (.invokevirtual 269, 3) := by decide +kernel
theorem dX9_passAll_71 : decode cX9_passAll 71 = .ok (.iastore, 1) := by decide +kernel
theorem dX9_passAll_72 : decode cX9_passAll 72 = .ok (.aload_n 0, 1) := by decide +kernel
theorem dX9_passAll_73 : decode cX9_passAll 73 = .ok (.getfield 13, 3) := by decide +kernel
theorem dX9_passAll_76 : decode cX9_passAll 76 = .ok (.iload_n 1, 1) := by decide +kernel
theorem dX9_passAll_77 : decode cX9_passAll 77 = .ok (.aload_n 0, 1) := by decide +kernel
theorem dX9_passAll_78 : decode cX9_passAll 78 = .ok (.aload_n 0, 1) := by decide +kernel
theorem dX9_passAll_79 : decode cX9_passAll 79 = .ok (.getfield 13, 3) := by decide +kernel
theorem dX9_passAll_82 : decode cX9_passAll 82 = .ok (.iload_n 1, 1) := by decide +kernel
theorem dX9_passAll_83 : decode cX9_passAll 83 = .ok (.iaload, 1) := by decide +kernel
theorem dX9_passAll_84 : decode cX9_passAll 84 = .ok (.invokevirtual 269, 3) := by decide +kernel
theorem dX9_passAll_87 : decode cX9_passAll 87 = .ok (.iastore, 1) := by decide +kernel
theorem dX9_passAll_88 : decode cX9_passAll 88 = .ok (.aload_n 0, 1) := by decide +kernel
theorem dX9_passAll_89 : decode cX9_passAll 89 = .ok (.getfield 16, 3) := by decide +kernel
theorem dX9_passAll_92 : decode cX9_passAll 92 = .ok (.iload_n 1, 1) := by decide +kernel
theorem dX9_passAll_93 : decode cX9_passAll 93 = .ok (.aload_n 0, 1) := by decide +kernel
theorem dX9_passAll_94 : decode cX9_passAll 94 = .ok (.aload_n 0, 1) := by decide +kernel
theorem dX9_passAll_95 : decode cX9_passAll 95 = .ok (.getfield 16, 3) := by decide +kernel
theorem dX9_passAll_98 : decode cX9_passAll 98 = .ok (.iload_n 1, 1) := by decide +kernel
theorem dX9_passAll_99 : decode cX9_passAll 99 = .ok (.iaload, 1) := by decide +kernel
theorem dX9_passAll_100 : decode cX9_passAll 100 = .ok (.invokevirtual 269, 3) := by decide +kernel
theorem dX9_passAll_103 : decode cX9_passAll 103 = .ok (.iastore, 1) := by decide +kernel
theorem dX9_passAll_104 : decode cX9_passAll 104 = .ok (.aload_n 0, 1) := by decide +kernel
theorem dX9_passAll_105 : decode cX9_passAll 105 = .ok (.getfield 19, 3) := by decide +kernel
theorem dX9_passAll_108 : decode cX9_passAll 108 = .ok (.iload_n 1, 1) := by decide +kernel
theorem dX9_passAll_109 : decode cX9_passAll 109 = .ok (.aload_n 0, 1) := by decide +kernel
theorem dX9_passAll_110 : decode cX9_passAll 110 = .ok (.aload_n 0, 1) := by decide +kernel
theorem dX9_passAll_111 : decode cX9_passAll 111 = .ok (.getfield 19, 3) := by decide +kernel
theorem dX9_passAll_114 : decode cX9_passAll 114 = .ok (.iload_n 1, 1) := by decide +kernel
theorem dX9_passAll_115 : decode cX9_passAll 115 = .ok (.iaload, 1) := by decide +kernel
theorem dX9_passAll_116 : decode cX9_passAll 116 = .ok (.invokevirtual 269, 3) := by decide +kernel
theorem dX9_passAll_119 : decode cX9_passAll 119 = .ok (.iastore, 1) := by decide +kernel
theorem dX9_passAll_120 : decode cX9_passAll 120 = .ok (.aload_n 0, 1) := by decide +kernel
theorem dX9_passAll_121 : decode cX9_passAll 121 = .ok (.getfield 34, 3) := by decide +kernel
theorem dX9_passAll_124 : decode cX9_passAll 124 = .ok (.iload_n 1, 1) := by decide +kernel
theorem dX9_passAll_125 : decode cX9_passAll 125 = .ok (.aload_n 0, 1) := by decide +kernel
theorem dX9_passAll_126 : decode cX9_passAll 126 = .ok (.aload_n 0, 1) := by decide +kernel
theorem dX9_passAll_127 : decode cX9_passAll 127 = .ok (.getfield 34, 3) := by decide +kernel
theorem dX9_passAll_130 : decode cX9_passAll 130 = .ok (.iload_n 1, 1) := by decide +kernel
theorem dX9_passAll_131 : decode cX9_passAll 131 = .ok (.iaload, 1) := by decide +kernel
theorem dX9_passAll_132 : decode cX9_passAll 132 = .ok (.invokevirtual 269, 3) := by decide +kernel
theorem dX9_passAll_135 : decode cX9_passAll 135 = .ok (.iastore, 1) := by decide +kernel
theorem dX9_passAll_136 : decode cX9_passAll 136 = .ok (.aload_n 0, 1) := by decide +kernel
theorem dX9_passAll_137 : decode cX9_passAll 137 = .ok (.getfield 37, 3) := by decide +kernel
theorem dX9_passAll_140 : decode cX9_passAll 140 = .ok (.iload_n 1, 1) := by decide +kernel
theorem dX9_passAll_141 : decode cX9_passAll 141 = .ok (.aload_n 0, 1) := by decide +kernel
theorem dX9_passAll_142 : decode cX9_passAll 142 = .ok (.aload_n 0, 1) := by decide +kernel
theorem dX9_passAll_143 : decode cX9_passAll 143 = .ok (.getfield 37, 3) := by decide +kernel
theorem dX9_passAll_146 : decode cX9_passAll 146 = .ok (.iload_n 1, 1) := by decide +kernel
theorem dX9_passAll_147 : decode cX9_passAll 147 = .ok (.iaload, 1) := by decide +kernel
theorem dX9_passAll_148 : decode cX9_passAll 148 = .ok (.invokevirtual 269, 3) := by decide +kernel
theorem dX9_passAll_151 : decode cX9_passAll 151 = .ok (.iastore, 1) := by decide +kernel
theorem dX9_passAll_152 : decode cX9_passAll 152 = .ok (.aload_n 0, 1) := by decide +kernel
theorem dX9_passAll_153 : decode cX9_passAll 153 = .ok (.getfield 40, 3) := by decide +kernel
theorem dX9_passAll_156 : decode cX9_passAll 156 = .ok (.iload_n 1, 1) := by decide +kernel
theorem dX9_passAll_157 : decode cX9_passAll 157 = .ok (.aload_n 0, 1) := by decide +kernel
theorem dX9_passAll_158 : decode cX9_passAll 158 = .ok (.aload_n 0, 1) := by decide +kernel
theorem dX9_passAll_159 : decode cX9_passAll 159 = .ok (.getfield 40, 3) := by decide +kernel
theorem dX9_passAll_162 : decode cX9_passAll 162 = .ok (.iload_n 1, 1) := by decide +kernel
theorem dX9_passAll_163 : decode cX9_passAll 163 = .ok (.iaload, 1) := by decide +kernel
theorem dX9_passAll_164 : decode cX9_passAll 164 = .ok (.invokevirtual 269, 3) := by decide +kernel
theorem dX9_passAll_167 : decode cX9_passAll 167 = .ok (.iastore, 1) := by decide +kernel
theorem dX9_passAll_168 : decode cX9_passAll 168 = .ok (.aload_n 0, 1) := by decide +kernel
theorem dX9_passAll_169 : decode cX9_passAll 169 = .ok (.getfield 43, 3) := by decide +kernel
theorem dX9_passAll_172 : decode cX9_passAll 172 = .ok (.iload_n 1, 1) := by decide +kernel
theorem dX9_passAll_173 : decode cX9_passAll 173 = .ok (.aload_n 0, 1) := by decide +kernel
theorem dX9_passAll_174 : decode cX9_passAll 174 = .ok (.aload_n 0, 1) := by decide +kernel
theorem dX9_passAll_175 : decode cX9_passAll 175 = .ok (.getfield 43, 3) := by decide +kernel
theorem dX9_passAll_178 : decode cX9_passAll 178 = .ok (.iload_n 1, 1) := by decide +kernel
theorem dX9_passAll_179 : decode cX9_passAll 179 = .ok (.iaload, 1) := by decide +kernel
theorem dX9_passAll_180 : decode cX9_passAll 180 = .ok (.invokevirtual 269, 3) := by decide +kernel
theorem dX9_passAll_183 : decode cX9_passAll 183 = .ok (.iastore, 1) := by decide +kernel
theorem dX9_passAll_184 : decode cX9_passAll 184 = .ok (.iinc 1 1, 3) := by decide +kernel
theorem dX9_passAll_187 : decode cX9_passAll 187 = .ok (.goto (-137), 3) := by decide +kernel
theorem dX9_passAll_190 : decode cX9_passAll 190 = .ok (.iconst 0, 1) := by decide +kernel
theorem dX9_passAll_191 : decode cX9_passAll 191 = .ok (.istore_n 1, 1) := by decide +kernel
theorem dX9_passAll_192 : decode cX9_passAll 192 = .ok (.iload_n 1, 1) := by decide +kernel
theorem dX9_passAll_193 : decode cX9_passAll 193 = .ok (.bipush 32, 2) := by decide +kernel
theorem dX9_passAll_195 : decode cX9_passAll 195 = .ok (.if_icmp .ge 57, 3) := by decide +kernel
theorem dX9_passAll_198 : decode cX9_passAll 198 = .ok (.aload_n 0, 1) := by decide +kernel
theorem dX9_passAll_199 : decode cX9_passAll 199 = .ok (.getfield 22, 3) := by decide +kernel
theorem dX9_passAll_202 : decode cX9_passAll 202 = .ok (.iload_n 1, 1) := by decide +kernel
theorem dX9_passAll_203 : decode cX9_passAll 203 = .ok (.aload_n 0, 1) := by decide +kernel
theorem dX9_passAll_204 : decode cX9_passAll 204 = .ok (.aload_n 0, 1) := by decide +kernel
theorem dX9_passAll_205 : decode cX9_passAll 205 = .ok (.getfield 22, 3) := by decide +kernel
theorem dX9_passAll_208 : decode cX9_passAll 208 = .ok (.iload_n 1, 1) := by decide +kernel
theorem dX9_passAll_209 : decode cX9_passAll 209 = .ok (.iaload, 1) := by decide +kernel
theorem dX9_passAll_210 : decode cX9_passAll 210 = .ok (.invokevirtual 269, 3) := by decide +kernel
theorem dX9_passAll_213 : decode cX9_passAll 213 = .ok (.iastore, 1) := by decide +kernel
theorem dX9_passAll_214 : decode cX9_passAll 214 = .ok (.aload_n 0, 1) := by decide +kernel
theorem dX9_passAll_215 : decode cX9_passAll 215 = .ok (.getfield 25, 3) := by decide +kernel
theorem dX9_passAll_218 : decode cX9_passAll 218 = .ok (.iload_n 1, 1) := by decide +kernel
theorem dX9_passAll_219 : decode cX9_passAll 219 = .ok (.aload_n 0, 1) := by decide +kernel
theorem dX9_passAll_220 : decode cX9_passAll 220 = .ok (.aload_n 0, 1) := by decide +kernel
theorem dX9_passAll_221 : decode cX9_passAll 221 = .ok (.getfield 25, 3) := by decide +kernel
theorem dX9_passAll_224 : decode cX9_passAll 224 = .ok (.iload_n 1, 1) := by decide +kernel
theorem dX9_passAll_225 : decode cX9_passAll 225 = .ok (.iaload, 1) := by decide +kernel
theorem dX9_passAll_226 : decode cX9_passAll 226 = .ok (.invokevirtual 269, 3) := by decide +kernel
theorem dX9_passAll_229 : decode cX9_passAll 229 = .ok (.iastore, 1) := by decide +kernel
theorem dX9_passAll_230 : decode cX9_passAll 230 = .ok (.aload_n 0, 1) := by decide +kernel
theorem dX9_passAll_231 : decode cX9_passAll 231 = .ok (.getfield 28, 3) := by decide +kernel
theorem dX9_passAll_234 : decode cX9_passAll 234 = .ok (.iload_n 1, 1) := by decide +kernel
theorem dX9_passAll_235 : decode cX9_passAll 235 = .ok (.aload_n 0, 1) := by decide +kernel
theorem dX9_passAll_236 : decode cX9_passAll 236 = .ok (.aload_n 0, 1) := by decide +kernel
theorem dX9_passAll_237 : decode cX9_passAll 237 = .ok (.getfield 28, 3) := by decide +kernel
theorem dX9_passAll_240 : decode cX9_passAll 240 = .ok (.iload_n 1, 1) := by decide +kernel
theorem dX9_passAll_241 : decode cX9_passAll 241 = .ok (.iaload, 1) := by decide +kernel
theorem dX9_passAll_242 : decode cX9_passAll 242 = .ok (.invokevirtual 269, 3) := by decide +kernel
theorem dX9_passAll_245 : decode cX9_passAll 245 = .ok (.iastore, 1) := by decide +kernel
theorem dX9_passAll_246 : decode cX9_passAll 246 = .ok (.iinc 1 1, 3) := by decide +kernel
theorem dX9_passAll_249 : decode cX9_passAll 249 = .ok (.goto (-57), 3) := by decide +kernel
theorem dX9_passAll_252 : decode cX9_passAll 252 = .ok (.iconst 0, 1) := by decide +kernel
theorem dX9_passAll_253 : decode cX9_passAll 253 = .ok (.istore_n 1, 1) := by decide +kernel
theorem dX9_passAll_254 : decode cX9_passAll 254 = .ok (.iload_n 1, 1) := by decide +kernel
theorem dX9_passAll_255 : decode cX9_passAll 255 = .ok (.iconst 4, 1) := by decide +kernel
theorem dX9_passAll_256 : decode cX9_passAll 256 = .ok (.if_icmp .ge 25, 3) := by decide +kernel
theorem dX9_passAll_259 : decode cX9_passAll 259 = .ok (.aload_n 0, 1) := by decide +kernel
theorem dX9_passAll_260 : decode cX9_passAll 260 = .ok (.getfield 31, 3) := by decide +kernel
theorem dX9_passAll_263 : decode cX9_passAll 263 = .ok (.iload_n 1, 1) := by decide +kernel
theorem dX9_passAll_264 : decode cX9_passAll 264 = .ok (.aload_n 0, 1) := by decide +kernel
theorem dX9_passAll_265 : decode cX9_passAll 265 = .ok (.aload_n 0, 1) := by decide +kernel
theorem dX9_passAll_266 : decode cX9_passAll 266 = .ok (.getfield 31, 3) := by decide +kernel
theorem dX9_passAll_269 : decode cX9_passAll 269 = .ok (.iload_n 1, 1) := by decide +kernel
theorem dX9_passAll_270 : decode cX9_passAll 270 = .ok (.iaload, 1) := by decide +kernel
theorem dX9_passAll_271 : decode cX9_passAll 271 = .ok (.invokevirtual 269, 3) := by decide +kernel
theorem dX9_passAll_274 : decode cX9_passAll 274 = .ok (.iastore, 1) := by decide +kernel
theorem dX9_passAll_275 : decode cX9_passAll 275 = .ok (.iinc 1 1, 3) := by decide +kernel
theorem dX9_passAll_278 : decode cX9_passAll 278 = .ok (.goto (-24), 3) := by decide +kernel
theorem dX9_passAll_281 : decode cX9_passAll 281 = .ok (.return_, 1) := by decide +kernel
theorem dX9_image_0 : decode cX9_image 0 = .ok (.iload_n 1, 1) := by decide +kernel
theorem dX9_image_1 : decode cX9_image 1 = .ok (.i2l, 1) := by decide +kernel
theorem dX9_image_2 : decode cX9_image 2 = .ok (.lconst 0, 1) := by decide +kernel
theorem dX9_image_3 : decode cX9_image 3 = .ok (.lconst 1, 1) := by decide +kernel
theorem dX9_image_4 : decode cX9_image 4 = .ok (.invokestatic 95, 3) := by decide +kernel
theorem dX9_image_7 : decode cX9_image 7 = .ok (.ifCond .ne 6, 3) := by decide +kernel
theorem dX9_image_10 : decode cX9_image 10 = .ok (.bipush (-2), 2) := by decide +kernel
theorem dX9_image_12 : decode cX9_image 12 = .ok (.ireturn, 1) := by decide +kernel
theorem dX9_image_13 : decode cX9_image 13 = .ok (.aload_n 0, 1) := by decide +kernel
theorem dX9_image_14 : decode cX9_image 14 = .ok (.sipush 180, 3) := by decide +kernel
theorem dX9_image_17 : decode cX9_image 17 = .ok (.iload_n 1, 1) := by decide +kernel
theorem dX9_image_18 : decode cX9_image 18 = .ok (.imul, 1) := by decide +kernel
theorem dX9_image_19 : decode cX9_image 19 = .ok (.putfield 266, 3) := by decide +kernel
theorem dX9_image_22 : decode cX9_image 22 = .ok (.aload_n 0, 1) := by decide +kernel
theorem dX9_image_23 : decode cX9_image 23 = .ok (.iconst 1, 1) := by decide +kernel
theorem dX9_image_24 : decode cX9_image 24 = .ok (.putfield 262, 3) := by decide +kernel
theorem dX9_image_27 : decode cX9_image 27 = .ok (.aload_n 0, 1) := by decide +kernel
theorem dX9_image_28 : decode cX9_image 28 = .ok (.invokevirtual 272, 3) := by decide +kernel
theorem dX9_image_31 : decode cX9_image 31 = .ok (.aload_n 0, 1) := by decide +kernel
theorem dX9_image_32 : decode cX9_image 32 = .ok (.getfield 85, 3) := by decide +kernel
theorem dX9_image_35 : decode cX9_image 35 = .ok (.iload_n 1, 1) := by decide +kernel
theorem dX9_image_36 : decode cX9_image 36 = .ok (.iconst 1, 1) := by decide +kernel
theorem dX9_image_37 : decode cX9_image 37 = .ok (.bastore, 1) := by decide +kernel
theorem dX9_image_38 : decode cX9_image 38 = .ok (.iconst 1, 1) := by decide +kernel
theorem dX9_image_39 : decode cX9_image 39 = .ok (.ireturn, 1) := by decide +kernel
theorem dX9_restore_0 : decode cX9_restore 0 = .ok (.iload_n 1, 1) := by decide +kernel
theorem dX9_restore_1 : decode cX9_restore 1 = .ok (.i2l, 1) := by decide +kernel
theorem dX9_restore_2 : decode cX9_restore 2 = .ok (.lconst 0, 1) := by decide +kernel
theorem dX9_restore_3 : decode cX9_restore 3 = .ok (.lconst 1, 1) := by decide +kernel
theorem dX9_restore_4 : decode cX9_restore 4 = .ok (.invokestatic 95, 3) := by decide +kernel
theorem dX9_restore_7 : decode cX9_restore 7 = .ok (.ifCond .ne 6, 3) := by decide +kernel
theorem dX9_restore_10 : decode cX9_restore 10 = .ok (.bipush (-2), 2) := by decide +kernel
theorem dX9_restore_12 : decode cX9_restore 12 = .ok (.ireturn, 1) := by decide +kernel
theorem dX9_restore_13 : decode cX9_restore 13 = .ok (.aload_n 0, 1) := by decide +kernel
theorem dX9_restore_14 : decode cX9_restore 14 = .ok (.getfield 85, 3) := by decide +kernel
theorem dX9_restore_17 : decode cX9_restore 17 = .ok (.iload_n 1, 1) := by decide +kernel
theorem dX9_restore_18 : decode cX9_restore 18 = .ok (.baload, 1) := by decide +kernel
theorem dX9_restore_19 : decode cX9_restore 19 = .ok (.ifCond .ne 6, 3) := by decide +kernel
theorem dX9_restore_22 : decode cX9_restore 22 = .ok (.bipush (-3), 2) := by decide +kernel
theorem dX9_restore_24 : decode cX9_restore 24 = .ok (.ireturn, 1) := by decide +kernel
theorem dX9_restore_25 : decode cX9_restore 25 = .ok (.aload_n 0, 1) := by decide +kernel
theorem dX9_restore_26 : decode cX9_restore 26 = .ok (.sipush 180, 3) := by decide +kernel
theorem dX9_restore_29 : decode cX9_restore 29 = .ok (.iload_n 1, 1) := by decide +kernel
theorem dX9_restore_30 : decode cX9_restore 30 = .ok (.imul, 1) := by decide +kernel
theorem dX9_restore_31 : decode cX9_restore 31 = .ok (.putfield 266, 3) := by decide +kernel
theorem dX9_restore_34 : decode cX9_restore 34 = .ok (.aload_n 0, 1) := by decide +kernel
theorem dX9_restore_35 : decode cX9_restore 35 = .ok (.iconst 0, 1) := by decide +kernel
theorem dX9_restore_36 : decode cX9_restore 36 = .ok (.putfield 262, 3) := by decide +kernel
theorem dX9_restore_39 : decode cX9_restore 39 = .ok (.aload_n 0, 1) := by decide +kernel
theorem dX9_restore_40 : decode cX9_restore 40 = .ok (.invokevirtual 272, 3) := by decide +kernel
theorem dX9_restore_43 : decode cX9_restore 43 = .ok (.iconst 1, 1) := by decide +kernel
theorem dX9_restore_44 : decode cX9_restore 44 = .ok (.ireturn, 1) := by decide +kernel
theorem dX9_told_0 : decode cX9_told 0 = .ok (.iload_n 1, 1) := by decide +kernel
theorem dX9_told_1 : decode cX9_told 1 = .ok (.bipush 10, 2) := by decide +kernel
theorem dX9_told_3 : decode cX9_told 3 = .ok (.irem, 1) := by decide +kernel
theorem dX9_told_4 : decode cX9_told 4 = .ok (.istore_n 2, 1) := by decide +kernel
theorem dX9_told_5 : decode cX9_told 5 = .ok (.iload_n 1, 1) := by decide +kernel
theorem dX9_told_6 : decode cX9_told 6 = .ok (.i2l, 1) := by decide +kernel
theorem dX9_told_7 : decode cX9_told 7 = .ok (.ldc2_w 275, 3) := by decide +kernel
theorem dX9_told_10 : decode cX9_told 10 = .ok (.ldc2_w 277, 3) := by decide +kernel
theorem dX9_told_13 : decode cX9_told 13 = .ok (.invokestatic 95, 3) := by decide +kernel
theorem dX9_told_16 : decode cX9_told 16 = .ok (.ifCond .eq 52, 3) := by decide +kernel
theorem dX9_told_19 : decode cX9_told 19 = .ok (.iload_n 2, 1) := by decide +kernel
theorem dX9_told_20 : decode cX9_told 20 = .ok (.invokestatic 118, 3) := by decide +kernel
theorem dX9_told_23 : decode cX9_told 23 = .ok (.ifCond .ne 8, 3) := by decide +kernel
theorem dX9_told_26 : decode cX9_told 26 = .ok (.bipush (-2), 2) := by decide +kernel
theorem dX9_told_28 : decode cX9_told 28 = .ok (.goto 39, 3) := by decide +kernel
theorem dX9_told_31 : decode cX9_told 31 = .ok (.iload_n 1, 1) := by decide +kernel
theorem dX9_told_32 : decode cX9_told 32 = .ok (.bipush 20, 2) := by decide +kernel
theorem dX9_told_34 : decode cX9_told 34 = .ok (.if_icmp .ge 12, 3) := by decide +kernel
theorem dX9_told_37 : decode cX9_told 37 = .ok (.aload_n 0, 1) := by decide +kernel
theorem dX9_told_38 : decode cX9_told 38 = .ok (.getfield 7, 3) := by decide +kernel
theorem dX9_told_41 : decode cX9_told 41 = .ok (.iload_n 2, 1) := by decide +kernel
theorem dX9_told_42 : decode cX9_told 42 = .ok (.iaload, 1) := by decide +kernel
theorem dX9_told_43 : decode cX9_told 43 = .ok (.goto 24, 3) := by decide +kernel
theorem dX9_told_46 : decode cX9_told 46 = .ok (.iload_n 1, 1) := by decide +kernel
theorem dX9_told_47 : decode cX9_told 47 = .ok (.bipush 30, 2) := by decide +kernel
theorem dX9_told_49 : decode cX9_told 49 = .ok (.if_icmp .ge 12, 3) := by decide +kernel
theorem dX9_told_52 : decode cX9_told 52 = .ok (.aload_n 0, 1) := by decide +kernel
theorem dX9_told_53 : decode cX9_told 53 = .ok (.getfield 13, 3) := by decide +kernel
theorem dX9_told_56 : decode cX9_told 56 = .ok (.iload_n 2, 1) := by decide +kernel
theorem dX9_told_57 : decode cX9_told 57 = .ok (.iaload, 1) := by decide +kernel
theorem dX9_told_58 : decode cX9_told 58 = .ok (.goto 9, 3) := by decide +kernel
theorem dX9_told_61 : decode cX9_told 61 = .ok (.aload_n 0, 1) := by decide +kernel
theorem dX9_told_62 : decode cX9_told 62 = .ok (.getfield 16, 3) := by decide +kernel
theorem dX9_told_65 : decode cX9_told 65 = .ok (.iload_n 2, 1) := by decide +kernel
theorem dX9_told_66 : decode cX9_told 66 = .ok (.iaload, 1) := by decide +kernel
theorem dX9_told_67 : decode cX9_told 67 = .ok (.ireturn, 1) := by decide +kernel
theorem dX9_told_68 : decode cX9_told 68 = .ok (.iload_n 1, 1) := by decide +kernel
theorem dX9_told_69 : decode cX9_told 69 = .ok (.i2l, 1) := by decide +kernel
theorem dX9_told_70 : decode cX9_told 70 = .ok (.ldc2_w 122, 3) := by decide +kernel
theorem dX9_told_73 : decode cX9_told 73 = .ok (.ldc2_w 279, 3) := by decide +kernel
theorem dX9_told_76 : decode cX9_told 76 = .ok (.invokestatic 95, 3) := by decide +kernel
theorem dX9_told_79 : decode cX9_told 79 = .ok (.ifCond .eq 10, 3) := by decide +kernel
theorem dX9_told_82 : decode cX9_told 82 = .ok (.aload_n 0, 1) := by decide +kernel
theorem dX9_told_83 : decode cX9_told 83 = .ok (.getfield 31, 3) := by decide +kernel
theorem dX9_told_86 : decode cX9_told 86 = .ok (.iload_n 2, 1) := by decide +kernel
theorem dX9_told_87 : decode cX9_told 87 = .ok (.iaload, 1) := by decide +kernel
theorem dX9_told_88 : decode cX9_told 88 = .ok (.ireturn, 1) := by decide +kernel
theorem dX9_told_89 : decode cX9_told 89 = .ok (.iload_n 1, 1) := by decide +kernel
theorem dX9_told_90 : decode cX9_told 90 = .ok (.ifCond .ne 10, 3) := by decide +kernel
theorem dX9_told_93 : decode cX9_told 93 = .ok (.aload_n 0, 1) := by decide +kernel
theorem dX9_told_94 : decode cX9_told 94 = .ok (.getfield 130, 3) := by decide +kernel
theorem dX9_told_97 : decode cX9_told 97 = .ok (.goto 53, 3) := by decide +kernel
theorem dX9_told_100 : decode cX9_told 100 = .ok (.iload_n 1, 1) := by decide +kernel
theorem dX9_told_101 : decode cX9_told 101 = .ok (.iconst 1, 1) := by decide +kernel
theorem dX9_told_102 : decode cX9_told 102 = .ok (.if_icmp .ne 10, 3) := by decide +kernel
theorem dX9_told_105 : decode cX9_told 105 = .ok (.aload_n 0, 1) := by decide +kernel
theorem dX9_told_106 : decode cX9_told 106 = .ok (.getfield 89, 3) := by decide +kernel
theorem dX9_told_109 : decode cX9_told 109 = .ok (.goto 41, 3) := by decide +kernel
theorem dX9_told_112 : decode cX9_told 112 = .ok (.iload_n 1, 1) := by decide +kernel
theorem dX9_told_113 : decode cX9_told 113 = .ok (.iconst 2, 1) := by decide +kernel
theorem dX9_told_114 : decode cX9_told 114 = .ok (.if_icmp .ne 10, 3) := by decide +kernel
theorem dX9_told_117 : decode cX9_told 117 = .ok (.aload_n 0, 1) := by decide +kernel
theorem dX9_told_118 : decode cX9_told 118 = .ok (.getfield 101, 3) := by decide +kernel
theorem dX9_told_121 : decode cX9_told 121 = .ok (.goto 29, 3) := by decide +kernel
theorem dX9_told_124 : decode cX9_told 124 = .ok (.iload_n 1, 1) := by decide +kernel
theorem dX9_told_125 : decode cX9_told 125 = .ok (.iconst 3, 1) := by decide +kernel
theorem dX9_told_126 : decode cX9_told 126 = .ok (.if_icmp .ne 10, 3) := by decide +kernel
theorem dX9_told_129 : decode cX9_told 129 = .ok (.aload_n 0, 1) := by decide +kernel
theorem dX9_told_130 : decode cX9_told 130 = .ok (.getfield 206, 3) := by decide +kernel
theorem dX9_told_133 : decode cX9_told 133 = .ok (.goto 17, 3) := by decide +kernel
theorem dX9_told_136 : decode cX9_told 136 = .ok (.iload_n 1, 1) := by decide +kernel
theorem dX9_told_137 : decode cX9_told 137 = .ok (.iconst 4, 1) := by decide +kernel
theorem dX9_told_138 : decode cX9_told 138 = .ok (.if_icmp .ne 10, 3) := by decide +kernel
theorem dX9_told_141 : decode cX9_told 141 = .ok (.aload_n 0, 1) := by decide +kernel
theorem dX9_told_142 : decode cX9_told 142 = .ok (.getfield 234, 3) := by decide +kernel
theorem dX9_told_145 : decode cX9_told 145 = .ok (.goto 5, 3) := by decide +kernel
theorem dX9_told_148 : decode cX9_told 148 = .ok (.bipush (-2), 2) := by decide +kernel
theorem dX9_told_150 : decode cX9_told 150 = .ok (.ireturn, 1) := by decide +kernel
end
section
theorem dL_law_0 : decode cL_law 0 = .ok (.new 7, 3) := by decide +kernel
theorem dL_law_3 : decode cL_law 3 = .ok (.dup, 1) := by decide +kernel
theorem dL_law_4 : decode cL_law 4 = .ok (.invokespecial 9, 3) := by decide +kernel
theorem dL_law_7 : decode cL_law 7 = .ok (.astore_n 1, 1) := by decide +kernel
theorem dL_law_8 : decode cL_law 8 = .ok (.new 10, 3) := by decide +kernel
theorem dL_law_11 : decode cL_law 11 = .ok (.dup, 1) := by decide +kernel
theorem dL_law_12 : decode cL_law 12 = .ok (.invokespecial 12, 3) := by decide +kernel
theorem dL_law_15 : decode cL_law 15 = .ok (.astore_n 2, 1) := by decide +kernel
theorem dL_law_16 : decode cL_law 16 = .ok (.iconst 0, 1) := by decide +kernel
theorem dL_law_17 : decode cL_law 17 = .ok (.istore_n 3, 1) := by decide +kernel
theorem dL_law_18 : decode cL_law 18 = .ok (.iload_n 3, 1) := by decide +kernel
theorem dL_law_19 : decode cL_law 19 = .ok (.aload_n 0, 1) := by decide +kernel
theorem dL_law_20 : decode cL_law 20 = .ok (.arraylength, 1) := by decide +kernel
theorem dL_law_21 : decode cL_law 21 = .ok (.iconst 5, 1) := by decide +kernel
theorem dL_law_22 : decode cL_law 22 = .ok (.isub, 1) := by decide +kernel
theorem dL_law_23 : decode cL_law 23 = .ok (.if_icmp .gt 824, 3) := by decide +kernel
theorem dL_law_26 : decode cL_law 26 = .ok (.aload_n 0, 1) := by decide +kernel
theorem dL_law_27 : decode cL_law 27 = .ok (.iload_n 3, 1) := by decide +kernel
theorem dL_law_28 : decode cL_law 28 = .ok (.iaload, 1) := by decide +kernel
theorem dL_law_29 : decode cL_law 29 = .ok (.bipush 31, 2) := by decide +kernel
theorem dL_law_31 : decode cL_law 31 = .ok (.iand, 1) := by decide +kernel
theorem dL_law_32 : decode cL_law 32 = .ok (.tableswitch 809 0 25 #[120, 163, 186, 209, 222, 235, 258, 271, 314, 337, 350, 373, 407, 440, 473, 486, 509, 552, 605, 638, 651, 674, 697, 740, 763, 786], 120) := by decide +kernel
theorem dL_law_152 : decode cL_law 152 = .ok (.aload_n 1, 1) := by decide +kernel
theorem dL_law_153 : decode cL_law 153 = .ok (.aload_n 0, 1) := by decide +kernel
theorem dL_law_154 : decode cL_law 154 = .ok (.iload_n 3, 1) := by decide +kernel
theorem dL_law_155 : decode cL_law 155 = .ok (.iconst 1, 1) := by decide +kernel
theorem dL_law_156 : decode cL_law 156 = .ok (.iadd, 1) := by decide +kernel
theorem dL_law_157 : decode cL_law 157 = .ok (.iaload, 1) := by decide +kernel
theorem dL_law_158 : decode cL_law 158 = .ok (.aload_n 0, 1) := by decide +kernel
theorem dL_law_159 : decode cL_law 159 = .ok (.iload_n 3, 1) := by decide +kernel
theorem dL_law_160 : decode cL_law 160 = .ok (.iconst 2, 1) := by decide +kernel
theorem dL_law_161 : decode cL_law 161 = .ok (.iadd, 1) := by decide +kernel
theorem dL_law_162 : decode cL_law 162 = .ok (.iaload, 1) := by decide +kernel
theorem dL_law_163 : decode cL_law 163 = .ok (.aload_n 0, 1) := by decide +kernel
theorem dL_law_164 : decode cL_law 164 = .ok (.iload_n 3, 1) := by decide +kernel
theorem dL_law_165 : decode cL_law 165 = .ok (.iconst 3, 1) := by decide +kernel
theorem dL_law_166 : decode cL_law 166 = .ok (.iadd, 1) := by decide +kernel
theorem dL_law_167 : decode cL_law 167 = .ok (.iaload, 1) := by decide +kernel
theorem dL_law_168 : decode cL_law 168 = .ok (.invokevirtual 13, 3) := by decide +kernel
theorem dL_law_171 : decode cL_law 171 = .ok (.aload_n 2, 1) := by decide +kernel
theorem dL_law_172 : decode cL_law 172 = .ok (.aload_n 0, 1) := by decide +kernel
theorem dL_law_173 : decode cL_law 173 = .ok (.iload_n 3, 1) := by decide +kernel
theorem dL_law_174 : decode cL_law 174 = .ok (.iconst 1, 1) := by decide +kernel
theorem dL_law_175 : decode cL_law 175 = .ok (.iadd, 1) := by decide +kernel
theorem dL_law_176 : decode cL_law 176 = .ok (.iaload, 1) := by decide +kernel
theorem dL_law_177 : decode cL_law 177 = .ok (.aload_n 0, 1) := by decide +kernel
theorem dL_law_178 : decode cL_law 178 = .ok (.iload_n 3, 1) := by decide +kernel
theorem dL_law_179 : decode cL_law 179 = .ok (.iconst 2, 1) := by decide +kernel
theorem dL_law_180 : decode cL_law 180 = .ok (.iadd, 1) := by decide +kernel
theorem dL_law_181 : decode cL_law 181 = .ok (.iaload, 1) := by decide +kernel
theorem dL_law_182 : decode cL_law 182 = .ok (.aload_n 0, 1) := by decide +kernel
theorem dL_law_183 : decode cL_law 183 = .ok (.iload_n 3, 1) := by decide +kernel
theorem dL_law_184 : decode cL_law 184 = .ok (.iconst 3, 1) := by decide +kernel
theorem dL_law_185 : decode cL_law 185 = .ok (.iadd, 1) := by decide +kernel
theorem dL_law_186 : decode cL_law 186 = .ok (.iaload, 1) := by decide +kernel
theorem dL_law_187 : decode cL_law 187 = .ok (.invokevirtual 17, 3) := by decide +kernel
theorem dL_law_190 : decode cL_law 190 = .ok (.if_icmp .eq 651, 3) := by decide +kernel
theorem dL_law_193 : decode cL_law 193 = .ok (.iconst 0, 1) := by decide +kernel
theorem dL_law_194 : decode cL_law 194 = .ok (.ireturn, 1) := by decide +kernel
theorem dL_law_195 : decode cL_law 195 = .ok (.aload_n 1, 1) := by decide +kernel
theorem dL_law_196 : decode cL_law 196 = .ok (.aload_n 0, 1) := by decide +kernel
theorem dL_law_197 : decode cL_law 197 = .ok (.iload_n 3, 1) := by decide +kernel
theorem dL_law_198 : decode cL_law 198 = .ok (.iconst 1, 1) := by decide +kernel
theorem dL_law_199 : decode cL_law 199 = .ok (.iadd, 1) := by decide +kernel
theorem dL_law_200 : decode cL_law 200 = .ok (.iaload, 1) := by decide +kernel
theorem dL_law_201 : decode cL_law 201 = .ok (.invokevirtual 18, 3) := by decide +kernel
theorem dL_law_204 : decode cL_law 204 = .ok (.aload_n 2, 1) := by decide +kernel
theorem dL_law_205 : decode cL_law 205 = .ok (.aload_n 0, 1) := by decide +kernel
theorem dL_law_206 : decode cL_law 206 = .ok (.iload_n 3, 1) := by decide +kernel
theorem dL_law_207 : decode cL_law 207 = .ok (.iconst 1, 1) := by decide +kernel
theorem dL_law_208 : decode cL_law 208 = .ok (.iadd, 1) := by decide +kernel
theorem dL_law_209 : decode cL_law 209 = .ok (.iaload, 1) := by decide +kernel
theorem dL_law_210 : decode cL_law 210 = .ok (.invokevirtual 22, 3) := by decide +kernel
theorem dL_law_213 : decode cL_law 213 = .ok (.if_icmp .eq 628, 3) := by decide +kernel
theorem dL_law_216 : decode cL_law 216 = .ok (.iconst 0, 1) := by decide +kernel
theorem dL_law_217 : decode cL_law 217 = .ok (.ireturn, 1) := by decide +kernel
theorem dL_law_218 : decode cL_law 218 = .ok (.aload_n 1, 1) := by decide +kernel
theorem dL_law_219 : decode cL_law 219 = .ok (.aload_n 0, 1) := by decide +kernel
theorem dL_law_220 : decode cL_law 220 = .ok (.iload_n 3, 1) := by decide +kernel
theorem dL_law_221 : decode cL_law 221 = .ok (.iconst 1, 1) := by decide +kernel
theorem dL_law_222 : decode cL_law 222 = .ok (.iadd, 1) := by decide +kernel
theorem dL_law_223 : decode cL_law 223 = .ok (.iaload, 1) := by decide +kernel
theorem dL_law_224 : decode cL_law 224 = .ok (.invokevirtual 23, 3) := by decide +kernel
theorem dL_law_227 : decode cL_law 227 = .ok (.aload_n 2, 1) := by decide +kernel
theorem dL_law_228 : decode cL_law 228 = .ok (.aload_n 0, 1) := by decide +kernel
theorem dL_law_229 : decode cL_law 229 = .ok (.iload_n 3, 1) := by decide +kernel
theorem dL_law_230 : decode cL_law 230 = .ok (.iconst 1, 1) := by decide +kernel
theorem dL_law_231 : decode cL_law 231 = .ok (.iadd, 1) := by decide +kernel
theorem dL_law_232 : decode cL_law 232 = .ok (.iaload, 1) := by decide +kernel
theorem dL_law_233 : decode cL_law 233 = .ok (.invokevirtual 26, 3) := by decide +kernel
theorem dL_law_236 : decode cL_law 236 = .ok (.if_icmp .eq 605, 3) := by decide +kernel
theorem dL_law_239 : decode cL_law 239 = .ok (.iconst 0, 1) := by decide +kernel
theorem dL_law_240 : decode cL_law 240 = .ok (.ireturn, 1) := by decide +kernel
theorem dL_law_241 : decode cL_law 241 = .ok (.aload_n 1, 1) := by decide +kernel
theorem dL_law_242 : decode cL_law 242 = .ok (.invokevirtual 27, 3) := by decide +kernel
theorem dL_law_245 : decode cL_law 245 = .ok (.aload_n 2, 1) := by decide +kernel
theorem dL_law_246 : decode cL_law 246 = .ok (.invokevirtual 31, 3) := by decide +kernel
theorem dL_law_249 : decode cL_law 249 = .ok (.if_icmp .eq 592, 3) := by decide +kernel
theorem dL_law_252 : decode cL_law 252 = .ok (.iconst 0, 1) := by decide +kernel
theorem dL_law_253 : decode cL_law 253 = .ok (.ireturn, 1) := by decide +kernel
theorem dL_law_254 : decode cL_law 254 = .ok (.aload_n 1, 1) := by decide +kernel
theorem dL_law_255 : decode cL_law 255 = .ok (.invokevirtual 32, 3) := by decide +kernel
theorem dL_law_258 : decode cL_law 258 = .ok (.aload_n 2, 1) := by decide +kernel
theorem dL_law_259 : decode cL_law 259 = .ok (.invokevirtual 35, 3) := by decide +kernel
theorem dL_law_262 : decode cL_law 262 = .ok (.if_icmp .eq 579, 3) := by decide +kernel
theorem dL_law_265 : decode cL_law 265 = .ok (.iconst 0, 1) := by decide +kernel
theorem dL_law_266 : decode cL_law 266 = .ok (.ireturn, 1) := by decide +kernel
theorem dL_law_267 : decode cL_law 267 = .ok (.aload_n 1, 1) := by decide +kernel
theorem dL_law_268 : decode cL_law 268 = .ok (.aload_n 0, 1) := by decide +kernel
theorem dL_law_269 : decode cL_law 269 = .ok (.iload_n 3, 1) := by decide +kernel
theorem dL_law_270 : decode cL_law 270 = .ok (.iconst 1, 1) := by decide +kernel
theorem dL_law_271 : decode cL_law 271 = .ok (.iadd, 1) := by decide +kernel
theorem dL_law_272 : decode cL_law 272 = .ok (.iaload, 1) := by decide +kernel
theorem dL_law_273 : decode cL_law 273 = .ok (.invokevirtual 36, 3) := by decide +kernel
theorem dL_law_276 : decode cL_law 276 = .ok (.aload_n 2, 1) := by decide +kernel
theorem dL_law_277 : decode cL_law 277 = .ok (.aload_n 0, 1) := by decide +kernel
theorem dL_law_278 : decode cL_law 278 = .ok (.iload_n 3, 1) := by decide +kernel
theorem dL_law_279 : decode cL_law 279 = .ok (.iconst 1, 1) := by decide +kernel
theorem dL_law_280 : decode cL_law 280 = .ok (.iadd, 1) := by decide +kernel
theorem dL_law_281 : decode cL_law 281 = .ok (.iaload, 1) := by decide +kernel
theorem dL_law_282 : decode cL_law 282 = .ok (.invokevirtual 39, 3) := by decide +kernel
theorem dL_law_285 : decode cL_law 285 = .ok (.if_icmp .eq 556, 3) := by decide +kernel
theorem dL_law_288 : decode cL_law 288 = .ok (.iconst 0, 1) := by decide +kernel
theorem dL_law_289 : decode cL_law 289 = .ok (.ireturn, 1) := by decide +kernel
theorem dL_law_290 : decode cL_law 290 = .ok (.aload_n 1, 1) := by decide +kernel
theorem dL_law_291 : decode cL_law 291 = .ok (.invokevirtual 40, 3) := by decide +kernel
theorem dL_law_294 : decode cL_law 294 = .ok (.aload_n 2, 1) := by decide +kernel
theorem dL_law_295 : decode cL_law 295 = .ok (.invokevirtual 43, 3) := by decide +kernel
theorem dL_law_298 : decode cL_law 298 = .ok (.if_icmp .eq 543, 3) := by decide +kernel
theorem dL_law_301 : decode cL_law 301 = .ok (.iconst 0, 1) := by decide +kernel
theorem dL_law_302 : decode cL_law 302 = .ok (.ireturn, 1) := by decide +kernel
theorem dL_law_303 : decode cL_law 303 = .ok (.aload_n 1, 1) := by decide +kernel
theorem dL_law_304 : decode cL_law 304 = .ok (.aload_n 0, 1) := by decide +kernel
theorem dL_law_305 : decode cL_law 305 = .ok (.iload_n 3, 1) := by decide +kernel
theorem dL_law_306 : decode cL_law 306 = .ok (.iconst 1, 1) := by decide +kernel
theorem dL_law_307 : decode cL_law 307 = .ok (.iadd, 1) := by decide +kernel
theorem dL_law_308 : decode cL_law 308 = .ok (.iaload, 1) := by decide +kernel
theorem dL_law_309 : decode cL_law 309 = .ok (.aload_n 0, 1) := by decide +kernel
theorem dL_law_310 : decode cL_law 310 = .ok (.iload_n 3, 1) := by decide +kernel
theorem dL_law_311 : decode cL_law 311 = .ok (.iconst 2, 1) := by decide +kernel
theorem dL_law_312 : decode cL_law 312 = .ok (.iadd, 1) := by decide +kernel
theorem dL_law_313 : decode cL_law 313 = .ok (.iaload, 1) := by decide +kernel
theorem dL_law_314 : decode cL_law 314 = .ok (.aload_n 0, 1) := by decide +kernel
theorem dL_law_315 : decode cL_law 315 = .ok (.iload_n 3, 1) := by decide +kernel
theorem dL_law_316 : decode cL_law 316 = .ok (.iconst 3, 1) := by decide +kernel
theorem dL_law_317 : decode cL_law 317 = .ok (.iadd, 1) := by decide +kernel
theorem dL_law_318 : decode cL_law 318 = .ok (.iaload, 1) := by decide +kernel
theorem dL_law_319 : decode cL_law 319 = .ok (.invokevirtual 44, 3) := by decide +kernel
theorem dL_law_322 : decode cL_law 322 = .ok (.aload_n 2, 1) := by decide +kernel
theorem dL_law_323 : decode cL_law 323 = .ok (.aload_n 0, 1) := by decide +kernel
theorem dL_law_324 : decode cL_law 324 = .ok (.iload_n 3, 1) := by decide +kernel
theorem dL_law_325 : decode cL_law 325 = .ok (.iconst 1, 1) := by decide +kernel
theorem dL_law_326 : decode cL_law 326 = .ok (.iadd, 1) := by decide +kernel
theorem dL_law_327 : decode cL_law 327 = .ok (.iaload, 1) := by decide +kernel
theorem dL_law_328 : decode cL_law 328 = .ok (.aload_n 0, 1) := by decide +kernel
theorem dL_law_329 : decode cL_law 329 = .ok (.iload_n 3, 1) := by decide +kernel
theorem dL_law_330 : decode cL_law 330 = .ok (.iconst 2, 1) := by decide +kernel
theorem dL_law_331 : decode cL_law 331 = .ok (.iadd, 1) := by decide +kernel
theorem dL_law_332 : decode cL_law 332 = .ok (.iaload, 1) := by decide +kernel
theorem dL_law_333 : decode cL_law 333 = .ok (.aload_n 0, 1) := by decide +kernel
theorem dL_law_334 : decode cL_law 334 = .ok (.iload_n 3, 1) := by decide +kernel
theorem dL_law_335 : decode cL_law 335 = .ok (.iconst 3, 1) := by decide +kernel
theorem dL_law_336 : decode cL_law 336 = .ok (.iadd, 1) := by decide +kernel
theorem dL_law_337 : decode cL_law 337 = .ok (.iaload, 1) := by decide +kernel
theorem dL_law_338 : decode cL_law 338 = .ok (.invokevirtual 47, 3) := by decide +kernel
theorem dL_law_341 : decode cL_law 341 = .ok (.if_icmp .eq 500, 3) := by decide +kernel
theorem dL_law_344 : decode cL_law 344 = .ok (.iconst 0, 1) := by decide +kernel
theorem dL_law_345 : decode cL_law 345 = .ok (.ireturn, 1) := by decide +kernel
theorem dL_law_346 : decode cL_law 346 = .ok (.aload_n 1, 1) := by decide +kernel
theorem dL_law_347 : decode cL_law 347 = .ok (.aload_n 0, 1) := by decide +kernel
theorem dL_law_348 : decode cL_law 348 = .ok (.iload_n 3, 1) := by decide +kernel
theorem dL_law_349 : decode cL_law 349 = .ok (.iconst 1, 1) := by decide +kernel
theorem dL_law_350 : decode cL_law 350 = .ok (.iadd, 1) := by decide +kernel
theorem dL_law_351 : decode cL_law 351 = .ok (.iaload, 1) := by decide +kernel
theorem dL_law_352 : decode cL_law 352 = .ok (.invokevirtual 48, 3) := by decide +kernel
theorem dL_law_355 : decode cL_law 355 = .ok (.aload_n 2, 1) := by decide +kernel
theorem dL_law_356 : decode cL_law 356 = .ok (.aload_n 0, 1) := by decide +kernel
theorem dL_law_357 : decode cL_law 357 = .ok (.iload_n 3, 1) := by decide +kernel
theorem dL_law_358 : decode cL_law 358 = .ok (.iconst 1, 1) := by decide +kernel
theorem dL_law_359 : decode cL_law 359 = .ok (.iadd, 1) := by decide +kernel
theorem dL_law_360 : decode cL_law 360 = .ok (.iaload, 1) := by decide +kernel
theorem dL_law_361 : decode cL_law 361 = .ok (.invokevirtual 51, 3) := by decide +kernel
theorem dL_law_364 : decode cL_law 364 = .ok (.if_icmp .eq 477, 3) := by decide +kernel
theorem dL_law_367 : decode cL_law 367 = .ok (.iconst 0, 1) := by decide +kernel
theorem dL_law_368 : decode cL_law 368 = .ok (.ireturn, 1) := by decide +kernel
theorem dL_law_369 : decode cL_law 369 = .ok (.aload_n 1, 1) := by decide +kernel
theorem dL_law_370 : decode cL_law 370 = .ok (.invokevirtual 52, 3) := by decide +kernel
theorem dL_law_373 : decode cL_law 373 = .ok (.aload_n 2, 1) := by decide +kernel
theorem dL_law_374 : decode cL_law 374 = .ok (.invokevirtual 55, 3) := by decide +kernel
theorem dL_law_377 : decode cL_law 377 = .ok (.if_icmp .eq 464, 3) := by decide +kernel
theorem dL_law_380 : decode cL_law 380 = .ok (.iconst 0, 1) := by decide +kernel
theorem dL_law_381 : decode cL_law 381 = .ok (.ireturn, 1) := by decide +kernel
theorem dL_law_382 : decode cL_law 382 = .ok (.aload_n 1, 1) := by decide +kernel
theorem dL_law_383 : decode cL_law 383 = .ok (.aload_n 0, 1) := by decide +kernel
theorem dL_law_384 : decode cL_law 384 = .ok (.iload_n 3, 1) := by decide +kernel
theorem dL_law_385 : decode cL_law 385 = .ok (.iconst 1, 1) := by decide +kernel
theorem dL_law_386 : decode cL_law 386 = .ok (.iadd, 1) := by decide +kernel
theorem dL_law_387 : decode cL_law 387 = .ok (.iaload, 1) := by decide +kernel
theorem dL_law_388 : decode cL_law 388 = .ok (.invokevirtual 56, 3) := by decide +kernel
theorem dL_law_391 : decode cL_law 391 = .ok (.aload_n 2, 1) := by decide +kernel
theorem dL_law_392 : decode cL_law 392 = .ok (.aload_n 0, 1) := by decide +kernel
theorem dL_law_393 : decode cL_law 393 = .ok (.iload_n 3, 1) := by decide +kernel
theorem dL_law_394 : decode cL_law 394 = .ok (.iconst 1, 1) := by decide +kernel
theorem dL_law_395 : decode cL_law 395 = .ok (.iadd, 1) := by decide +kernel
theorem dL_law_396 : decode cL_law 396 = .ok (.iaload, 1) := by decide +kernel
theorem dL_law_397 : decode cL_law 397 = .ok (.invokevirtual 59, 3) := by decide +kernel
theorem dL_law_400 : decode cL_law 400 = .ok (.if_icmp .eq 441, 3) := by decide +kernel
theorem dL_law_403 : decode cL_law 403 = .ok (.iconst 0, 1) := by decide +kernel
theorem dL_law_404 : decode cL_law 404 = .ok (.ireturn, 1) := by decide +kernel
theorem dL_law_405 : decode cL_law 405 = .ok (.aload_n 1, 1) := by decide +kernel
theorem dL_law_406 : decode cL_law 406 = .ok (.aload_n 0, 1) := by decide +kernel
theorem dL_law_407 : decode cL_law 407 = .ok (.iload_n 3, 1) := by decide +kernel
theorem dL_law_408 : decode cL_law 408 = .ok (.iconst 1, 1) := by decide +kernel
theorem dL_law_409 : decode cL_law 409 = .ok (.iadd, 1) := by decide +kernel
theorem dL_law_410 : decode cL_law 410 = .ok (.iaload, 1) := by decide +kernel
theorem dL_law_411 : decode cL_law 411 = .ok (.aload_n 0, 1) := by decide +kernel
theorem dL_law_412 : decode cL_law 412 = .ok (.iload_n 3, 1) := by decide +kernel
theorem dL_law_413 : decode cL_law 413 = .ok (.iconst 2, 1) := by decide +kernel
theorem dL_law_414 : decode cL_law 414 = .ok (.iadd, 1) := by decide +kernel
theorem dL_law_415 : decode cL_law 415 = .ok (.iaload, 1) := by decide +kernel
theorem dL_law_416 : decode cL_law 416 = .ok (.invokevirtual 60, 3) := by decide +kernel
theorem dL_law_419 : decode cL_law 419 = .ok (.aload_n 2, 1) := by decide +kernel
theorem dL_law_420 : decode cL_law 420 = .ok (.aload_n 0, 1) := by decide +kernel
theorem dL_law_421 : decode cL_law 421 = .ok (.iload_n 3, 1) := by decide +kernel
theorem dL_law_422 : decode cL_law 422 = .ok (.iconst 1, 1) := by decide +kernel
theorem dL_law_423 : decode cL_law 423 = .ok (.iadd, 1) := by decide +kernel
theorem dL_law_424 : decode cL_law 424 = .ok (.iaload, 1) := by decide +kernel
theorem dL_law_425 : decode cL_law 425 = .ok (.aload_n 0, 1) := by decide +kernel
theorem dL_law_426 : decode cL_law 426 = .ok (.iload_n 3, 1) := by decide +kernel
theorem dL_law_427 : decode cL_law 427 = .ok (.iconst 2, 1) := by decide +kernel
theorem dL_law_428 : decode cL_law 428 = .ok (.iadd, 1) := by decide +kernel
theorem dL_law_429 : decode cL_law 429 = .ok (.iaload, 1) := by decide +kernel
theorem dL_law_430 : decode cL_law 430 = .ok (.invokevirtual 64, 3) := by decide +kernel
theorem dL_law_433 : decode cL_law 433 = .ok (.lcmp, 1) := by decide +kernel
theorem dL_law_434 : decode cL_law 434 = .ok (.ifCond .eq 407, 3) := by decide +kernel
theorem dL_law_437 : decode cL_law 437 = .ok (.iconst 0, 1) := by decide +kernel
theorem dL_law_438 : decode cL_law 438 = .ok (.ireturn, 1) := by decide +kernel
theorem dL_law_439 : decode cL_law 439 = .ok (.aload_n 1, 1) := by decide +kernel
theorem dL_law_440 : decode cL_law 440 = .ok (.aload_n 0, 1) := by decide +kernel
theorem dL_law_441 : decode cL_law 441 = .ok (.iload_n 3, 1) := by decide +kernel
theorem dL_law_442 : decode cL_law 442 = .ok (.iconst 1, 1) := by decide +kernel
theorem dL_law_443 : decode cL_law 443 = .ok (.iadd, 1) := by decide +kernel
theorem dL_law_444 : decode cL_law 444 = .ok (.iaload, 1) := by decide +kernel
theorem dL_law_445 : decode cL_law 445 = .ok (.aload_n 0, 1) := by decide +kernel
theorem dL_law_446 : decode cL_law 446 = .ok (.iload_n 3, 1) := by decide +kernel
theorem dL_law_447 : decode cL_law 447 = .ok (.iconst 2, 1) := by decide +kernel
theorem dL_law_448 : decode cL_law 448 = .ok (.iadd, 1) := by decide +kernel
theorem dL_law_449 : decode cL_law 449 = .ok (.iaload, 1) := by decide +kernel
theorem dL_law_450 : decode cL_law 450 = .ok (.invokevirtual 65, 3) := by decide +kernel
theorem dL_law_453 : decode cL_law 453 = .ok (.aload_n 2, 1) := by decide +kernel
theorem dL_law_454 : decode cL_law 454 = .ok (.aload_n 0, 1) := by decide +kernel
theorem dL_law_455 : decode cL_law 455 = .ok (.iload_n 3, 1) := by decide +kernel
theorem dL_law_456 : decode cL_law 456 = .ok (.iconst 1, 1) := by decide +kernel
theorem dL_law_457 : decode cL_law 457 = .ok (.iadd, 1) := by decide +kernel
theorem dL_law_458 : decode cL_law 458 = .ok (.iaload, 1) := by decide +kernel
theorem dL_law_459 : decode cL_law 459 = .ok (.aload_n 0, 1) := by decide +kernel
theorem dL_law_460 : decode cL_law 460 = .ok (.iload_n 3, 1) := by decide +kernel
theorem dL_law_461 : decode cL_law 461 = .ok (.iconst 2, 1) := by decide +kernel
theorem dL_law_462 : decode cL_law 462 = .ok (.iadd, 1) := by decide +kernel
theorem dL_law_463 : decode cL_law 463 = .ok (.iaload, 1) := by decide +kernel
theorem dL_law_464 : decode cL_law 464 = .ok (.invokevirtual 69, 3) := by decide +kernel
theorem dL_law_467 : decode cL_law 467 = .ok (.if_icmp .eq 374, 3) := by decide +kernel
theorem dL_law_470 : decode cL_law 470 = .ok (.iconst 0, 1) := by decide +kernel
theorem dL_law_471 : decode cL_law 471 = .ok (.ireturn, 1) := by decide +kernel
theorem dL_law_472 : decode cL_law 472 = .ok (.aload_n 1, 1) := by decide +kernel
theorem dL_law_473 : decode cL_law 473 = .ok (.aload_n 0, 1) := by decide +kernel
theorem dL_law_474 : decode cL_law 474 = .ok (.iload_n 3, 1) := by decide +kernel
theorem dL_law_475 : decode cL_law 475 = .ok (.iconst 1, 1) := by decide +kernel
theorem dL_law_476 : decode cL_law 476 = .ok (.iadd, 1) := by decide +kernel
theorem dL_law_477 : decode cL_law 477 = .ok (.iaload, 1) := by decide +kernel
theorem dL_law_478 : decode cL_law 478 = .ok (.aload_n 0, 1) := by decide +kernel
theorem dL_law_479 : decode cL_law 479 = .ok (.iload_n 3, 1) := by decide +kernel
theorem dL_law_480 : decode cL_law 480 = .ok (.iconst 2, 1) := by decide +kernel
theorem dL_law_481 : decode cL_law 481 = .ok (.iadd, 1) := by decide +kernel
theorem dL_law_482 : decode cL_law 482 = .ok (.iaload, 1) := by decide +kernel
theorem dL_law_483 : decode cL_law 483 = .ok (.invokevirtual 70, 3) := by decide +kernel
theorem dL_law_486 : decode cL_law 486 = .ok (.aload_n 2, 1) := by decide +kernel
theorem dL_law_487 : decode cL_law 487 = .ok (.aload_n 0, 1) := by decide +kernel
theorem dL_law_488 : decode cL_law 488 = .ok (.iload_n 3, 1) := by decide +kernel
theorem dL_law_489 : decode cL_law 489 = .ok (.iconst 1, 1) := by decide +kernel
theorem dL_law_490 : decode cL_law 490 = .ok (.iadd, 1) := by decide +kernel
theorem dL_law_491 : decode cL_law 491 = .ok (.iaload, 1) := by decide +kernel
theorem dL_law_492 : decode cL_law 492 = .ok (.aload_n 0, 1) := by decide +kernel
theorem dL_law_493 : decode cL_law 493 = .ok (.iload_n 3, 1) := by decide +kernel
theorem dL_law_494 : decode cL_law 494 = .ok (.iconst 2, 1) := by decide +kernel
theorem dL_law_495 : decode cL_law 495 = .ok (.iadd, 1) := by decide +kernel
theorem dL_law_496 : decode cL_law 496 = .ok (.iaload, 1) := by decide +kernel
theorem dL_law_497 : decode cL_law 497 = .ok (.invokevirtual 73, 3) := by decide +kernel
theorem dL_law_500 : decode cL_law 500 = .ok (.if_icmp .eq 341, 3) := by decide +kernel
theorem dL_law_503 : decode cL_law 503 = .ok (.iconst 0, 1) := by decide +kernel
theorem dL_law_504 : decode cL_law 504 = .ok (.ireturn, 1) := by decide +kernel
theorem dL_law_505 : decode cL_law 505 = .ok (.aload_n 1, 1) := by decide +kernel
theorem dL_law_506 : decode cL_law 506 = .ok (.invokevirtual 74, 3) := by decide +kernel
theorem dL_law_509 : decode cL_law 509 = .ok (.aload_n 2, 1) := by decide +kernel
theorem dL_law_510 : decode cL_law 510 = .ok (.invokevirtual 77, 3) := by decide +kernel
theorem dL_law_513 : decode cL_law 513 = .ok (.if_icmp .eq 328, 3) := by decide +kernel
theorem dL_law_516 : decode cL_law 516 = .ok (.iconst 0, 1) := by decide +kernel
theorem dL_law_517 : decode cL_law 517 = .ok (.ireturn, 1) := by decide +kernel
theorem dL_law_518 : decode cL_law 518 = .ok (.aload_n 1, 1) := by decide +kernel
theorem dL_law_519 : decode cL_law 519 = .ok (.aload_n 0, 1) := by decide +kernel
theorem dL_law_520 : decode cL_law 520 = .ok (.iload_n 3, 1) := by decide +kernel
theorem dL_law_521 : decode cL_law 521 = .ok (.iconst 1, 1) := by decide +kernel
theorem dL_law_522 : decode cL_law 522 = .ok (.iadd, 1) := by decide +kernel
theorem dL_law_523 : decode cL_law 523 = .ok (.iaload, 1) := by decide +kernel
theorem dL_law_524 : decode cL_law 524 = .ok (.invokevirtual 78, 3) := by decide +kernel
theorem dL_law_527 : decode cL_law 527 = .ok (.aload_n 2, 1) := by decide +kernel
theorem dL_law_528 : decode cL_law 528 = .ok (.aload_n 0, 1) := by decide +kernel
theorem dL_law_529 : decode cL_law 529 = .ok (.iload_n 3, 1) := by decide +kernel
theorem dL_law_530 : decode cL_law 530 = .ok (.iconst 1, 1) := by decide +kernel
theorem dL_law_531 : decode cL_law 531 = .ok (.iadd, 1) := by decide +kernel
theorem dL_law_532 : decode cL_law 532 = .ok (.iaload, 1) := by decide +kernel
theorem dL_law_533 : decode cL_law 533 = .ok (.invokevirtual 81, 3) := by decide +kernel
theorem dL_law_536 : decode cL_law 536 = .ok (.if_icmp .eq 305, 3) := by decide +kernel
theorem dL_law_539 : decode cL_law 539 = .ok (.iconst 0, 1) := by decide +kernel
theorem dL_law_540 : decode cL_law 540 = .ok (.ireturn, 1) := by decide +kernel
theorem dL_law_541 : decode cL_law 541 = .ok (.aload_n 1, 1) := by decide +kernel
theorem dL_law_542 : decode cL_law 542 = .ok (.aload_n 0, 1) := by decide +kernel
theorem dL_law_543 : decode cL_law 543 = .ok (.iload_n 3, 1) := by decide +kernel
theorem dL_law_544 : decode cL_law 544 = .ok (.iconst 1, 1) := by decide +kernel
theorem dL_law_545 : decode cL_law 545 = .ok (.iadd, 1) := by decide +kernel
theorem dL_law_546 : decode cL_law 546 = .ok (.iaload, 1) := by decide +kernel
theorem dL_law_547 : decode cL_law 547 = .ok (.aload_n 0, 1) := by decide +kernel
theorem dL_law_548 : decode cL_law 548 = .ok (.iload_n 3, 1) := by decide +kernel
theorem dL_law_549 : decode cL_law 549 = .ok (.iconst 2, 1) := by decide +kernel
theorem dL_law_550 : decode cL_law 550 = .ok (.iadd, 1) := by decide +kernel
theorem dL_law_551 : decode cL_law 551 = .ok (.iaload, 1) := by decide +kernel
theorem dL_law_552 : decode cL_law 552 = .ok (.aload_n 0, 1) := by decide +kernel
theorem dL_law_553 : decode cL_law 553 = .ok (.iload_n 3, 1) := by decide +kernel
theorem dL_law_554 : decode cL_law 554 = .ok (.iconst 3, 1) := by decide +kernel
theorem dL_law_555 : decode cL_law 555 = .ok (.iadd, 1) := by decide +kernel
theorem dL_law_556 : decode cL_law 556 = .ok (.iaload, 1) := by decide +kernel
theorem dL_law_557 : decode cL_law 557 = .ok (.invokevirtual 82, 3) := by decide +kernel
theorem dL_law_560 : decode cL_law 560 = .ok (.aload_n 2, 1) := by decide +kernel
theorem dL_law_561 : decode cL_law 561 = .ok (.aload_n 0, 1) := by decide +kernel
theorem dL_law_562 : decode cL_law 562 = .ok (.iload_n 3, 1) := by decide +kernel
theorem dL_law_563 : decode cL_law 563 = .ok (.iconst 1, 1) := by decide +kernel
theorem dL_law_564 : decode cL_law 564 = .ok (.iadd, 1) := by decide +kernel
theorem dL_law_565 : decode cL_law 565 = .ok (.iaload, 1) := by decide +kernel
theorem dL_law_566 : decode cL_law 566 = .ok (.aload_n 0, 1) := by decide +kernel
theorem dL_law_567 : decode cL_law 567 = .ok (.iload_n 3, 1) := by decide +kernel
theorem dL_law_568 : decode cL_law 568 = .ok (.iconst 2, 1) := by decide +kernel
theorem dL_law_569 : decode cL_law 569 = .ok (.iadd, 1) := by decide +kernel
theorem dL_law_570 : decode cL_law 570 = .ok (.iaload, 1) := by decide +kernel
theorem dL_law_571 : decode cL_law 571 = .ok (.aload_n 0, 1) := by decide +kernel
theorem dL_law_572 : decode cL_law 572 = .ok (.iload_n 3, 1) := by decide +kernel
theorem dL_law_573 : decode cL_law 573 = .ok (.iconst 3, 1) := by decide +kernel
theorem dL_law_574 : decode cL_law 574 = .ok (.iadd, 1) := by decide +kernel
theorem dL_law_575 : decode cL_law 575 = .ok (.iaload, 1) := by decide +kernel
theorem dL_law_576 : decode cL_law 576 = .ok (.invokevirtual 85, 3) := by decide +kernel
theorem dL_law_579 : decode cL_law 579 = .ok (.if_icmp .eq 262, 3) := by decide +kernel
theorem dL_law_582 : decode cL_law 582 = .ok (.iconst 0, 1) := by decide +kernel
theorem dL_law_583 : decode cL_law 583 = .ok (.ireturn, 1) := by decide +kernel
theorem dL_law_584 : decode cL_law 584 = .ok (.aload_n 1, 1) := by decide +kernel
theorem dL_law_585 : decode cL_law 585 = .ok (.aload_n 0, 1) := by decide +kernel
theorem dL_law_586 : decode cL_law 586 = .ok (.iload_n 3, 1) := by decide +kernel
theorem dL_law_587 : decode cL_law 587 = .ok (.iconst 1, 1) := by decide +kernel
theorem dL_law_588 : decode cL_law 588 = .ok (.iadd, 1) := by decide +kernel
theorem dL_law_589 : decode cL_law 589 = .ok (.iaload, 1) := by decide +kernel
theorem dL_law_590 : decode cL_law 590 = .ok (.aload_n 0, 1) := by decide +kernel
theorem dL_law_591 : decode cL_law 591 = .ok (.iload_n 3, 1) := by decide +kernel
theorem dL_law_592 : decode cL_law 592 = .ok (.iconst 2, 1) := by decide +kernel
theorem dL_law_593 : decode cL_law 593 = .ok (.iadd, 1) := by decide +kernel
theorem dL_law_594 : decode cL_law 594 = .ok (.iaload, 1) := by decide +kernel
theorem dL_law_595 : decode cL_law 595 = .ok (.aload_n 0, 1) := by decide +kernel
theorem dL_law_596 : decode cL_law 596 = .ok (.iload_n 3, 1) := by decide +kernel
theorem dL_law_597 : decode cL_law 597 = .ok (.iconst 3, 1) := by decide +kernel
theorem dL_law_598 : decode cL_law 598 = .ok (.iadd, 1) := by decide +kernel
theorem dL_law_599 : decode cL_law 599 = .ok (.iaload, 1) := by decide +kernel
theorem dL_law_600 : decode cL_law 600 = .ok (.aload_n 0, 1) := by decide +kernel
theorem dL_law_601 : decode cL_law 601 = .ok (.iload_n 3, 1) := by decide +kernel
theorem dL_law_602 : decode cL_law 602 = .ok (.iconst 4, 1) := by decide +kernel
theorem dL_law_603 : decode cL_law 603 = .ok (.iadd, 1) := by decide +kernel
theorem dL_law_604 : decode cL_law 604 = .ok (.iaload, 1) := by decide +kernel
theorem dL_law_605 : decode cL_law 605 = .ok (.invokevirtual 86, 3) := by decide +kernel
theorem dL_law_608 : decode cL_law 608 = .ok (.aload_n 2, 1) := by decide +kernel
theorem dL_law_609 : decode cL_law 609 = .ok (.aload_n 0, 1) := by decide +kernel
theorem dL_law_610 : decode cL_law 610 = .ok (.iload_n 3, 1) := by decide +kernel
theorem dL_law_611 : decode cL_law 611 = .ok (.iconst 1, 1) := by decide +kernel
theorem dL_law_612 : decode cL_law 612 = .ok (.iadd, 1) := by decide +kernel
theorem dL_law_613 : decode cL_law 613 = .ok (.iaload, 1) := by decide +kernel
theorem dL_law_614 : decode cL_law 614 = .ok (.aload_n 0, 1) := by decide +kernel
theorem dL_law_615 : decode cL_law 615 = .ok (.iload_n 3, 1) := by decide +kernel
theorem dL_law_616 : decode cL_law 616 = .ok (.iconst 2, 1) := by decide +kernel
theorem dL_law_617 : decode cL_law 617 = .ok (.iadd, 1) := by decide +kernel
theorem dL_law_618 : decode cL_law 618 = .ok (.iaload, 1) := by decide +kernel
theorem dL_law_619 : decode cL_law 619 = .ok (.aload_n 0, 1) := by decide +kernel
theorem dL_law_620 : decode cL_law 620 = .ok (.iload_n 3, 1) := by decide +kernel
theorem dL_law_621 : decode cL_law 621 = .ok (.iconst 3, 1) := by decide +kernel
theorem dL_law_622 : decode cL_law 622 = .ok (.iadd, 1) := by decide +kernel
theorem dL_law_623 : decode cL_law 623 = .ok (.iaload, 1) := by decide +kernel
theorem dL_law_624 : decode cL_law 624 = .ok (.aload_n 0, 1) := by decide +kernel
theorem dL_law_625 : decode cL_law 625 = .ok (.iload_n 3, 1) := by decide +kernel
theorem dL_law_626 : decode cL_law 626 = .ok (.iconst 4, 1) := by decide +kernel
theorem dL_law_627 : decode cL_law 627 = .ok (.iadd, 1) := by decide +kernel
theorem dL_law_628 : decode cL_law 628 = .ok (.iaload, 1) := by decide +kernel
theorem dL_law_629 : decode cL_law 629 = .ok (.invokevirtual 90, 3) := by decide +kernel
theorem dL_law_632 : decode cL_law 632 = .ok (.if_icmp .eq 209, 3) := by decide +kernel
theorem dL_law_635 : decode cL_law 635 = .ok (.iconst 0, 1) := by decide +kernel
theorem dL_law_636 : decode cL_law 636 = .ok (.ireturn, 1) := by decide +kernel
theorem dL_law_637 : decode cL_law 637 = .ok (.aload_n 1, 1) := by decide +kernel
theorem dL_law_638 : decode cL_law 638 = .ok (.aload_n 0, 1) := by decide +kernel
theorem dL_law_639 : decode cL_law 639 = .ok (.iload_n 3, 1) := by decide +kernel
theorem dL_law_640 : decode cL_law 640 = .ok (.iconst 1, 1) := by decide +kernel
theorem dL_law_641 : decode cL_law 641 = .ok (.iadd, 1) := by decide +kernel
theorem dL_law_642 : decode cL_law 642 = .ok (.iaload, 1) := by decide +kernel
theorem dL_law_643 : decode cL_law 643 = .ok (.aload_n 0, 1) := by decide +kernel
theorem dL_law_644 : decode cL_law 644 = .ok (.iload_n 3, 1) := by decide +kernel
theorem dL_law_645 : decode cL_law 645 = .ok (.iconst 2, 1) := by decide +kernel
theorem dL_law_646 : decode cL_law 646 = .ok (.iadd, 1) := by decide +kernel
theorem dL_law_647 : decode cL_law 647 = .ok (.iaload, 1) := by decide +kernel
theorem dL_law_648 : decode cL_law 648 = .ok (.invokevirtual 91, 3) := by decide +kernel
theorem dL_law_651 : decode cL_law 651 = .ok (.aload_n 2, 1) := by decide +kernel
theorem dL_law_652 : decode cL_law 652 = .ok (.aload_n 0, 1) := by decide +kernel
theorem dL_law_653 : decode cL_law 653 = .ok (.iload_n 3, 1) := by decide +kernel
theorem dL_law_654 : decode cL_law 654 = .ok (.iconst 1, 1) := by decide +kernel
theorem dL_law_655 : decode cL_law 655 = .ok (.iadd, 1) := by decide +kernel
theorem dL_law_656 : decode cL_law 656 = .ok (.iaload, 1) := by decide +kernel
theorem dL_law_657 : decode cL_law 657 = .ok (.aload_n 0, 1) := by decide +kernel
theorem dL_law_658 : decode cL_law 658 = .ok (.iload_n 3, 1) := by decide +kernel
theorem dL_law_659 : decode cL_law 659 = .ok (.iconst 2, 1) := by decide +kernel
theorem dL_law_660 : decode cL_law 660 = .ok (.iadd, 1) := by decide +kernel
theorem dL_law_661 : decode cL_law 661 = .ok (.iaload, 1) := by decide +kernel
theorem dL_law_662 : decode cL_law 662 = .ok (.invokevirtual 94, 3) := by decide +kernel
theorem dL_law_665 : decode cL_law 665 = .ok (.if_icmp .eq 176, 3) := by decide +kernel
theorem dL_law_668 : decode cL_law 668 = .ok (.iconst 0, 1) := by decide +kernel
theorem dL_law_669 : decode cL_law 669 = .ok (.ireturn, 1) := by decide +kernel
theorem dL_law_670 : decode cL_law 670 = .ok (.aload_n 1, 1) := by decide +kernel
theorem dL_law_671 : decode cL_law 671 = .ok (.invokevirtual 95, 3) := by decide +kernel
theorem dL_law_674 : decode cL_law 674 = .ok (.aload_n 2, 1) := by decide +kernel
theorem dL_law_675 : decode cL_law 675 = .ok (.invokevirtual 98, 3) := by decide +kernel
theorem dL_law_678 : decode cL_law 678 = .ok (.if_icmp .eq 163, 3) := by decide +kernel
theorem dL_law_681 : decode cL_law 681 = .ok (.iconst 0, 1) := by decide +kernel
theorem dL_law_682 : decode cL_law 682 = .ok (.ireturn, 1) := by decide +kernel
theorem dL_law_683 : decode cL_law 683 = .ok (.aload_n 1, 1) := by decide +kernel
theorem dL_law_684 : decode cL_law 684 = .ok (.aload_n 0, 1) := by decide +kernel
theorem dL_law_685 : decode cL_law 685 = .ok (.iload_n 3, 1) := by decide +kernel
theorem dL_law_686 : decode cL_law 686 = .ok (.iconst 1, 1) := by decide +kernel
theorem dL_law_687 : decode cL_law 687 = .ok (.iadd, 1) := by decide +kernel
theorem dL_law_688 : decode cL_law 688 = .ok (.iaload, 1) := by decide +kernel
theorem dL_law_689 : decode cL_law 689 = .ok (.invokevirtual 99, 3) := by decide +kernel
theorem dL_law_692 : decode cL_law 692 = .ok (.aload_n 2, 1) := by decide +kernel
theorem dL_law_693 : decode cL_law 693 = .ok (.aload_n 0, 1) := by decide +kernel
theorem dL_law_694 : decode cL_law 694 = .ok (.iload_n 3, 1) := by decide +kernel
theorem dL_law_695 : decode cL_law 695 = .ok (.iconst 1, 1) := by decide +kernel
theorem dL_law_696 : decode cL_law 696 = .ok (.iadd, 1) := by decide +kernel
theorem dL_law_697 : decode cL_law 697 = .ok (.iaload, 1) := by decide +kernel
theorem dL_law_698 : decode cL_law 698 = .ok (.invokevirtual 102, 3) := by decide +kernel
theorem dL_law_701 : decode cL_law 701 = .ok (.if_icmp .eq 140, 3) := by decide +kernel
theorem dL_law_704 : decode cL_law 704 = .ok (.iconst 0, 1) := by decide +kernel
theorem dL_law_705 : decode cL_law 705 = .ok (.ireturn, 1) := by decide +kernel
theorem dL_law_706 : decode cL_law 706 = .ok (.aload_n 1, 1) := by decide +kernel
theorem dL_law_707 : decode cL_law 707 = .ok (.aload_n 0, 1) := by decide +kernel
theorem dL_law_708 : decode cL_law 708 = .ok (.iload_n 3, 1) := by decide +kernel
theorem dL_law_709 : decode cL_law 709 = .ok (.iconst 1, 1) := by decide +kernel
theorem dL_law_710 : decode cL_law 710 = .ok (.iadd, 1) := by decide +kernel
theorem dL_law_711 : decode cL_law 711 = .ok (.iaload, 1) := by decide +kernel
theorem dL_law_712 : decode cL_law 712 = .ok (.invokevirtual 103, 3) := by decide +kernel
theorem dL_law_715 : decode cL_law 715 = .ok (.aload_n 2, 1) := by decide +kernel
theorem dL_law_716 : decode cL_law 716 = .ok (.aload_n 0, 1) := by decide +kernel
theorem dL_law_717 : decode cL_law 717 = .ok (.iload_n 3, 1) := by decide +kernel
theorem dL_law_718 : decode cL_law 718 = .ok (.iconst 1, 1) := by decide +kernel
theorem dL_law_719 : decode cL_law 719 = .ok (.iadd, 1) := by decide +kernel
theorem dL_law_720 : decode cL_law 720 = .ok (.iaload, 1) := by decide +kernel
theorem dL_law_721 : decode cL_law 721 = .ok (.invokevirtual 106, 3) := by decide +kernel
theorem dL_law_724 : decode cL_law 724 = .ok (.if_icmp .eq 117, 3) := by decide +kernel
theorem dL_law_727 : decode cL_law 727 = .ok (.iconst 0, 1) := by decide +kernel
theorem dL_law_728 : decode cL_law 728 = .ok (.ireturn, 1) := by decide +kernel
theorem dL_law_729 : decode cL_law 729 = .ok (.aload_n 1, 1) := by decide +kernel
theorem dL_law_730 : decode cL_law 730 = .ok (.aload_n 0, 1) := by decide +kernel
theorem dL_law_731 : decode cL_law 731 = .ok (.iload_n 3, 1) := by decide +kernel
theorem dL_law_732 : decode cL_law 732 = .ok (.iconst 1, 1) := by decide +kernel
theorem dL_law_733 : decode cL_law 733 = .ok (.iadd, 1) := by decide +kernel
theorem dL_law_734 : decode cL_law 734 = .ok (.iaload, 1) := by decide +kernel
theorem dL_law_735 : decode cL_law 735 = .ok (.aload_n 0, 1) := by decide +kernel
theorem dL_law_736 : decode cL_law 736 = .ok (.iload_n 3, 1) := by decide +kernel
theorem dL_law_737 : decode cL_law 737 = .ok (.iconst 2, 1) := by decide +kernel
theorem dL_law_738 : decode cL_law 738 = .ok (.iadd, 1) := by decide +kernel
theorem dL_law_739 : decode cL_law 739 = .ok (.iaload, 1) := by decide +kernel
theorem dL_law_740 : decode cL_law 740 = .ok (.aload_n 0, 1) := by decide +kernel
theorem dL_law_741 : decode cL_law 741 = .ok (.iload_n 3, 1) := by decide +kernel
theorem dL_law_742 : decode cL_law 742 = .ok (.iconst 3, 1) := by decide +kernel
theorem dL_law_743 : decode cL_law 743 = .ok (.iadd, 1) := by decide +kernel
theorem dL_law_744 : decode cL_law 744 = .ok (.iaload, 1) := by decide +kernel
theorem dL_law_745 : decode cL_law 745 = .ok (.invokevirtual 107, 3) := by decide +kernel
theorem dL_law_748 : decode cL_law 748 = .ok (.aload_n 2, 1) := by decide +kernel
theorem dL_law_749 : decode cL_law 749 = .ok (.aload_n 0, 1) := by decide +kernel
theorem dL_law_750 : decode cL_law 750 = .ok (.iload_n 3, 1) := by decide +kernel
theorem dL_law_751 : decode cL_law 751 = .ok (.iconst 1, 1) := by decide +kernel
theorem dL_law_752 : decode cL_law 752 = .ok (.iadd, 1) := by decide +kernel
theorem dL_law_753 : decode cL_law 753 = .ok (.iaload, 1) := by decide +kernel
theorem dL_law_754 : decode cL_law 754 = .ok (.aload_n 0, 1) := by decide +kernel
theorem dL_law_755 : decode cL_law 755 = .ok (.iload_n 3, 1) := by decide +kernel
theorem dL_law_756 : decode cL_law 756 = .ok (.iconst 2, 1) := by decide +kernel
theorem dL_law_757 : decode cL_law 757 = .ok (.iadd, 1) := by decide +kernel
theorem dL_law_758 : decode cL_law 758 = .ok (.iaload, 1) := by decide +kernel
theorem dL_law_759 : decode cL_law 759 = .ok (.aload_n 0, 1) := by decide +kernel
theorem dL_law_760 : decode cL_law 760 = .ok (.iload_n 3, 1) := by decide +kernel
theorem dL_law_761 : decode cL_law 761 = .ok (.iconst 3, 1) := by decide +kernel
theorem dL_law_762 : decode cL_law 762 = .ok (.iadd, 1) := by decide +kernel
theorem dL_law_763 : decode cL_law 763 = .ok (.iaload, 1) := by decide +kernel
theorem dL_law_764 : decode cL_law 764 = .ok (.invokevirtual 110, 3) := by decide +kernel
theorem dL_law_767 : decode cL_law 767 = .ok (.if_icmp .eq 74, 3) := by decide +kernel
theorem dL_law_770 : decode cL_law 770 = .ok (.iconst 0, 1) := by decide +kernel
theorem dL_law_771 : decode cL_law 771 = .ok (.ireturn, 1) := by decide +kernel
theorem dL_law_772 : decode cL_law 772 = .ok (.aload_n 1, 1) := by decide +kernel
theorem dL_law_773 : decode cL_law 773 = .ok (.aload_n 0, 1) := by decide +kernel
theorem dL_law_774 : decode cL_law 774 = .ok (.iload_n 3, 1) := by decide +kernel
theorem dL_law_775 : decode cL_law 775 = .ok (.iconst 1, 1) := by decide +kernel
theorem dL_law_776 : decode cL_law 776 = .ok (.iadd, 1) := by decide +kernel
theorem dL_law_777 : decode cL_law 777 = .ok (.iaload, 1) := by decide +kernel
theorem dL_law_778 : decode cL_law 778 = .ok (.invokevirtual 111, 3) := by decide +kernel
theorem dL_law_781 : decode cL_law 781 = .ok (.aload_n 2, 1) := by decide +kernel
theorem dL_law_782 : decode cL_law 782 = .ok (.aload_n 0, 1) := by decide +kernel
theorem dL_law_783 : decode cL_law 783 = .ok (.iload_n 3, 1) := by decide +kernel
theorem dL_law_784 : decode cL_law 784 = .ok (.iconst 1, 1) := by decide +kernel
theorem dL_law_785 : decode cL_law 785 = .ok (.iadd, 1) := by decide +kernel
theorem dL_law_786 : decode cL_law 786 = .ok (.iaload, 1) := by decide +kernel
theorem dL_law_787 : decode cL_law 787 = .ok (.invokevirtual 114, 3) := by decide +kernel
theorem dL_law_790 : decode cL_law 790 = .ok (.if_icmp .eq 51, 3) := by decide +kernel
theorem dL_law_793 : decode cL_law 793 = .ok (.iconst 0, 1) := by decide +kernel
theorem dL_law_794 : decode cL_law 794 = .ok (.ireturn, 1) := by decide +kernel
theorem dL_law_795 : decode cL_law 795 = .ok (.aload_n 1, 1) := by decide +kernel
theorem dL_law_796 : decode cL_law 796 = .ok (.aload_n 0, 1) := by decide +kernel
theorem dL_law_797 : decode cL_law 797 = .ok (.iload_n 3, 1) := by decide +kernel
theorem dL_law_798 : decode cL_law 798 = .ok (.iconst 1, 1) := by decide +kernel
theorem dL_law_799 : decode cL_law 799 = .ok (.iadd, 1) := by decide +kernel
theorem dL_law_800 : decode cL_law 800 = .ok (.iaload, 1) := by decide +kernel
theorem dL_law_801 : decode cL_law 801 = .ok (.invokevirtual 115, 3) := by decide +kernel
theorem dL_law_804 : decode cL_law 804 = .ok (.aload_n 2, 1) := by decide +kernel
theorem dL_law_805 : decode cL_law 805 = .ok (.aload_n 0, 1) := by decide +kernel
theorem dL_law_806 : decode cL_law 806 = .ok (.iload_n 3, 1) := by decide +kernel
theorem dL_law_807 : decode cL_law 807 = .ok (.iconst 1, 1) := by decide +kernel
theorem dL_law_808 : decode cL_law 808 = .ok (.iadd, 1) := by decide +kernel
theorem dL_law_809 : decode cL_law 809 = .ok (.iaload, 1) := by decide +kernel
theorem dL_law_810 : decode cL_law 810 = .ok (.invokevirtual 118, 3) := by decide +kernel
theorem dL_law_813 : decode cL_law 813 = .ok (.if_icmp .eq 28, 3) := by decide +kernel
theorem dL_law_816 : decode cL_law 816 = .ok (.iconst 0, 1) := by decide +kernel
theorem dL_law_817 : decode cL_law 817 = .ok (.ireturn, 1) := by decide +kernel
theorem dL_law_818 : decode cL_law 818 = .ok (.aload_n 1, 1) := by decide +kernel
theorem dL_law_819 : decode cL_law 819 = .ok (.aload_n 0, 1) := by decide +kernel
theorem dL_law_820 : decode cL_law 820 = .ok (.iload_n 3, 1) := by decide +kernel
theorem dL_law_821 : decode cL_law 821 = .ok (.iconst 1, 1) := by decide +kernel
theorem dL_law_822 : decode cL_law 822 = .ok (.iadd, 1) := by decide +kernel
theorem dL_law_823 : decode cL_law 823 = .ok (.iaload, 1) := by decide +kernel
theorem dL_law_824 : decode cL_law 824 = .ok (.invokevirtual 119, 3) := by decide +kernel
theorem dL_law_827 : decode cL_law 827 = .ok (.aload_n 2, 1) := by decide +kernel
theorem dL_law_828 : decode cL_law 828 = .ok (.aload_n 0, 1) := by decide +kernel
theorem dL_law_829 : decode cL_law 829 = .ok (.iload_n 3, 1) := by decide +kernel
theorem dL_law_830 : decode cL_law 830 = .ok (.iconst 1, 1) := by decide +kernel
theorem dL_law_831 : decode cL_law 831 = .ok (.iadd, 1) := by decide +kernel
theorem dL_law_832 : decode cL_law 832 = .ok (.iaload, 1) := by decide +kernel
theorem dL_law_833 : decode cL_law 833 = .ok (.invokevirtual 122, 3) := by decide +kernel
theorem dL_law_836 : decode cL_law 836 = .ok (.if_icmp .eq 5, 3) := by decide +kernel
theorem dL_law_839 : decode cL_law 839 = .ok (.iconst 0, 1) := by decide +kernel
theorem dL_law_840 : decode cL_law 840 = .ok (.ireturn, 1) := by decide +kernel
theorem dL_law_841 : decode cL_law 841 = .ok (.iinc 3 5, 3) := by decide +kernel
theorem dL_law_844 : decode cL_law 844 = .ok (.goto (-826), 3) := by decide +kernel
theorem dL_law_847 : decode cL_law 847 = .ok (.iconst 1, 1) := by decide +kernel
theorem dL_law_848 : decode cL_law 848 = .ok (.ireturn, 1) := by decide +kernel
theorem dJ6_numberOfTrailingZeros_0f7a4_0 : decode cJ6_numberOfTrailingZeros_0f7a4 0 = .ok (.iload_n 0, 1) := by decide +kernel
theorem dJ6_numberOfTrailingZeros_0f7a4_1 : decode cJ6_numberOfTrailingZeros_0f7a4 1 = .ok (.iconst (-1), 1) := by decide +kernel
theorem dJ6_numberOfTrailingZeros_0f7a4_2 : decode cJ6_numberOfTrailingZeros_0f7a4 2 = .ok (.ixor, 1) := by decide +kernel
theorem dJ6_numberOfTrailingZeros_0f7a4_3 : decode cJ6_numberOfTrailingZeros_0f7a4 3 = .ok (.iload_n 0, 1) := by decide +kernel
theorem dJ6_numberOfTrailingZeros_0f7a4_4 : decode cJ6_numberOfTrailingZeros_0f7a4 4 = .ok (.iconst 1, 1) := by decide +kernel
theorem dJ6_numberOfTrailingZeros_0f7a4_5 : decode cJ6_numberOfTrailingZeros_0f7a4 5 = .ok (.isub, 1) := by decide +kernel
theorem dJ6_numberOfTrailingZeros_0f7a4_6 : decode cJ6_numberOfTrailingZeros_0f7a4 6 = .ok (.iand, 1) := by decide +kernel
theorem dJ6_numberOfTrailingZeros_0f7a4_7 : decode cJ6_numberOfTrailingZeros_0f7a4 7 = .ok (.istore_n 0, 1) := by decide +kernel
theorem dJ6_numberOfTrailingZeros_0f7a4_8 : decode cJ6_numberOfTrailingZeros_0f7a4 8 = .ok (.iload_n 0, 1) := by decide +kernel
theorem dJ6_numberOfTrailingZeros_0f7a4_9 : decode cJ6_numberOfTrailingZeros_0f7a4 9 = .ok (.ifCond .gt 8, 3) := by decide +kernel
theorem dJ6_numberOfTrailingZeros_0f7a4_12 : decode cJ6_numberOfTrailingZeros_0f7a4 12 = .ok (.iload_n 0, 1) := by decide +kernel
theorem dJ6_numberOfTrailingZeros_0f7a4_13 : decode cJ6_numberOfTrailingZeros_0f7a4 13 = .ok (.bipush 32, 2) := by decide +kernel
theorem dJ6_numberOfTrailingZeros_0f7a4_15 : decode cJ6_numberOfTrailingZeros_0f7a4 15 = .ok (.iand, 1) := by decide +kernel
theorem dJ6_numberOfTrailingZeros_0f7a4_16 : decode cJ6_numberOfTrailingZeros_0f7a4 16 = .ok (.ireturn, 1) := by decide +kernel
theorem dJ6_numberOfTrailingZeros_0f7a4_17 : decode cJ6_numberOfTrailingZeros_0f7a4 17 = .ok (.iconst 1, 1) := by decide +kernel
theorem dJ6_numberOfTrailingZeros_0f7a4_18 : decode cJ6_numberOfTrailingZeros_0f7a4 18 = .ok (.istore_n 1, 1) := by decide +kernel
theorem dJ6_numberOfTrailingZeros_0f7a4_19 : decode cJ6_numberOfTrailingZeros_0f7a4 19 = .ok (.iload_n 0, 1) := by decide +kernel
theorem dJ6_numberOfTrailingZeros_0f7a4_20 : decode cJ6_numberOfTrailingZeros_0f7a4 20 = .ok (.ldc_w 264, 3) := by decide +kernel
theorem dJ6_numberOfTrailingZeros_0f7a4_23 : decode cJ6_numberOfTrailingZeros_0f7a4 23 = .ok (.if_icmp .le 11, 3) := by decide +kernel
theorem dJ6_numberOfTrailingZeros_0f7a4_26 : decode cJ6_numberOfTrailingZeros_0f7a4 26 = .ok (.iinc 1 16, 3) := by decide +kernel
theorem dJ6_numberOfTrailingZeros_0f7a4_29 : decode cJ6_numberOfTrailingZeros_0f7a4 29 = .ok (.iload_n 0, 1) := by decide +kernel
theorem dJ6_numberOfTrailingZeros_0f7a4_30 : decode cJ6_numberOfTrailingZeros_0f7a4 30 = .ok (.bipush 16, 2) := by decide +kernel
theorem dJ6_numberOfTrailingZeros_0f7a4_32 : decode cJ6_numberOfTrailingZeros_0f7a4 32 = .ok (.iushr, 1) := by decide +kernel
theorem dJ6_numberOfTrailingZeros_0f7a4_33 : decode cJ6_numberOfTrailingZeros_0f7a4 33 = .ok (.istore_n 0, 1) := by decide +kernel
theorem dJ6_numberOfTrailingZeros_0f7a4_34 : decode cJ6_numberOfTrailingZeros_0f7a4 34 = .ok (.iload_n 0, 1) := by decide +kernel
theorem dJ6_numberOfTrailingZeros_0f7a4_35 : decode cJ6_numberOfTrailingZeros_0f7a4 35 = .ok (.sipush 256, 3) := by decide +kernel
theorem dJ6_numberOfTrailingZeros_0f7a4_38 : decode cJ6_numberOfTrailingZeros_0f7a4 38 = .ok (.if_icmp .le 11, 3) := by decide +kernel
theorem dJ6_numberOfTrailingZeros_0f7a4_41 : decode cJ6_numberOfTrailingZeros_0f7a4 41 = .ok (.iinc 1 8, 3) := by decide +kernel
theorem dJ6_numberOfTrailingZeros_0f7a4_44 : decode cJ6_numberOfTrailingZeros_0f7a4 44 = .ok (.iload_n 0, 1) := by decide +kernel
theorem dJ6_numberOfTrailingZeros_0f7a4_45 : decode cJ6_numberOfTrailingZeros_0f7a4 45 = .ok (.bipush 8, 2) := by decide +kernel
theorem dJ6_numberOfTrailingZeros_0f7a4_47 : decode cJ6_numberOfTrailingZeros_0f7a4 47 = .ok (.iushr, 1) := by decide +kernel
theorem dJ6_numberOfTrailingZeros_0f7a4_48 : decode cJ6_numberOfTrailingZeros_0f7a4 48 = .ok (.istore_n 0, 1) := by decide +kernel
theorem dJ6_numberOfTrailingZeros_0f7a4_49 : decode cJ6_numberOfTrailingZeros_0f7a4 49 = .ok (.iload_n 0, 1) := by decide +kernel
theorem dJ6_numberOfTrailingZeros_0f7a4_50 : decode cJ6_numberOfTrailingZeros_0f7a4 50 = .ok (.bipush 16, 2) := by decide +kernel
theorem dJ6_numberOfTrailingZeros_0f7a4_52 : decode cJ6_numberOfTrailingZeros_0f7a4 52 = .ok (.if_icmp .le 10, 3) := by decide +kernel
theorem dJ6_numberOfTrailingZeros_0f7a4_55 : decode cJ6_numberOfTrailingZeros_0f7a4 55 = .ok (.iinc 1 4, 3) := by decide +kernel
theorem dJ6_numberOfTrailingZeros_0f7a4_58 : decode cJ6_numberOfTrailingZeros_0f7a4 58 = .ok (.iload_n 0, 1) := by decide +kernel
theorem dJ6_numberOfTrailingZeros_0f7a4_59 : decode cJ6_numberOfTrailingZeros_0f7a4 59 = .ok (.iconst 4, 1) := by decide +kernel
theorem dJ6_numberOfTrailingZeros_0f7a4_60 : decode cJ6_numberOfTrailingZeros_0f7a4 60 = .ok (.iushr, 1) := by decide +kernel
theorem dJ6_numberOfTrailingZeros_0f7a4_61 : decode cJ6_numberOfTrailingZeros_0f7a4 61 = .ok (.istore_n 0, 1) := by decide +kernel
theorem dJ6_numberOfTrailingZeros_0f7a4_62 : decode cJ6_numberOfTrailingZeros_0f7a4 62 = .ok (.iload_n 0, 1) := by decide +kernel
theorem dJ6_numberOfTrailingZeros_0f7a4_63 : decode cJ6_numberOfTrailingZeros_0f7a4 63 = .ok (.iconst 4, 1) := by decide +kernel
theorem dJ6_numberOfTrailingZeros_0f7a4_64 : decode cJ6_numberOfTrailingZeros_0f7a4 64 = .ok (.if_icmp .le 10, 3) := by decide +kernel
theorem dJ6_numberOfTrailingZeros_0f7a4_67 : decode cJ6_numberOfTrailingZeros_0f7a4 67 = .ok (.iinc 1 2, 3) := by decide +kernel
theorem dJ6_numberOfTrailingZeros_0f7a4_70 : decode cJ6_numberOfTrailingZeros_0f7a4 70 = .ok (.iload_n 0, 1) := by decide +kernel
theorem dJ6_numberOfTrailingZeros_0f7a4_71 : decode cJ6_numberOfTrailingZeros_0f7a4 71 = .ok (.iconst 2, 1) := by decide +kernel
theorem dJ6_numberOfTrailingZeros_0f7a4_72 : decode cJ6_numberOfTrailingZeros_0f7a4 72 = .ok (.iushr, 1) := by decide +kernel
theorem dJ6_numberOfTrailingZeros_0f7a4_73 : decode cJ6_numberOfTrailingZeros_0f7a4 73 = .ok (.istore_n 0, 1) := by decide +kernel
theorem dJ6_numberOfTrailingZeros_0f7a4_74 : decode cJ6_numberOfTrailingZeros_0f7a4 74 = .ok (.iload_n 1, 1) := by decide +kernel
theorem dJ6_numberOfTrailingZeros_0f7a4_75 : decode cJ6_numberOfTrailingZeros_0f7a4 75 = .ok (.iload_n 0, 1) := by decide +kernel
theorem dJ6_numberOfTrailingZeros_0f7a4_76 : decode cJ6_numberOfTrailingZeros_0f7a4 76 = .ok (.iconst 1, 1) := by decide +kernel
theorem dJ6_numberOfTrailingZeros_0f7a4_77 : decode cJ6_numberOfTrailingZeros_0f7a4 77 = .ok (.iushr, 1) := by decide +kernel
theorem dJ6_numberOfTrailingZeros_0f7a4_78 : decode cJ6_numberOfTrailingZeros_0f7a4 78 = .ok (.iadd, 1) := by decide +kernel
theorem dJ6_numberOfTrailingZeros_0f7a4_79 : decode cJ6_numberOfTrailingZeros_0f7a4 79 = .ok (.ireturn, 1) := by decide +kernel
theorem dJ6_bitCount_0f7a4_0 : decode cJ6_bitCount_0f7a4 0 = .ok (.iload_n 0, 1) := by decide +kernel
theorem dJ6_bitCount_0f7a4_1 : decode cJ6_bitCount_0f7a4 1 = .ok (.iload_n 0, 1) := by decide +kernel
theorem dJ6_bitCount_0f7a4_2 : decode cJ6_bitCount_0f7a4 2 = .ok (.iconst 1, 1) := by decide +kernel
theorem dJ6_bitCount_0f7a4_3 : decode cJ6_bitCount_0f7a4 3 = .ok (.iushr, 1) := by decide +kernel
theorem dJ6_bitCount_0f7a4_4 : decode cJ6_bitCount_0f7a4 4 = .ok (.ldc_w 265, 3) := by decide +kernel
theorem dJ6_bitCount_0f7a4_7 : decode cJ6_bitCount_0f7a4 7 = .ok (.iand, 1) := by decide +kernel
theorem dJ6_bitCount_0f7a4_8 : decode cJ6_bitCount_0f7a4 8 = .ok (.isub, 1) := by decide +kernel
theorem dJ6_bitCount_0f7a4_9 : decode cJ6_bitCount_0f7a4 9 = .ok (.istore_n 0, 1) := by decide +kernel
theorem dJ6_bitCount_0f7a4_10 : decode cJ6_bitCount_0f7a4 10 = .ok (.iload_n 0, 1) := by decide +kernel
theorem dJ6_bitCount_0f7a4_11 : decode cJ6_bitCount_0f7a4 11 = .ok (.ldc_w 266, 3) := by decide +kernel
theorem dJ6_bitCount_0f7a4_14 : decode cJ6_bitCount_0f7a4 14 = .ok (.iand, 1) := by decide +kernel
theorem dJ6_bitCount_0f7a4_15 : decode cJ6_bitCount_0f7a4 15 = .ok (.iload_n 0, 1) := by decide +kernel
theorem dJ6_bitCount_0f7a4_16 : decode cJ6_bitCount_0f7a4 16 = .ok (.iconst 2, 1) := by decide +kernel
theorem dJ6_bitCount_0f7a4_17 : decode cJ6_bitCount_0f7a4 17 = .ok (.iushr, 1) := by decide +kernel
theorem dJ6_bitCount_0f7a4_18 : decode cJ6_bitCount_0f7a4 18 = .ok (.ldc_w 266, 3) := by decide +kernel
theorem dJ6_bitCount_0f7a4_21 : decode cJ6_bitCount_0f7a4 21 = .ok (.iand, 1) := by decide +kernel
theorem dJ6_bitCount_0f7a4_22 : decode cJ6_bitCount_0f7a4 22 = .ok (.iadd, 1) := by decide +kernel
theorem dJ6_bitCount_0f7a4_23 : decode cJ6_bitCount_0f7a4 23 = .ok (.istore_n 0, 1) := by decide +kernel
theorem dJ6_bitCount_0f7a4_24 : decode cJ6_bitCount_0f7a4 24 = .ok (.iload_n 0, 1) := by decide +kernel
theorem dJ6_bitCount_0f7a4_25 : decode cJ6_bitCount_0f7a4 25 = .ok (.iload_n 0, 1) := by decide +kernel
theorem dJ6_bitCount_0f7a4_26 : decode cJ6_bitCount_0f7a4 26 = .ok (.iconst 4, 1) := by decide +kernel
theorem dJ6_bitCount_0f7a4_27 : decode cJ6_bitCount_0f7a4 27 = .ok (.iushr, 1) := by decide +kernel
theorem dJ6_bitCount_0f7a4_28 : decode cJ6_bitCount_0f7a4 28 = .ok (.iadd, 1) := by decide +kernel
theorem dJ6_bitCount_0f7a4_29 : decode cJ6_bitCount_0f7a4 29 = .ok (.ldc_w 267, 3) := by decide +kernel
theorem dJ6_bitCount_0f7a4_32 : decode cJ6_bitCount_0f7a4 32 = .ok (.iand, 1) := by decide +kernel
theorem dJ6_bitCount_0f7a4_33 : decode cJ6_bitCount_0f7a4 33 = .ok (.istore_n 0, 1) := by decide +kernel
theorem dJ6_bitCount_0f7a4_34 : decode cJ6_bitCount_0f7a4 34 = .ok (.iload_n 0, 1) := by decide +kernel
theorem dJ6_bitCount_0f7a4_35 : decode cJ6_bitCount_0f7a4 35 = .ok (.iload_n 0, 1) := by decide +kernel
theorem dJ6_bitCount_0f7a4_36 : decode cJ6_bitCount_0f7a4 36 = .ok (.bipush 8, 2) := by decide +kernel
theorem dJ6_bitCount_0f7a4_38 : decode cJ6_bitCount_0f7a4 38 = .ok (.iushr, 1) := by decide +kernel
theorem dJ6_bitCount_0f7a4_39 : decode cJ6_bitCount_0f7a4 39 = .ok (.iadd, 1) := by decide +kernel
theorem dJ6_bitCount_0f7a4_40 : decode cJ6_bitCount_0f7a4 40 = .ok (.istore_n 0, 1) := by decide +kernel
theorem dJ6_bitCount_0f7a4_41 : decode cJ6_bitCount_0f7a4 41 = .ok (.iload_n 0, 1) := by decide +kernel
theorem dJ6_bitCount_0f7a4_42 : decode cJ6_bitCount_0f7a4 42 = .ok (.iload_n 0, 1) := by decide +kernel
theorem dJ6_bitCount_0f7a4_43 : decode cJ6_bitCount_0f7a4 43 = .ok (.bipush 16, 2) := by decide +kernel
theorem dJ6_bitCount_0f7a4_45 : decode cJ6_bitCount_0f7a4 45 = .ok (.iushr, 1) := by decide +kernel
theorem dJ6_bitCount_0f7a4_46 : decode cJ6_bitCount_0f7a4 46 = .ok (.iadd, 1) := by decide +kernel
theorem dJ6_bitCount_0f7a4_47 : decode cJ6_bitCount_0f7a4 47 = .ok (.istore_n 0, 1) := by decide +kernel
theorem dJ6_bitCount_0f7a4_48 : decode cJ6_bitCount_0f7a4 48 = .ok (.iload_n 0, 1) := by decide +kernel
theorem dJ6_bitCount_0f7a4_49 : decode cJ6_bitCount_0f7a4 49 = .ok (.bipush 63, 2) := by decide +kernel
theorem dJ6_bitCount_0f7a4_51 : decode cJ6_bitCount_0f7a4 51 = .ok (.iand, 1) := by decide +kernel
theorem dJ6_bitCount_0f7a4_52 : decode cJ6_bitCount_0f7a4 52 = .ok (.ireturn, 1) := by decide +kernel
theorem dJ9_max_7cf53_0 : decode cJ9_max_7cf53 0 = .ok (.iload_n 0, 1) := by decide +kernel
theorem dJ9_max_7cf53_1 : decode cJ9_max_7cf53 1 = .ok (.iload_n 1, 1) := by decide +kernel
theorem dJ9_max_7cf53_2 : decode cJ9_max_7cf53 2 = .ok (.if_icmp .lt 7, 3) := by decide +kernel
theorem dJ9_max_7cf53_5 : decode cJ9_max_7cf53 5 = .ok (.iload_n 0, 1) := by decide +kernel
theorem dJ9_max_7cf53_6 : decode cJ9_max_7cf53 6 = .ok (.goto 4, 3) := by decide +kernel
theorem dJ9_max_7cf53_9 : decode cJ9_max_7cf53 9 = .ok (.iload_n 1, 1) := by decide +kernel
theorem dJ9_max_7cf53_10 : decode cJ9_max_7cf53 10 = .ok (.ireturn, 1) := by decide +kernel
theorem dJ9_min_7cf53_0 : decode cJ9_min_7cf53 0 = .ok (.iload_n 0, 1) := by decide +kernel
theorem dJ9_min_7cf53_1 : decode cJ9_min_7cf53 1 = .ok (.iload_n 1, 1) := by decide +kernel
theorem dJ9_min_7cf53_2 : decode cJ9_min_7cf53 2 = .ok (.if_icmp .gt 7, 3) := by decide +kernel
theorem dJ9_min_7cf53_5 : decode cJ9_min_7cf53 5 = .ok (.iload_n 0, 1) := by decide +kernel
theorem dJ9_min_7cf53_6 : decode cJ9_min_7cf53 6 = .ok (.goto 4, 3) := by decide +kernel
theorem dJ9_min_7cf53_9 : decode cJ9_min_7cf53 9 = .ok (.iload_n 1, 1) := by decide +kernel
theorem dJ9_min_7cf53_10 : decode cJ9_min_7cf53 10 = .ok (.ireturn, 1) := by decide +kernel
theorem dJ7_fill_53178_0 : decode cJ7_fill_53178 0 = .ok (.iconst 0, 1) := by decide +kernel
theorem dJ7_fill_53178_1 : decode cJ7_fill_53178 1 = .ok (.istore_n 2, 1) := by decide +kernel
theorem dJ7_fill_53178_2 : decode cJ7_fill_53178 2 = .ok (.aload_n 0, 1) := by decide +kernel
theorem dJ7_fill_53178_3 : decode cJ7_fill_53178 3 = .ok (.arraylength, 1) := by decide +kernel
theorem dJ7_fill_53178_4 : decode cJ7_fill_53178 4 = .ok (.istore_n 3, 1) := by decide +kernel
theorem dJ7_fill_53178_5 : decode cJ7_fill_53178 5 = .ok (.iload_n 2, 1) := by decide +kernel
theorem dJ7_fill_53178_6 : decode cJ7_fill_53178 6 = .ok (.iload_n 3, 1) := by decide +kernel
theorem dJ7_fill_53178_7 : decode cJ7_fill_53178 7 = .ok (.if_icmp .ge 13, 3) := by decide +kernel
theorem dJ7_fill_53178_10 : decode cJ7_fill_53178 10 = .ok (.aload_n 0, 1) := by decide +kernel
theorem dJ7_fill_53178_11 : decode cJ7_fill_53178 11 = .ok (.iload_n 2, 1) := by decide +kernel
theorem dJ7_fill_53178_12 : decode cJ7_fill_53178 12 = .ok (.iload_n 1, 1) := by decide +kernel
theorem dJ7_fill_53178_13 : decode cJ7_fill_53178 13 = .ok (.iastore, 1) := by decide +kernel
theorem dJ7_fill_53178_14 : decode cJ7_fill_53178 14 = .ok (.iinc 2 1, 3) := by decide +kernel
theorem dJ7_fill_53178_17 : decode cJ7_fill_53178 17 = .ok (.goto (-12), 3) := by decide +kernel
theorem dJ7_fill_53178_20 : decode cJ7_fill_53178 20 = .ok (.return_, 1) := by decide +kernel
end
section
/-! THE ABSTRACT MACHINE: memory is a list of cells (kind, contents) whose references are places of that list; place 0 is the law's script -/
abbrev ab_C : Type := Nat × List Value
abbrev ab_M : Type := List ab_C
/-- a method: name, code, locals, what it returns -/
abbrev ab_Y : Type := MethodName × ByteArray × Nat × Option FieldType
def ab_ad (bs b k : Nat) : Nat := if k = 0 then b else bs + k
def ab_v (bs b : Nat) (v : Value) : Value := match v with
  | .ref k => .ref (ab_ad bs b k)
  | v => v
theorem ab_v_int (bs b : Nat) (x : Int32) : ab_v bs b (.int x) = .int x := rfl
theorem ab_v_long (bs b : Nat) (x : Int64) : ab_v bs b (.long x) = .long x := rfl
theorem ab_v_null (bs b : Nat) : ab_v bs b .null = .null := rfl
theorem ab_v_ref (bs b k : Nat) : ab_v bs b (.ref k) = .ref (ab_ad bs b k) := rfl
theorem ab_v_cat (bs b : Nat) (v : Value) : (ab_v bs b v).category = v.category := by cases v <;> rfl
def ab_gw : List Cond := lw_tbl.filter goodWord
def ab_wy (Y : ab_Y) : List Cond := Cond.code Y.1 Y.2.1 Y.2.2.1 Y.2.2.2 :: ab_gw
theorem ab_gw_of {w : Cond} (i : Nat) (h : lw_tbl[i]? = some w) (hg : goodWord w = true) : w ∈ ab_gw := List.mem_filter.mpr ⟨List.mem_of_getElem? h, hg⟩
def ab_nest : List Cond := [.methodLinkNest RX2 23 yX8_isIn RX8, .methodLinkNest RX0 89 yX8_greatestLoad RX8, .methodLinkNest RX4 93 yX8_greatestLoad RX8]
def ab_tys (dA : Nat → ClassId) : List (ClassId × FieldType) := [(dA 0, .int), (dA 1, .boolean), (dA 2, .object RX5), (dA 3, .object RX6), (dA 4, .object RX0), (dA 5, .array .int)]
def ab_K (D : va_G) (dA : Nat → ClassId) (U : State) : Prop := va_K D vwCl (ab_tys dA) U ∧ (∀ w ∈ ab_nest, va_Nw w U) ∧ va_AO RX5 U ∧ va_AO RX6 U ∧ va_AO RX0 U ∧ va_AOA .int U
theorem ab_AOA_moved {ty : FieldType} {u U : State} (hvm : u.vm.Alike U.vm) (h : va_AOA ty u) : va_AOA ty U := by
  obtain ⟨comp, c, k, h1, h2, h3, h4, h5⟩ := arrayOverA_spec h
  obtain ⟨k', hk', he⟩ := hvm.2.2 _ _ h3
  have hi : (U.vm.classes.findIdx? fun (x : Class) => match x.kind with | .array component _ => component == comp | _ => false) = some c := by
    rw [hvm.findIdx?_eq _ (fun _ => rfl)]
    exact h2
  have hkind : k'.kind = .array comp (.array ty) := by rw [he]; exact h4
  have f1 : U.vm.findClass (FieldType.array ty).toString = some comp := by rw [hvm.findClass]; exact h1
  have f2 : U.vm.findClass ("[" ++ (FieldType.array ty).toString) = some c := by rw [hvm.findClass]; exact h5
  unfold va_AOA Cond.before Cond.holds
  simp only [Cond.value]
  rw [f1, Option.bind_some]
  refine (congrArg (fun o : Option Nat => (o.bind (fun c => (U.vm.classes[c]?).map fun (k : Class) => match k.kind with | .array _ ty' => decide (ty' = FieldType.array ty) && decide (U.vm.findClass ("[" ++ (FieldType.array ty).toString) = some c) | _ => false) == some true)) hi).trans ?_
  simp [hk', hkind, f2]
theorem ab_nest0 : Cond.methodLinkNest RX2 23 yX8_isIn RX8 ∈ ab_nest := List.mem_cons_self
theorem ab_nest1 : Cond.methodLinkNest RX0 89 yX8_greatestLoad RX8 ∈ ab_nest := List.mem_cons_of_mem _ List.mem_cons_self
theorem ab_nest2 : Cond.methodLinkNest RX4 93 yX8_greatestLoad RX8 ∈ ab_nest := List.mem_cons_of_mem _ (List.mem_cons_of_mem _ List.mem_cons_self)
theorem ab_nest_cases {P : Cond → Prop} (h0 : P (.methodLinkNest RX2 23 yX8_isIn RX8)) (h1 : P (.methodLinkNest RX0 89 yX8_greatestLoad RX8)) (h2 : P (.methodLinkNest RX4 93 yX8_greatestLoad RX8)) : ∀ w ∈ ab_nest, P w := by
  intro w hw
  unfold ab_nest at hw
  simp only [List.mem_cons, List.not_mem_nil, or_false] at hw
  rcases hw with rfl | rfl | rfl
  · exact h0
  · exact h1
  · exact h2
theorem ab_K.moved {D : va_G} {dA : Nat → ClassId} {s U : State} (hW : s.WarmedH U.vm) (h : ab_K D dA s) : ab_K D dA U := by
  obtain ⟨h1, h2, h3, h4, h5, h6⟩ := h
  have hal : s.vm.Alike U.vm := hW.alike
  refine ⟨h1.moved hal, ?_, h3.moved hal, h4.moved hal, h5.moved hal, ab_AOA_moved hal h6⟩
  exact ab_nest_cases (va_Nw.warmM hW (h2 _ ab_nest0)) (va_Nw.warmM hW (h2 _ ab_nest1)) (va_Nw.warmM hW (h2 _ ab_nest2))
theorem ab_K.blind {D : va_G} {dA : Nat → ClassId} {U : State} (g : JFrame) (mk : MethodId) (a : Array Value) (h : ab_K D dA U) : ab_K D dA (U.calling g mk a) := by
  obtain ⟨h1, h2, h3, h4, h5, h6⟩ := h
  have hal : U.vm.Alike (U.calling g mk a).vm := Vm.Alike.refl U.vm
  refine ⟨h1.moved hal, ?_, h3.moved hal, h4.moved hal, h5.moved hal, ab_AOA_moved hal h6⟩
  exact ab_nest_cases (va_Nw.same rfl rfl (h2 _ ab_nest0)) (va_Nw.same rfl rfl (h2 _ ab_nest1)) (va_Nw.same rfl rfl (h2 _ ab_nest2))
/-- a cell of the memory in the heap -/
def ab_at (D : va_G) (dA : Nat → ClassId) (bs b : Nat) (U : State) (k : Nat) (c : ab_C) (H : Heap) : Prop :=
  (c.1 = 16 → ∃ scr : Cell, H[b]? = some scr ∧ U.isArrayOf scr .int ∧ scr.vm ≠ .unknown ∧ scr.slots.size = c.2.length ∧ ∀ j : Nat, j < c.2.length → scr.slots[j]? = some (c.2.getD j .null)) ∧
  (c.1 < 10 → ∃ r : vw_C, vwCl[c.1]? = some r ∧ t_OB (bs + k) (D.1 c.1) r.2.2 (D.2 c.1) H (vp_V (c.2.map (ab_v bs b)))) ∧
  (10 ≤ c.1 → c.1 < 16 → H[bs + k]? = some (arrV (dA (c.1 - 10)) c.2.length (fun j => ab_v bs b (c.2.getD j .null))))
def ab_H (D : va_G) (dA : Nat → ClassId) (bs b : Nat) (M : ab_M) (U : State) (H : Heap) : Prop :=
  H.size = bs + M.length ∧ b ≤ bs ∧ (∃ xs, M[0]? = some (16, xs)) ∧ ∀ (k : Nat) (c : ab_C), M[k]? = some c → ab_at D dA bs b U k c H
theorem ab_at.moved {D : va_G} {dA : Nat → ClassId} {bs b k : Nat} {c : ab_C} {u U : State} {H : Heap} (hvm : u.vm.Alike U.vm) (h : ab_at D dA bs b u k c H) : ab_at D dA bs b U k c H := by
  obtain ⟨h1, h2, h3⟩ := h
  refine ⟨fun e => ?_, h2, h3⟩
  obtain ⟨scr, a1, a2, a3⟩ := h1 e
  exact ⟨scr, a1, State.isArrayOf_alike hvm a2, a3⟩
theorem ab_H.moved {D : va_G} {dA : Nat → ClassId} {bs b : Nat} {M : ab_M} {u U : State} {H : Heap} (hvm : u.vm.Alike U.vm) (h : ab_H D dA bs b M u H) : ab_H D dA bs b M U H :=
  ⟨h.1, h.2.1, h.2.2.1, fun k c hk => (h.2.2.2 k c hk).moved hvm⟩
theorem ab_at.kept {D : va_G} {dA : Nat → ClassId} {bs b k : Nat} {c : ab_C} {U : State} {H H1 : Heap} (h : ab_at D dA bs b U k c H) (hb : H1[b]? = H[b]?) (hk : c.1 ≠ 16 → H1[bs + k]? = H[bs + k]?) : ab_at D dA bs b U k c H1 := by
  obtain ⟨h1, h2, h3⟩ := h
  refine ⟨fun e => ?_, fun e => ?_, fun e e2 => ?_⟩
  · obtain ⟨scr, a1, a2⟩ := h1 e
    exact ⟨scr, by rw [hb]; exact a1, a2⟩
  · obtain ⟨r, a1, a2⟩ := h2 e
    exact ⟨r, a1, a2.kept (hk (by omega))⟩
  · rw [hk (by omega)]
    exact h3 e e2
theorem ab_H.pos {D : va_G} {dA : Nat → ClassId} {bs b k : Nat} {M : ab_M} {U : State} {H : Heap} {c : ab_C} (h : ab_H D dA bs b M U H) (hk : M[k]? = some c) (hc : c.1 ≠ 16) : k ≠ 0 := by
  intro e
  subst e
  obtain ⟨xs, hx⟩ := h.2.2.1
  rw [hx] at hk
  cases hk
  exact hc rfl
theorem ab_H.ad {D : va_G} {dA : Nat → ClassId} {bs b k : Nat} {M : ab_M} {U : State} {H : Heap} {c : ab_C} (h : ab_H D dA bs b M U H) (hk : M[k]? = some c) (hc : c.1 ≠ 16) : ab_ad bs b k = bs + k := if_neg (h.pos hk hc)
theorem ab_H.set {D : va_G} {dA : Nat → ClassId} {bs b k : Nat} {M : ab_M} {U : State} {H H1 : Heap} {c c1 : ab_C} (h : ab_H D dA bs b M U H) (hk : M[k]? = some c) (hc : c.1 ≠ 16) (hc1 : c1.1 = c.1) (z : H1.size = H.size) (oq : ∀ q, q ≠ bs + k → H1[q]? = H[q]?) (hat : ab_at D dA bs b U k c1 H1) : ab_H D dA bs b (M.set k c1) U H1 := by
  have hp := h.pos hk hc
  obtain ⟨h1, h2, ⟨xs, h3⟩, h4⟩ := h
  refine ⟨by rw [z, h1, List.length_set], h2, ⟨xs, by rw [List.getElem?_set_ne (by omega)]; exact h3⟩, fun j e hj => ?_⟩
  by_cases hjk : k = j
  · subst hjk
    have hl : k < M.length := (List.getElem?_eq_some_iff.mp hk).1
    rw [List.getElem?_set_self hl] at hj
    cases hj
    exact hat
  · rw [List.getElem?_set_ne hjk] at hj
    exact (h4 j e hj).kept (oq b (by omega)) (fun _ => oq _ (by omega))
theorem ab_H.push {D : va_G} {dA : Nat → ClassId} {bs b : Nat} {M : ab_M} {U : State} {H H1 : Heap} {c1 : ab_C} (h : ab_H D dA bs b M U H) (z : H1.size = H.size + 1) (oq : ∀ q, q < H.size → H1[q]? = H[q]?) (hat : ab_at D dA bs b U M.length c1 H1) : ab_H D dA bs b (M ++ [c1]) U H1 := by
  obtain ⟨h1, h2, ⟨xs, h3⟩, h4⟩ := h
  have hl : 0 < M.length := (List.getElem?_eq_some_iff.mp h3).1
  refine ⟨by rw [z, h1, List.length_append]; rfl, h2, ⟨xs, by rw [List.getElem?_append_left hl]; exact h3⟩, fun j e hj => ?_⟩
  by_cases hjk : j < M.length
  · rw [List.getElem?_append_left hjk] at hj
    exact (h4 j e hj).kept (oq b (by omega)) (fun _ => oq _ (by omega))
  · rw [List.getElem?_append_right (by omega)] at hj
    have hz : j - M.length < 1 := (List.getElem?_eq_some_iff.mp hj).1
    have e0 : j = M.length := by omega
    subst e0
    rw [Nat.sub_self] at hj
    cases hj
    exact hat
/-- the locals -/
def ab_L (bs b : Nat) (arr : Array Slot) (nL : Nat) (ls : List (Option Value)) : Prop := arr.size = nL ∧ lv_wf arr ∧ ∀ (i : Nat) (v : Value), ls[i]? = some (some v) → arr[i]? = some (.val (ab_v bs b v))
def ab_lv (bs b : Nat) (ls : List (Option Value)) : List (Nat × Value) := (List.range ls.length).filterMap (fun i => (ls[i]?).bind (fun o => o.map (fun v => (i, ab_v bs b v))))
theorem ab_lv_mem {bs b : Nat} {ls : List (Option Value)} {q : Nat × Value} : q ∈ ab_lv bs b ls ↔ ∃ v, ls[q.1]? = some (some v) ∧ q.2 = ab_v bs b v := by
  unfold ab_lv
  rw [List.mem_filterMap]
  constructor
  · rintro ⟨i, hi, h⟩
    cases ho : ls[i]? with
    | none => rw [ho] at h; cases h
    | some o =>
      rw [ho] at h
      cases o with
      | none => cases h
      | some v =>
        cases h
        exact ⟨v, ho, rfl⟩
  · rintro ⟨v, h1, h2⟩
    refine ⟨q.1, List.mem_range.mpr (List.getElem?_eq_some_iff.mp h1).1, ?_⟩
    rw [h1]
    show some (q.1, ab_v bs b v) = some q
    rw [← h2]
theorem ab_L.has {bs b : Nat} {arr : Array Slot} {nL : Nat} {ls : List (Option Value)} (h : ab_L bs b arr nL ls) : lv_has arr nL (ab_lv bs b ls) :=
  ⟨h.1, h.2.1, fun q hq => by
    obtain ⟨v, h1, h2⟩ := ab_lv_mem.mp hq
    rw [h.2.2 _ _ h1, h2]⟩
/-- a long that would lose its second half is forgotten -/
def ab_kill (ls : List (Option Value)) (i : Nat) : List (Option Value) := match i with
  | 0 => ls
  | j + 1 => match ls[j]? with
    | some (some v) => if v.category = 2 then ls.set j none else ls
    | _ => ls
def ab_set (ls : List (Option Value)) (i : Nat) (v : Value) : List (Option Value) := (ab_kill ls i).set i (some v)
def ab_set2 (ls : List (Option Value)) (i : Nat) (v : Value) : List (Option Value) := ((ab_kill ls i).set i (some v)).set (i + 1) none
theorem ab_kill_get {ls : List (Option Value)} {i j : Nat} {w : Value} (h : (ab_kill ls i)[j]? = some (some w)) : ls[j]? = some (some w) ∧ (j + 1 = i → w.category ≠ 2) := by
  unfold ab_kill at h
  cases i with
  | zero => exact ⟨h, fun e => by omega⟩
  | succ i =>
    dsimp only at h
    cases ho : ls[i]? with
    | none =>
      rw [ho] at h
      refine ⟨h, fun e => ?_⟩
      have : j = i := by omega
      subst this
      rw [ho] at h
      cases h
    | some o =>
      rw [ho] at h
      cases o with
      | none =>
        refine ⟨h, fun e => ?_⟩
        have : j = i := by omega
        subst this
        rw [ho] at h
        cases h
      | some v =>
        dsimp only at h
        by_cases hc : v.category = 2
        · rw [if_pos hc] at h
          by_cases e : i = j
          · subst e
            have hl : i < ls.length := (List.getElem?_eq_some_iff.mp ho).1
            rw [List.getElem?_set_self hl] at h
            cases h
          · rw [List.getElem?_set_ne e] at h
            exact ⟨h, fun e2 => by omega⟩
        · rw [if_neg hc] at h
          refine ⟨h, fun e => ?_⟩
          have : j = i := by omega
          subst this
          rw [ho] at h
          cases h
          exact hc
theorem ab_L.set {bs b : Nat} {arr' : Array Slot} {nL i : Nat} {ls : List (Option Value)} {v : Value} (h' : lv_has arr' nL ((i, ab_v bs b v) :: (ab_lv bs b ls).filter (fun q => !(q.1 == i) && !(q.1 + 1 == i && q.2.category == 2)))) : ab_L bs b arr' nL (ab_set ls i v) := by
  refine ⟨h'.1, h'.2.1, fun j w hj => ?_⟩
  unfold ab_set at hj
  by_cases e : i = j
  · subst e
    by_cases hl : i < (ab_kill ls i).length
    · rw [List.getElem?_set_self hl] at hj
      cases hj
      exact h'.2.2 _ List.mem_cons_self
    · rw [List.getElem?_eq_none (by rw [List.length_set]; omega)] at hj
      cases hj
  · rw [List.getElem?_set_ne e] at hj
    obtain ⟨h1, h2⟩ := ab_kill_get hj
    refine h'.2.2 (j, ab_v bs b w) (List.mem_cons_of_mem _ (List.mem_filter.mpr ⟨ab_lv_mem.mpr ⟨w, h1, rfl⟩, ?_⟩))
    have e1 : (j == i) = false := by rw [beq_eq_false_iff_ne]; exact fun q => e q.symm
    by_cases e2 : j + 1 = i
    · have := h2 e2
      simp [e1, ab_v_cat, this]
    · simp [e1, e2]
theorem ab_L.set2 {bs b : Nat} {arr' : Array Slot} {nL i : Nat} {ls : List (Option Value)} {v : Value} (h' : lv_has arr' nL ((i, ab_v bs b v) :: (ab_lv bs b ls).filter (fun q => !(q.1 == i) && (!(q.1 == i + 1) && !(q.1 + 1 == i && q.2.category == 2))))) : ab_L bs b arr' nL (ab_set2 ls i v) := by
  refine ⟨h'.1, h'.2.1, fun j w hj => ?_⟩
  unfold ab_set2 at hj
  by_cases e0 : i + 1 = j
  · subst e0
    by_cases hl : i + 1 < ((ab_kill ls i).set i (some v)).length
    · rw [List.getElem?_set_self hl] at hj
      cases hj
    · rw [List.getElem?_eq_none (by rw [List.length_set]; omega)] at hj
      cases hj
  · rw [List.getElem?_set_ne e0] at hj
    by_cases e : i = j
    · subst e
      by_cases hl : i < (ab_kill ls i).length
      · rw [List.getElem?_set_self hl] at hj
        cases hj
        exact h'.2.2 _ List.mem_cons_self
      · rw [List.getElem?_eq_none (by rw [List.length_set]; omega)] at hj
        cases hj
    · rw [List.getElem?_set_ne e] at hj
      obtain ⟨h1, h2⟩ := ab_kill_get hj
      refine h'.2.2 (j, ab_v bs b w) (List.mem_cons_of_mem _ (List.mem_filter.mpr ⟨ab_lv_mem.mpr ⟨w, h1, rfl⟩, ?_⟩))
      have e1 : (j == i) = false := by rw [beq_eq_false_iff_ne]; exact fun q => e q.symm
      have e3 : (j == i + 1) = false := by rw [beq_eq_false_iff_ne]; exact fun q => e0 q.symm
      by_cases e2 : j + 1 = i
      · have := h2 e2
        simp [e1, ab_v_cat, this]
        omega
      · simp [e1, e2]
        omega
/-- the locals at a method's entry -/
def ab_args : List Value → List (Option Value)
  | [] => []
  | v :: vs => if v.category = 2 then some v :: none :: ab_args vs else some v :: ab_args vs
theorem ab_args_in {bs b : Nat} (vs : List Value) : ∀ (i j : Nat) (v : Value), (ab_args vs)[j]? = some (some v) → (i + j, ab_v bs b v) ∈ lv_args i (vs.map (ab_v bs b)) := by
  induction vs with
  | nil => intro i j v h; simp [ab_args] at h
  | cons w ws ih =>
    intro i j v h
    show _ ∈ (i, ab_v bs b w) :: lv_args (if (ab_v bs b w).category = 2 then i + 2 else i + 1) (ws.map (ab_v bs b))
    rw [ab_v_cat]
    unfold ab_args at h
    by_cases hc : w.category = 2
    · rw [if_pos hc] at h ⊢
      match j, h with
      | 0, h => cases h; exact List.mem_cons_self
      | 1, h => cases h
      | j + 2, h =>
        have := ih (i + 2) j v h
        rw [show i + (j + 2) = i + 2 + j by omega]
        exact List.mem_cons_of_mem _ this
    · rw [if_neg hc] at h ⊢
      match j, h with
      | 0, h => cases h; exact List.mem_cons_self
      | j + 1, h =>
        have := ih (i + 1) j v h
        rw [show i + (j + 1) = i + 1 + j by omega]
        exact List.mem_cons_of_mem _ this
theorem ab_args_len (vs : List Value) (bs b : Nat) : (lg_sl (vs.map (ab_v bs b))).length = (ab_args vs).length := by
  induction vs with
  | nil => rfl
  | cons w ws ih =>
    have : lg_sl ((w :: ws).map (ab_v bs b)) = (if w.category = 2 then [Slot.val (ab_v bs b w), .second] else [Slot.val (ab_v bs b w)]) ++ lg_sl (ws.map (ab_v bs b)) := by
      unfold lg_sl
      rw [List.map_cons, List.flatMap_cons, ab_v_cat]
    rw [this, List.length_append, ih]
    have e : ab_args (w :: ws) = if w.category = 2 then some w :: none :: ab_args ws else some w :: ab_args ws := rfl
    rw [e]
    by_cases hc : w.category = 2
    · rw [if_pos hc, if_pos hc]
      simp only [List.length_cons, List.length_nil]
      omega
    · rw [if_neg hc, if_neg hc]
      simp only [List.length_cons, List.length_nil]
      omega
def ab_pad (n : Nat) (l : List (Option Value)) : List (Option Value) := l ++ List.replicate (n - l.length) none
theorem ab_pad_get {n j : Nat} {l : List (Option Value)} {v : Value} (h : (ab_pad n l)[j]? = some (some v)) : l[j]? = some (some v) := by
  unfold ab_pad at h
  by_cases hj : j < l.length
  · rw [List.getElem?_append_left hj] at h
    exact h
  · rw [List.getElem?_append_right (by omega), List.getElem?_replicate] at h
    split at h
    · cases h
    · cases h
/-- what stays along a method -/
def ab_Cx (Y : ab_Y) (d k n tc ts : Nat) (D : va_G) (dA : Nat → ClassId) (bs : Nat) (p : Program) (R : Room) (s : State) (m : MethodId) (args : Array Value) (meth : Method) (c : Code) (cells slots : Nat) : Prop :=
  (p.tables.exec = Jvm.exec ∧ c.code = Y.2.1 ∧ c.maxLocals = Y.2.2.1 ∧ s.vm.findClass Y.1.cls = some m.cls ∧ ∀ w ∈ ab_gw, w.before args s = true) ∧ ab_K D dA s ∧ (d ≤ R.frames ∧ 40 * d ≤ R.locals ∧ cells + k ≤ tc ∧ slots + n ≤ ts ∧ tc ≤ R.cells ∧ ts ≤ R.slots) ∧ bs < s.heap.size ∧ meth.name = Y.1.name
def ab_isret (Y : ab_Y) (r : Option Value) (pc : Nat) : Prop := match r with
  | none => decode Y.2.1 pc = .ok (.return_, 1) ∧ Y.2.2.2 = none
  | some (.int v) => decode Y.2.1 pc = .ok (.ireturn, 1) ∧ ∃ ty, Y.2.2.2 = some ty ∧ narrow ty (.int v) = .int v
  | some (.long _) => decode Y.2.1 pc = .ok (.lreturn, 1) ∧ Y.2.2.2 = some .long
  | _ => False
def ab_Run (Y : ab_Y) (d k n : Nat) (M : ab_M) (pc : Nat) (ls : List (Option Value)) (st : List Value) (Q : ab_M → Option Value → Prop) : Prop :=
  ∀ ⦃p : Program⦄ ⦃l : Launch⦄ ⦃e : Env⦄ ⦃R : Room⦄ ⦃s : State⦄ ⦃m : MethodId⦄ ⦃args : Array Value⦄ ⦃below : List Frame⦄ ⦃meth : Method⦄ ⦃c : Code⦄ ⦃D : va_G⦄ ⦃dA : Nat → ClassId⦄ ⦃bs b tc ts : Nat⦄ ⦃H : Heap⦄ ⦃locs : List Loc⦄ ⦃cells slots : Nat⦄ ⦃arr : Array Slot⦄ ⦃Z : State → Prop⦄,
    ab_Cx Y d k n tc ts D dA bs p R s m args meth c cells slots → ab_H D dA bs b M s H → va_S (fun q => bs < q) s.heap H locs → ab_L bs b arr Y.2.2.1 ls →
    (∀ (M' : ab_M) (r : Option Value) (H' : Heap) (locs' : List Loc) (pc' : Nat) (arr' : Array Slot), ab_isret Y r pc' → ab_H D dA bs b M' s H' → va_S (fun q => bs < q) s.heap H' locs' → Q M' r → W p l e R s m args below meth c H' locs' tc ts Z (F0 m pc' arr' (r.toList.map (ab_v bs b)))) →
    W p l e R s m args below meth c H locs cells slots Z (F0 m pc arr (st.map (ab_v bs b)))
theorem ab_Run.mono {Y : ab_Y} {d k n pc : Nat} {M : ab_M} {ls : List (Option Value)} {st : List Value} {Q Q' : ab_M → Option Value → Prop} (h : ab_Run Y d k n M pc ls st Q) (hq : ∀ M' r, Q M' r → Q' M' r) : ab_Run Y d k n M pc ls st Q' := by
  intro p l e R s m args below meth c D dA bs b tc ts H locs cells slots arr Z hC hH hS hL hr
  exact h hC hH hS hL (fun M' r H' locs' pc' arr' h1 h2 h3 h4 => hr M' r H' locs' pc' arr' h1 h2 h3 (hq _ _ h4))
/-- a method's contract -/
def ab_Pc (D : va_G) (dA : Nat → ClassId) (bs b : Nat) (M : ab_M) (av : List Value) : Array Value → State → Prop := fun v U => v = (av.map (ab_v bs b)).toArray ∧ bs < U.heap.size ∧ ab_K D dA U ∧ ab_H D dA bs b M U U.heap
def ab_Qc (D : va_G) (dA : Nat → ClassId) (bs b : Nat) (Q : ab_M → Option Value → Prop) : Array Value → State → Outcome → State → Prop := fun _ st oc t => (∃ (M' : ab_M) (r : Option Value), oc = .returned (r.map (ab_v bs b)) ∧ Q M' r ∧ ab_H D dA bs b M' t t.heap) ∧ va_F (fun q => bs < q) st t
def ab_rm (d k n : Nat) : Room := { frames := d, cells := k, slots := n, locals := 40 * d }
def ab_Call (Y : ab_Y) (d k n : Nat) (M : ab_M) (av : List Value) (Q : ab_M → Option Value → Prop) : Prop :=
  ∀ (l : Launch) (D : va_G) (dA : Nat → ClassId) (bs b : Nat), Met l Y.1 (ab_wy Y) (ab_rm d k n) (ab_Pc D dA bs b M av) (ab_Qc D dA bs b Q) k n (fun q => bs < q)
theorem ab_Pc.blind {D : va_G} {dA : Nat → ClassId} {bs b : Nat} {M : ab_M} {av : List Value} : FrameBlind (ab_Pc D dA bs b M av) := by
  intro a U g mk h
  obtain ⟨h1, h2, h3, h4⟩ := h
  exact ⟨h1, h2, h3.blind g mk a, h4.moved (Vm.Alike.refl U.vm)⟩
set_option maxHeartbeats 1000000 in
theorem ab_Call.of {Y : ab_Y} {d k n : Nat} {M : ab_M} {av : List Value} {Q : ab_M → Option Value → Prop} (hy : plainName Y.1.cls = true) (hn : (ab_args av).length ≤ Y.2.2.1) (h : ab_Run Y d k n M 0 (ab_pad Y.2.2.1 (ab_args av)) [] Q) : ab_Call Y d k n M av Q := by
  intro l D dA bs b
  refine Met.ofW (cc := Y.2.1) (maxL := Y.2.2.1) (ret := Y.2.2.2) hy rfl ?_
  intro p e s m args below meth c s₁ B hml hv
  obtain ⟨rfl, hbs, hK, hH⟩ := hv
  have hlocks := B.notSynchronized
  have hts := atoms_spec (ws := ab_wy Y) B.pre
  have hown : s.vm.findClass Y.1.cls = some m.cls := findClass_of_methodNamed B.named
  have hnm : meth.name = Y.1.name := (name_of_methodNamed B.named B.method).1
  have hl := lv_entry (av.map (ab_v bs b)) (n := Y.2.2.1) (by rw [ab_args_len]; exact hn)
  rw [lg_entry_eq]
  generalize (lg_sl (av.map (ab_v bs b)) ++ List.replicate (Y.2.2.1 - (lg_sl (av.map (ab_v bs b))).length) Slot.unset).toArray = arr at hl ⊢
  have hL : ab_L bs b arr Y.2.2.1 (ab_pad Y.2.2.1 (ab_args av)) := ⟨hl.1, hl.2.1, fun i v hi => by
    have h1 := ab_args_in (bs := bs) (b := b) av 0 i v (ab_pad_get hi)
    rw [Nat.zero_add] at h1
    exact hl.2.2 _ h1⟩
  have hC : ab_Cx Y d k n k n D dA bs p (headSpec (ab_wy Y) (ab_rm d k n)).room s m (av.map (ab_v bs b)).toArray meth c 0 0 :=
    ⟨⟨B.exec, B.bytes, hml, hown, fun w hw => hts w (List.mem_cons_of_mem _ hw)⟩, hK, ⟨Nat.le_refl _, Nat.le_refl _, by omega, by omega, Nat.le_refl _, Nat.le_refl _⟩, hbs, hnm⟩
  refine h hC hH va_S.rf hL ?_
  intro M' r H' locs' pc' arr' hi hH' hS' hq
  have hfin : ∀ t : State, t.heap = H' → s.WarmedH t.vm → ab_Qc D dA bs b Q (av.map (ab_v bs b)).toArray s (.returned (r.map (ab_v bs b))) t := fun t ht hW =>
    ⟨⟨M', r, rfl, hq, by rw [ht]; exact hH'.moved hW.alike⟩, hS'.F ht⟩
  match r, hi with
  | none, hi =>
    exact W.vret B.exec B.bytes (by rw [B.returns]; exact hi.2) hfin hS'.2.2 hi.1
  | some (.int v), hi =>
    obtain ⟨h1, ty, h2, h3⟩ := hi
    exact W.zret (ty := ty) B.exec B.bytes (by rw [B.returns]; exact h2) h3 hfin hS'.2.2 h1
  | some (.long v), hi =>
    exact W.lret B.exec B.bytes (by rw [B.returns]; exact hi.2) hfin hS'.2.2 hi.1
end
section
theorem ab_iconst {Y : ab_Y} {d k n : Nat} {M : ab_M} {pc : Nat} {ls : List (Option Value)} {st : List Value} {Q : ab_M → Option Value → Prop} {z : Int} (hd : decode Y.2.1 pc = .ok (.iconst z, 1))  (kk : ab_Run Y d k n M (pc + 1) ls (.int (Int32.ofInt z) :: st) Q) : ab_Run Y d k n M pc ls (st) Q := by
  intro p l e R s m args below meth c D dA bs b tc ts H locs cells slots arr Z hC hH hS hL hr
  exact lv_iconst hC.1.1 hC.1.2.1 hd rfl (kk hC hH hS hL hr)
theorem ab_bipush {Y : ab_Y} {d k n : Nat} {M : ab_M} {pc : Nat} {ls : List (Option Value)} {st : List Value} {Q : ab_M → Option Value → Prop} {z : Int} {v : Int32} (hd : decode Y.2.1 pc = .ok (.bipush z, 2)) (hv : (Int8.ofInt z).toInt32 = v) (kk : ab_Run Y d k n M (pc + 2) ls (.int v :: st) Q) : ab_Run Y d k n M pc ls (st) Q := by
  intro p l e R s m args below meth c D dA bs b tc ts H locs cells slots arr Z hC hH hS hL hr
  exact lv_bipush hC.1.1 hC.1.2.1 hd hv (kk hC hH hS hL hr)
theorem ab_sipush {Y : ab_Y} {d k n : Nat} {M : ab_M} {pc : Nat} {ls : List (Option Value)} {st : List Value} {Q : ab_M → Option Value → Prop} {z : Int} {v : Int32} (hd : decode Y.2.1 pc = .ok (.sipush z, 3)) (hv : (Int16.ofInt z).toInt32 = v) (kk : ab_Run Y d k n M (pc + 3) ls (.int v :: st) Q) : ab_Run Y d k n M pc ls (st) Q := by
  intro p l e R s m args below meth c D dA bs b tc ts H locs cells slots arr Z hC hH hS hL hr
  exact lv_sipush hC.1.1 hC.1.2.1 hd hv (kk hC hH hS hL hr)
theorem ab_lconst {Y : ab_Y} {d k n : Nat} {M : ab_M} {pc : Nat} {ls : List (Option Value)} {st : List Value} {Q : ab_M → Option Value → Prop} {z : Fin 2} {v : Int64} (hd : decode Y.2.1 pc = .ok (.lconst z, 1)) (hv : Int64.ofNat (z : Nat) = v) (kk : ab_Run Y d k n M (pc + 1) ls (.long v :: st) Q) : ab_Run Y d k n M pc ls (st) Q := by
  intro p l e R s m args below meth c D dA bs b tc ts H locs cells slots arr Z hC hH hS hL hr
  exact lv_lconst hC.1.1 hC.1.2.1 hd hv (kk hC hH hS hL hr)
theorem ab_iadd {Y : ab_Y} {d k n : Nat} {M : ab_M} {pc : Nat} {ls : List (Option Value)} {st : List Value} {Q : ab_M → Option Value → Prop} {x y : Int32} (hd : decode Y.2.1 pc = .ok (.iadd, 1))  (kk : ab_Run Y d k n M (pc + 1) ls (.int (x + y) :: st) Q) : ab_Run Y d k n M pc ls (.int y :: .int x :: st) Q := by
  intro p l e R s m args below meth c D dA bs b tc ts H locs cells slots arr Z hC hH hS hL hr
  exact lv_iadd hC.1.1 hC.1.2.1 hd  (kk hC hH hS hL hr)
theorem ab_isub {Y : ab_Y} {d k n : Nat} {M : ab_M} {pc : Nat} {ls : List (Option Value)} {st : List Value} {Q : ab_M → Option Value → Prop} {x y : Int32} (hd : decode Y.2.1 pc = .ok (.isub, 1))  (kk : ab_Run Y d k n M (pc + 1) ls (.int (x - y) :: st) Q) : ab_Run Y d k n M pc ls (.int y :: .int x :: st) Q := by
  intro p l e R s m args below meth c D dA bs b tc ts H locs cells slots arr Z hC hH hS hL hr
  exact lv_isub hC.1.1 hC.1.2.1 hd  (kk hC hH hS hL hr)
theorem ab_imul {Y : ab_Y} {d k n : Nat} {M : ab_M} {pc : Nat} {ls : List (Option Value)} {st : List Value} {Q : ab_M → Option Value → Prop} {x y : Int32} (hd : decode Y.2.1 pc = .ok (.imul, 1))  (kk : ab_Run Y d k n M (pc + 1) ls (.int (x * y) :: st) Q) : ab_Run Y d k n M pc ls (.int y :: .int x :: st) Q := by
  intro p l e R s m args below meth c D dA bs b tc ts H locs cells slots arr Z hC hH hS hL hr
  exact lv_imul hC.1.1 hC.1.2.1 hd  (kk hC hH hS hL hr)
theorem ab_iand {Y : ab_Y} {d k n : Nat} {M : ab_M} {pc : Nat} {ls : List (Option Value)} {st : List Value} {Q : ab_M → Option Value → Prop} {x y : Int32} (hd : decode Y.2.1 pc = .ok (.iand, 1))  (kk : ab_Run Y d k n M (pc + 1) ls (.int (x &&& y) :: st) Q) : ab_Run Y d k n M pc ls (.int y :: .int x :: st) Q := by
  intro p l e R s m args below meth c D dA bs b tc ts H locs cells slots arr Z hC hH hS hL hr
  exact lv_iand hC.1.1 hC.1.2.1 hd  (kk hC hH hS hL hr)
theorem ab_ior {Y : ab_Y} {d k n : Nat} {M : ab_M} {pc : Nat} {ls : List (Option Value)} {st : List Value} {Q : ab_M → Option Value → Prop} {x y : Int32} (hd : decode Y.2.1 pc = .ok (.ior, 1))  (kk : ab_Run Y d k n M (pc + 1) ls (.int (x ||| y) :: st) Q) : ab_Run Y d k n M pc ls (.int y :: .int x :: st) Q := by
  intro p l e R s m args below meth c D dA bs b tc ts H locs cells slots arr Z hC hH hS hL hr
  exact lv_ior hC.1.1 hC.1.2.1 hd  (kk hC hH hS hL hr)
theorem ab_ixor {Y : ab_Y} {d k n : Nat} {M : ab_M} {pc : Nat} {ls : List (Option Value)} {st : List Value} {Q : ab_M → Option Value → Prop} {x y : Int32} (hd : decode Y.2.1 pc = .ok (.ixor, 1))  (kk : ab_Run Y d k n M (pc + 1) ls (.int (x ^^^ y) :: st) Q) : ab_Run Y d k n M pc ls (.int y :: .int x :: st) Q := by
  intro p l e R s m args below meth c D dA bs b tc ts H locs cells slots arr Z hC hH hS hL hr
  exact lv_ixor hC.1.1 hC.1.2.1 hd  (kk hC hH hS hL hr)
theorem ab_idiv {Y : ab_Y} {d k n : Nat} {M : ab_M} {pc : Nat} {ls : List (Option Value)} {st : List Value} {Q : ab_M → Option Value → Prop} {x y : Int32} (hd : decode Y.2.1 pc = .ok (.idiv, 1)) (hne : ¬ y = 0) (kk : ab_Run Y d k n M (pc + 1) ls (.int (x / y) :: st) Q) : ab_Run Y d k n M pc ls (.int y :: .int x :: st) Q := by
  intro p l e R s m args below meth c D dA bs b tc ts H locs cells slots arr Z hC hH hS hL hr
  exact lv_idiv hC.1.1 hC.1.2.1 hd hne (kk hC hH hS hL hr)
theorem ab_irem {Y : ab_Y} {d k n : Nat} {M : ab_M} {pc : Nat} {ls : List (Option Value)} {st : List Value} {Q : ab_M → Option Value → Prop} {x y : Int32} (hd : decode Y.2.1 pc = .ok (.irem, 1)) (hne : ¬ y = 0) (kk : ab_Run Y d k n M (pc + 1) ls (.int (x - x / y * y) :: st) Q) : ab_Run Y d k n M pc ls (.int y :: .int x :: st) Q := by
  intro p l e R s m args below meth c D dA bs b tc ts H locs cells slots arr Z hC hH hS hL hr
  exact lv_irem hC.1.1 hC.1.2.1 hd hne (kk hC hH hS hL hr)
theorem ab_ishl {Y : ab_Y} {d k n : Nat} {M : ab_M} {pc : Nat} {ls : List (Option Value)} {st : List Value} {Q : ab_M → Option Value → Prop} {x y : Int32} (hd : decode Y.2.1 pc = .ok (.ishl, 1))  (kk : ab_Run Y d k n M (pc + 1) ls (.int (x <<< (y &&& 31)) :: st) Q) : ab_Run Y d k n M pc ls (.int y :: .int x :: st) Q := by
  intro p l e R s m args below meth c D dA bs b tc ts H locs cells slots arr Z hC hH hS hL hr
  exact lv_ishl hC.1.1 hC.1.2.1 hd  (kk hC hH hS hL hr)
theorem ab_ishr {Y : ab_Y} {d k n : Nat} {M : ab_M} {pc : Nat} {ls : List (Option Value)} {st : List Value} {Q : ab_M → Option Value → Prop} {x y : Int32} (hd : decode Y.2.1 pc = .ok (.ishr, 1))  (kk : ab_Run Y d k n M (pc + 1) ls (.int (x >>> (y &&& 31)) :: st) Q) : ab_Run Y d k n M pc ls (.int y :: .int x :: st) Q := by
  intro p l e R s m args below meth c D dA bs b tc ts H locs cells slots arr Z hC hH hS hL hr
  exact lv_ishr hC.1.1 hC.1.2.1 hd  (kk hC hH hS hL hr)
theorem ab_iushr {Y : ab_Y} {d k n : Nat} {M : ab_M} {pc : Nat} {ls : List (Option Value)} {st : List Value} {Q : ab_M → Option Value → Prop} {x y v : Int32} (hd : decode Y.2.1 pc = .ok (.iushr, 1)) (hv : (x.toUInt32 >>> (y.toUInt32 &&& Int32.toUInt32 31)).toInt32 = v) (kk : ab_Run Y d k n M (pc + 1) ls (.int v :: st) Q) : ab_Run Y d k n M pc ls (.int y :: .int x :: st) Q := by
  intro p l e R s m args below meth c D dA bs b tc ts H locs cells slots arr Z hC hH hS hL hr
  exact lv_iushr hC.1.1 hC.1.2.1 hd hv (kk hC hH hS hL hr)
theorem ab_ladd {Y : ab_Y} {d k n : Nat} {M : ab_M} {pc : Nat} {ls : List (Option Value)} {st : List Value} {Q : ab_M → Option Value → Prop} {x y : Int64} (hd : decode Y.2.1 pc = .ok (.ladd, 1))  (kk : ab_Run Y d k n M (pc + 1) ls (.long (x + y) :: st) Q) : ab_Run Y d k n M pc ls (.long y :: .long x :: st) Q := by
  intro p l e R s m args below meth c D dA bs b tc ts H locs cells slots arr Z hC hH hS hL hr
  exact lv_ladd hC.1.1 hC.1.2.1 hd  (kk hC hH hS hL hr)
theorem ab_lmul {Y : ab_Y} {d k n : Nat} {M : ab_M} {pc : Nat} {ls : List (Option Value)} {st : List Value} {Q : ab_M → Option Value → Prop} {x y : Int64} (hd : decode Y.2.1 pc = .ok (.lmul, 1))  (kk : ab_Run Y d k n M (pc + 1) ls (.long (x * y) :: st) Q) : ab_Run Y d k n M pc ls (.long y :: .long x :: st) Q := by
  intro p l e R s m args below meth c D dA bs b tc ts H locs cells slots arr Z hC hH hS hL hr
  exact lv_lmul hC.1.1 hC.1.2.1 hd  (kk hC hH hS hL hr)
theorem ab_ldiv {Y : ab_Y} {d k n : Nat} {M : ab_M} {pc : Nat} {ls : List (Option Value)} {st : List Value} {Q : ab_M → Option Value → Prop} {x y : Int64} (hd : decode Y.2.1 pc = .ok (.ldiv, 1)) (hne : ¬ y = 0) (kk : ab_Run Y d k n M (pc + 1) ls (.long (x / y) :: st) Q) : ab_Run Y d k n M pc ls (.long y :: .long x :: st) Q := by
  intro p l e R s m args below meth c D dA bs b tc ts H locs cells slots arr Z hC hH hS hL hr
  exact lv_ldiv hC.1.1 hC.1.2.1 hd hne (kk hC hH hS hL hr)
theorem ab_lrem {Y : ab_Y} {d k n : Nat} {M : ab_M} {pc : Nat} {ls : List (Option Value)} {st : List Value} {Q : ab_M → Option Value → Prop} {x y : Int64} (hd : decode Y.2.1 pc = .ok (.lrem, 1)) (hne : ¬ y = 0) (kk : ab_Run Y d k n M (pc + 1) ls (.long (x - x / y * y) :: st) Q) : ab_Run Y d k n M pc ls (.long y :: .long x :: st) Q := by
  intro p l e R s m args below meth c D dA bs b tc ts H locs cells slots arr Z hC hH hS hL hr
  exact lv_lrem hC.1.1 hC.1.2.1 hd hne (kk hC hH hS hL hr)
theorem ab_i2l {Y : ab_Y} {d k n : Nat} {M : ab_M} {pc : Nat} {ls : List (Option Value)} {st : List Value} {Q : ab_M → Option Value → Prop} {x : Int32} {v : Int64} (hd : decode Y.2.1 pc = .ok (.i2l, 1)) (hv : x.toInt64 = v) (kk : ab_Run Y d k n M (pc + 1) ls (.long v :: st) Q) : ab_Run Y d k n M pc ls (.int x :: st) Q := by
  intro p l e R s m args below meth c D dA bs b tc ts H locs cells slots arr Z hC hH hS hL hr
  exact lv_i2l hC.1.1 hC.1.2.1 hd hv (kk hC hH hS hL hr)
theorem ab_l2i {Y : ab_Y} {d k n : Nat} {M : ab_M} {pc : Nat} {ls : List (Option Value)} {st : List Value} {Q : ab_M → Option Value → Prop} {x : Int64} {v : Int32} (hd : decode Y.2.1 pc = .ok (.l2i, 1)) (hv : x.toInt32 = v) (kk : ab_Run Y d k n M (pc + 1) ls (.int v :: st) Q) : ab_Run Y d k n M pc ls (.long x :: st) Q := by
  intro p l e R s m args below meth c D dA bs b tc ts H locs cells slots arr Z hC hH hS hL hr
  exact lv_l2i hC.1.1 hC.1.2.1 hd hv (kk hC hH hS hL hr)
theorem ab_lcmp {Y : ab_Y} {d k n : Nat} {M : ab_M} {pc : Nat} {ls : List (Option Value)} {st : List Value} {Q : ab_M → Option Value → Prop} {x y : Int64} (hd : decode Y.2.1 pc = .ok (.lcmp, 1))  (kk : ab_Run Y d k n M (pc + 1) ls (.int (lg_cmp x y) :: st) Q) : ab_Run Y d k n M pc ls (.long y :: .long x :: st) Q := by
  intro p l e R s m args below meth c D dA bs b tc ts H locs cells slots arr Z hC hH hS hL hr
  exact W.lcmp hC.1.1 hC.1.2.1 hd  (kk hC hH hS hL hr)
theorem ab_dup {Y : ab_Y} {d k n : Nat} {M : ab_M} {pc : Nat} {ls : List (Option Value)} {st : List Value} {Q : ab_M → Option Value → Prop} {v : Value} (hd : decode Y.2.1 pc = .ok (.dup, 1)) (hv : v.category = 1) (kk : ab_Run Y d k n M (pc + 1) ls (v :: v :: st) Q) : ab_Run Y d k n M pc ls (v :: st) Q := by
  intro p l e R s m args below meth c D dA bs b tc ts H locs cells slots arr Z hC hH hS hL hr
  exact lv_dup hC.1.1 hC.1.2.1 hd (by rw [ab_v_cat]; exact hv) (kk hC hH hS hL hr)
theorem ab_pop {Y : ab_Y} {d k n : Nat} {M : ab_M} {pc : Nat} {ls : List (Option Value)} {st : List Value} {Q : ab_M → Option Value → Prop} {v : Value} (hd : decode Y.2.1 pc = .ok (.pop, 1)) (hv : v.category = 1) (kk : ab_Run Y d k n M (pc + 1) ls (st) Q) : ab_Run Y d k n M pc ls (v :: st) Q := by
  intro p l e R s m args below meth c D dA bs b tc ts H locs cells slots arr Z hC hH hS hL hr
  exact lv_pop hC.1.1 hC.1.2.1 hd (by rw [ab_v_cat]; exact hv) (kk hC hH hS hL hr)
theorem ab_dup2 {Y : ab_Y} {d k n : Nat} {M : ab_M} {pc : Nat} {ls : List (Option Value)} {st : List Value} {Q : ab_M → Option Value → Prop} {v w : Value} (hd : decode Y.2.1 pc = .ok (.dup2, 1)) (hv : v.category = 1) (hw : w.category = 1) (kk : ab_Run Y d k n M (pc + 1) ls (v :: w :: v :: w :: st) Q) : ab_Run Y d k n M pc ls (v :: w :: st) Q := by
  intro p l e R s m args below meth c D dA bs b tc ts H locs cells slots arr Z hC hH hS hL hr
  exact lv_dup2_11 hC.1.1 hC.1.2.1 hd (by rw [ab_v_cat]; exact hv) (by rw [ab_v_cat]; exact hw) (kk hC hH hS hL hr)
theorem ab_iload {Y : ab_Y} {d k n : Nat} {M : ab_M} {pc : Nat} {ls : List (Option Value)} {st : List Value} {Q : ab_M → Option Value → Prop} {i : Nat} {x : Int32} (hd : decode Y.2.1 pc = .ok (.iload i, 2)) (hl : ls[i]? = some (some (.int x))) (kk : ab_Run Y d k n M (pc + 2) ls (.int x :: st) Q) : ab_Run Y d k n M pc ls (st) Q := by
  intro p l e R s m args below meth c D dA bs b tc ts H locs cells slots arr Z hC hH hS hL hr
  exact lv_iload hC.1.1 hC.1.2.1 hd (hL.2.2 i _ hl) (kk hC hH hS hL hr)
theorem ab_iload_n {Y : ab_Y} {d k n : Nat} {M : ab_M} {pc : Nat} {ls : List (Option Value)} {st : List Value} {Q : ab_M → Option Value → Prop} {q : Fin 4} {x : Int32} (hd : decode Y.2.1 pc = .ok (.iload_n q, 1)) (hl : ls[(q : Nat)]? = some (some (.int x))) (kk : ab_Run Y d k n M (pc + 1) ls (.int x :: st) Q) : ab_Run Y d k n M pc ls (st) Q := by
  intro p l e R s m args below meth c D dA bs b tc ts H locs cells slots arr Z hC hH hS hL hr
  exact lv_iload_n hC.1.1 hC.1.2.1 hd rfl (hL.2.2 _ _ hl) (kk hC hH hS hL hr)
theorem ab_lload {Y : ab_Y} {d k n : Nat} {M : ab_M} {pc : Nat} {ls : List (Option Value)} {st : List Value} {Q : ab_M → Option Value → Prop} {i : Nat} {x : Int64} (hd : decode Y.2.1 pc = .ok (.lload i, 2)) (hl : ls[i]? = some (some (.long x))) (kk : ab_Run Y d k n M (pc + 2) ls (.long x :: st) Q) : ab_Run Y d k n M pc ls (st) Q := by
  intro p l e R s m args below meth c D dA bs b tc ts H locs cells slots arr Z hC hH hS hL hr
  exact lv_lload hC.1.1 hC.1.2.1 hd (hL.2.2 i _ hl) (kk hC hH hS hL hr)
theorem ab_lload_n {Y : ab_Y} {d k n : Nat} {M : ab_M} {pc : Nat} {ls : List (Option Value)} {st : List Value} {Q : ab_M → Option Value → Prop} {q : Fin 4} {x : Int64} (hd : decode Y.2.1 pc = .ok (.lload_n q, 1)) (hl : ls[(q : Nat)]? = some (some (.long x))) (kk : ab_Run Y d k n M (pc + 1) ls (.long x :: st) Q) : ab_Run Y d k n M pc ls (st) Q := by
  intro p l e R s m args below meth c D dA bs b tc ts H locs cells slots arr Z hC hH hS hL hr
  exact lv_lload_n hC.1.1 hC.1.2.1 hd rfl (hL.2.2 _ _ hl) (kk hC hH hS hL hr)
theorem ab_aload {Y : ab_Y} {d k n : Nat} {M : ab_M} {pc : Nat} {ls : List (Option Value)} {st : List Value} {Q : ab_M → Option Value → Prop} {i x : Nat} (hd : decode Y.2.1 pc = .ok (.aload i, 2)) (hl : ls[i]? = some (some (.ref x))) (kk : ab_Run Y d k n M (pc + 2) ls (.ref x :: st) Q) : ab_Run Y d k n M pc ls (st) Q := by
  intro p l e R s m args below meth c D dA bs b tc ts H locs cells slots arr Z hC hH hS hL hr
  exact lv_aload hC.1.1 hC.1.2.1 hd (hL.2.2 i _ hl) (kk hC hH hS hL hr)
theorem ab_aload_n {Y : ab_Y} {d k n : Nat} {M : ab_M} {pc : Nat} {ls : List (Option Value)} {st : List Value} {Q : ab_M → Option Value → Prop} {q : Fin 4} {x : Nat} (hd : decode Y.2.1 pc = .ok (.aload_n q, 1)) (hl : ls[(q : Nat)]? = some (some (.ref x))) (kk : ab_Run Y d k n M (pc + 1) ls (.ref x :: st) Q) : ab_Run Y d k n M pc ls (st) Q := by
  intro p l e R s m args below meth c D dA bs b tc ts H locs cells slots arr Z hC hH hS hL hr
  exact lv_aload_n hC.1.1 hC.1.2.1 hd rfl (hL.2.2 _ _ hl) (kk hC hH hS hL hr)
theorem ab_istore {Y : ab_Y} {d k n : Nat} {M : ab_M} {pc : Nat} {ls : List (Option Value)} {st : List Value} {Q : ab_M → Option Value → Prop} {i : Nat} {x : Int32} (hd : decode Y.2.1 pc = .ok (.istore i, 2)) (hn : i < Y.2.2.1) (kk : ab_Run Y d k n M (pc + 2) (ab_set ls i (.int x)) st Q) : ab_Run Y d k n M pc ls (.int x :: st) Q := by
  intro p l e R s m args below meth c D dA bs b tc ts H locs cells slots arr Z hC hH hS hL hr
  exact lv_istore hC.1.1 hC.1.2.1 hd  hL.has hn rfl (fun arr' h' => kk hC hH hS (ab_L.set (v := .int x) h') hr)
theorem ab_istore_n {Y : ab_Y} {d k n : Nat} {M : ab_M} {pc : Nat} {ls : List (Option Value)} {st : List Value} {Q : ab_M → Option Value → Prop} {q : Fin 4} {x : Int32} (hd : decode Y.2.1 pc = .ok (.istore_n q, 1)) (hn : (q : Nat) < Y.2.2.1) (kk : ab_Run Y d k n M (pc + 1) (ab_set ls (q : Nat) (.int x)) st Q) : ab_Run Y d k n M pc ls (.int x :: st) Q := by
  intro p l e R s m args below meth c D dA bs b tc ts H locs cells slots arr Z hC hH hS hL hr
  exact lv_istore_n hC.1.1 hC.1.2.1 hd rfl hL.has hn rfl (fun arr' h' => kk hC hH hS (ab_L.set (v := .int x) h') hr)
theorem ab_lstore {Y : ab_Y} {d k n : Nat} {M : ab_M} {pc : Nat} {ls : List (Option Value)} {st : List Value} {Q : ab_M → Option Value → Prop} {i : Nat} {x : Int64} (hd : decode Y.2.1 pc = .ok (.lstore i, 2)) (hn : i + 1 < Y.2.2.1) (kk : ab_Run Y d k n M (pc + 2) (ab_set2 ls i (.long x)) st Q) : ab_Run Y d k n M pc ls (.long x :: st) Q := by
  intro p l e R s m args below meth c D dA bs b tc ts H locs cells slots arr Z hC hH hS hL hr
  exact lv_lstore hC.1.1 hC.1.2.1 hd  hL.has hn rfl (fun arr' h' => kk hC hH hS (ab_L.set2 (v := .long x) h') hr)
theorem ab_lstore_n {Y : ab_Y} {d k n : Nat} {M : ab_M} {pc : Nat} {ls : List (Option Value)} {st : List Value} {Q : ab_M → Option Value → Prop} {q : Fin 4} {x : Int64} (hd : decode Y.2.1 pc = .ok (.lstore_n q, 1)) (hn : (q : Nat) + 1 < Y.2.2.1) (kk : ab_Run Y d k n M (pc + 1) (ab_set2 ls (q : Nat) (.long x)) st Q) : ab_Run Y d k n M pc ls (.long x :: st) Q := by
  intro p l e R s m args below meth c D dA bs b tc ts H locs cells slots arr Z hC hH hS hL hr
  exact lv_lstore_n hC.1.1 hC.1.2.1 hd rfl hL.has hn rfl (fun arr' h' => kk hC hH hS (ab_L.set2 (v := .long x) h') hr)
theorem ab_astore {Y : ab_Y} {d k n : Nat} {M : ab_M} {pc : Nat} {ls : List (Option Value)} {st : List Value} {Q : ab_M → Option Value → Prop} {i : Nat} {x : Nat} (hd : decode Y.2.1 pc = .ok (.astore i, 2)) (hn : i < Y.2.2.1) (kk : ab_Run Y d k n M (pc + 2) (ab_set ls i (.ref x)) st Q) : ab_Run Y d k n M pc ls (.ref x :: st) Q := by
  intro p l e R s m args below meth c D dA bs b tc ts H locs cells slots arr Z hC hH hS hL hr
  exact lv_astore hC.1.1 hC.1.2.1 hd  hL.has hn rfl (fun arr' h' => kk hC hH hS (ab_L.set (v := .ref x) h') hr)
theorem ab_astore_n {Y : ab_Y} {d k n : Nat} {M : ab_M} {pc : Nat} {ls : List (Option Value)} {st : List Value} {Q : ab_M → Option Value → Prop} {q : Fin 4} {x : Nat} (hd : decode Y.2.1 pc = .ok (.astore_n q, 1)) (hn : (q : Nat) < Y.2.2.1) (kk : ab_Run Y d k n M (pc + 1) (ab_set ls (q : Nat) (.ref x)) st Q) : ab_Run Y d k n M pc ls (.ref x :: st) Q := by
  intro p l e R s m args below meth c D dA bs b tc ts H locs cells slots arr Z hC hH hS hL hr
  exact lv_astore_n hC.1.1 hC.1.2.1 hd rfl hL.has hn rfl (fun arr' h' => kk hC hH hS (ab_L.set (v := .ref x) h') hr)
theorem ab_iinc {Y : ab_Y} {d k n : Nat} {M : ab_M} {pc : Nat} {ls : List (Option Value)} {st : List Value} {Q : ab_M → Option Value → Prop} {i : Nat} {z : Int} {x : Int32} (hd : decode Y.2.1 pc = .ok (.iinc i z, 3)) (hl : ls[i]? = some (some (.int x))) (hn : i < Y.2.2.1) (kk : ab_Run Y d k n M (pc + 3) (ab_set ls i (.int (x + Int32.ofInt z))) st Q) : ab_Run Y d k n M pc ls st Q := by
  intro p l e R s m args below meth c D dA bs b tc ts H locs cells slots arr Z hC hH hS hL hr
  obtain ⟨q, hq⟩ := List.getElem?_of_mem (ab_lv_mem (bs := bs) (b := b) (ls := ls) (q := (i, .int x)) |>.mpr ⟨.int x, hl, rfl⟩)
  exact lv_iinc hC.1.1 hC.1.2.1 hd hL.has hq rfl hn rfl (fun arr' h' => kk hC hH hS (ab_L.set (v := .int (x + Int32.ofInt z)) h') hr)
theorem ab_if_eq {Y : ab_Y} {d k n : Nat} {M : ab_M} {pc : Nat} {ls : List (Option Value)} {st : List Value} {Q : ab_M → Option Value → Prop} {x : Int32} {off : Int} {tgt : Nat} (hd : decode Y.2.1 pc = .ok (.ifCond .eq off, 3)) (ht : (pc : Int) + off = (tgt : Int)) (kt : x = 0 → ab_Run Y d k n M tgt ls st Q) (kf : ¬ x = 0 → ab_Run Y d k n M (pc + 3) ls st Q) : ab_Run Y d k n M pc ls (.int x :: st) Q := by
  intro p l e R s m args below meth c D dA bs b tc ts H locs cells slots arr Z hC hH hS hL hr
  exact lv_if_eq hC.1.1 hC.1.2.1 hd ht (fun h => kt h hC hH hS hL hr) (fun h => kf h hC hH hS hL hr)
theorem ab_icmp_eq {Y : ab_Y} {d k n : Nat} {M : ab_M} {pc : Nat} {ls : List (Option Value)} {st : List Value} {Q : ab_M → Option Value → Prop} {x y : Int32} {off : Int} {tgt : Nat} (hd : decode Y.2.1 pc = .ok (.if_icmp .eq off, 3)) (ht : (pc : Int) + off = (tgt : Int)) (kt : x = y → ab_Run Y d k n M tgt ls st Q) (kf : ¬ x = y → ab_Run Y d k n M (pc + 3) ls st Q) : ab_Run Y d k n M pc ls (.int y :: .int x :: st) Q := by
  intro p l e R s m args below meth c D dA bs b tc ts H locs cells slots arr Z hC hH hS hL hr
  exact lv_icmp_eq hC.1.1 hC.1.2.1 hd ht (fun h => kt h hC hH hS hL hr) (fun h => kf h hC hH hS hL hr)
theorem ab_if_ne {Y : ab_Y} {d k n : Nat} {M : ab_M} {pc : Nat} {ls : List (Option Value)} {st : List Value} {Q : ab_M → Option Value → Prop} {x : Int32} {off : Int} {tgt : Nat} (hd : decode Y.2.1 pc = .ok (.ifCond .ne off, 3)) (ht : (pc : Int) + off = (tgt : Int)) (kt : ¬ x = 0 → ab_Run Y d k n M tgt ls st Q) (kf : x = 0 → ab_Run Y d k n M (pc + 3) ls st Q) : ab_Run Y d k n M pc ls (.int x :: st) Q := by
  intro p l e R s m args below meth c D dA bs b tc ts H locs cells slots arr Z hC hH hS hL hr
  exact lv_if_ne hC.1.1 hC.1.2.1 hd ht (fun h => kt h hC hH hS hL hr) (fun h => kf h hC hH hS hL hr)
theorem ab_icmp_ne {Y : ab_Y} {d k n : Nat} {M : ab_M} {pc : Nat} {ls : List (Option Value)} {st : List Value} {Q : ab_M → Option Value → Prop} {x y : Int32} {off : Int} {tgt : Nat} (hd : decode Y.2.1 pc = .ok (.if_icmp .ne off, 3)) (ht : (pc : Int) + off = (tgt : Int)) (kt : ¬ x = y → ab_Run Y d k n M tgt ls st Q) (kf : x = y → ab_Run Y d k n M (pc + 3) ls st Q) : ab_Run Y d k n M pc ls (.int y :: .int x :: st) Q := by
  intro p l e R s m args below meth c D dA bs b tc ts H locs cells slots arr Z hC hH hS hL hr
  exact lv_icmp_ne hC.1.1 hC.1.2.1 hd ht (fun h => kt h hC hH hS hL hr) (fun h => kf h hC hH hS hL hr)
theorem ab_if_lt {Y : ab_Y} {d k n : Nat} {M : ab_M} {pc : Nat} {ls : List (Option Value)} {st : List Value} {Q : ab_M → Option Value → Prop} {x : Int32} {off : Int} {tgt : Nat} (hd : decode Y.2.1 pc = .ok (.ifCond .lt off, 3)) (ht : (pc : Int) + off = (tgt : Int)) (kt : x < 0 → ab_Run Y d k n M tgt ls st Q) (kf : ¬ x < 0 → ab_Run Y d k n M (pc + 3) ls st Q) : ab_Run Y d k n M pc ls (.int x :: st) Q := by
  intro p l e R s m args below meth c D dA bs b tc ts H locs cells slots arr Z hC hH hS hL hr
  exact lv_if_lt hC.1.1 hC.1.2.1 hd ht (fun h => kt h hC hH hS hL hr) (fun h => kf h hC hH hS hL hr)
theorem ab_icmp_lt {Y : ab_Y} {d k n : Nat} {M : ab_M} {pc : Nat} {ls : List (Option Value)} {st : List Value} {Q : ab_M → Option Value → Prop} {x y : Int32} {off : Int} {tgt : Nat} (hd : decode Y.2.1 pc = .ok (.if_icmp .lt off, 3)) (ht : (pc : Int) + off = (tgt : Int)) (kt : x < y → ab_Run Y d k n M tgt ls st Q) (kf : ¬ x < y → ab_Run Y d k n M (pc + 3) ls st Q) : ab_Run Y d k n M pc ls (.int y :: .int x :: st) Q := by
  intro p l e R s m args below meth c D dA bs b tc ts H locs cells slots arr Z hC hH hS hL hr
  exact lv_icmp_lt hC.1.1 hC.1.2.1 hd ht (fun h => kt h hC hH hS hL hr) (fun h => kf h hC hH hS hL hr)
theorem ab_if_ge {Y : ab_Y} {d k n : Nat} {M : ab_M} {pc : Nat} {ls : List (Option Value)} {st : List Value} {Q : ab_M → Option Value → Prop} {x : Int32} {off : Int} {tgt : Nat} (hd : decode Y.2.1 pc = .ok (.ifCond .ge off, 3)) (ht : (pc : Int) + off = (tgt : Int)) (kt : 0 ≤ x → ab_Run Y d k n M tgt ls st Q) (kf : ¬ 0 ≤ x → ab_Run Y d k n M (pc + 3) ls st Q) : ab_Run Y d k n M pc ls (.int x :: st) Q := by
  intro p l e R s m args below meth c D dA bs b tc ts H locs cells slots arr Z hC hH hS hL hr
  exact lv_if_ge hC.1.1 hC.1.2.1 hd ht (fun h => kt h hC hH hS hL hr) (fun h => kf h hC hH hS hL hr)
theorem ab_icmp_ge {Y : ab_Y} {d k n : Nat} {M : ab_M} {pc : Nat} {ls : List (Option Value)} {st : List Value} {Q : ab_M → Option Value → Prop} {x y : Int32} {off : Int} {tgt : Nat} (hd : decode Y.2.1 pc = .ok (.if_icmp .ge off, 3)) (ht : (pc : Int) + off = (tgt : Int)) (kt : y ≤ x → ab_Run Y d k n M tgt ls st Q) (kf : ¬ y ≤ x → ab_Run Y d k n M (pc + 3) ls st Q) : ab_Run Y d k n M pc ls (.int y :: .int x :: st) Q := by
  intro p l e R s m args below meth c D dA bs b tc ts H locs cells slots arr Z hC hH hS hL hr
  exact lv_icmp_ge hC.1.1 hC.1.2.1 hd ht (fun h => kt h hC hH hS hL hr) (fun h => kf h hC hH hS hL hr)
theorem ab_if_gt {Y : ab_Y} {d k n : Nat} {M : ab_M} {pc : Nat} {ls : List (Option Value)} {st : List Value} {Q : ab_M → Option Value → Prop} {x : Int32} {off : Int} {tgt : Nat} (hd : decode Y.2.1 pc = .ok (.ifCond .gt off, 3)) (ht : (pc : Int) + off = (tgt : Int)) (kt : 0 < x → ab_Run Y d k n M tgt ls st Q) (kf : ¬ 0 < x → ab_Run Y d k n M (pc + 3) ls st Q) : ab_Run Y d k n M pc ls (.int x :: st) Q := by
  intro p l e R s m args below meth c D dA bs b tc ts H locs cells slots arr Z hC hH hS hL hr
  exact lv_if_gt hC.1.1 hC.1.2.1 hd ht (fun h => kt h hC hH hS hL hr) (fun h => kf h hC hH hS hL hr)
theorem ab_icmp_gt {Y : ab_Y} {d k n : Nat} {M : ab_M} {pc : Nat} {ls : List (Option Value)} {st : List Value} {Q : ab_M → Option Value → Prop} {x y : Int32} {off : Int} {tgt : Nat} (hd : decode Y.2.1 pc = .ok (.if_icmp .gt off, 3)) (ht : (pc : Int) + off = (tgt : Int)) (kt : y < x → ab_Run Y d k n M tgt ls st Q) (kf : ¬ y < x → ab_Run Y d k n M (pc + 3) ls st Q) : ab_Run Y d k n M pc ls (.int y :: .int x :: st) Q := by
  intro p l e R s m args below meth c D dA bs b tc ts H locs cells slots arr Z hC hH hS hL hr
  exact lv_icmp_gt hC.1.1 hC.1.2.1 hd ht (fun h => kt h hC hH hS hL hr) (fun h => kf h hC hH hS hL hr)
theorem ab_if_le {Y : ab_Y} {d k n : Nat} {M : ab_M} {pc : Nat} {ls : List (Option Value)} {st : List Value} {Q : ab_M → Option Value → Prop} {x : Int32} {off : Int} {tgt : Nat} (hd : decode Y.2.1 pc = .ok (.ifCond .le off, 3)) (ht : (pc : Int) + off = (tgt : Int)) (kt : x ≤ 0 → ab_Run Y d k n M tgt ls st Q) (kf : ¬ x ≤ 0 → ab_Run Y d k n M (pc + 3) ls st Q) : ab_Run Y d k n M pc ls (.int x :: st) Q := by
  intro p l e R s m args below meth c D dA bs b tc ts H locs cells slots arr Z hC hH hS hL hr
  exact lv_if_le hC.1.1 hC.1.2.1 hd ht (fun h => kt h hC hH hS hL hr) (fun h => kf h hC hH hS hL hr)
theorem ab_icmp_le {Y : ab_Y} {d k n : Nat} {M : ab_M} {pc : Nat} {ls : List (Option Value)} {st : List Value} {Q : ab_M → Option Value → Prop} {x y : Int32} {off : Int} {tgt : Nat} (hd : decode Y.2.1 pc = .ok (.if_icmp .le off, 3)) (ht : (pc : Int) + off = (tgt : Int)) (kt : x ≤ y → ab_Run Y d k n M tgt ls st Q) (kf : ¬ x ≤ y → ab_Run Y d k n M (pc + 3) ls st Q) : ab_Run Y d k n M pc ls (.int y :: .int x :: st) Q := by
  intro p l e R s m args below meth c D dA bs b tc ts H locs cells slots arr Z hC hH hS hL hr
  exact lv_icmp_le hC.1.1 hC.1.2.1 hd ht (fun h => kt h hC hH hS hL hr) (fun h => kf h hC hH hS hL hr)
theorem ab_goto {Y : ab_Y} {d k n : Nat} {M : ab_M} {pc : Nat} {ls : List (Option Value)} {st : List Value} {Q : ab_M → Option Value → Prop} {off : Int} {tgt : Nat} (hd : decode Y.2.1 pc = .ok (.goto off, 3)) (ht : (pc : Int) + off = (tgt : Int)) (kk : ab_Run Y d k n M tgt ls st Q) : ab_Run Y d k n M pc ls st Q := by
  intro p l e R s m args below meth c D dA bs b tc ts H locs cells slots arr Z hC hH hS hL hr
  exact lv_goto hC.1.1 hC.1.2.1 hd ht (kk hC hH hS hL hr)
theorem ab_lookup {Y : ab_Y} {d k n : Nat} {M : ab_M} {pc : Nat} {ls : List (Option Value)} {st : List Value} {Q : ab_M → Option Value → Prop} {dflt : Int} {ps : Array (Int × Int)} {len : Nat} {x : Int32} {off : Int} {tgt : Nat} (hd : decode Y.2.1 pc = .ok (.lookupswitch dflt ps, len)) (hp : (ps.toList.zip (ps.toList.drop 1)).all (fun (a, next) => a.1 < next.1) = true) (ho : Op.lookupswitch.offset ps.toList dflt x.toInt = off) (ht : (pc : Int) + off = (tgt : Int)) (kk : ab_Run Y d k n M tgt ls st Q) : ab_Run Y d k n M pc ls (.int x :: st) Q := by
  intro p l e R s m args below meth c D dA bs b tc ts H locs cells slots arr Z hC hH hS hL hr
  exact lv_lookup hC.1.1 hC.1.2.1 hd hp ho ht (kk hC hH hS hL hr)
theorem ab_tableOut {Y : ab_Y} {d k n : Nat} {M : ab_M} {pc : Nat} {ls : List (Option Value)} {st : List Value} {Q : ab_M → Option Value → Prop} {dflt lo hi : Int} {offs : Array Int} {len : Nat} {x : Int32} {tgt : Nat} (hd : decode Y.2.1 pc = .ok (.tableswitch dflt lo hi offs, len)) (h : x.toInt < lo ∨ hi < x.toInt) (ht : (pc : Int) + dflt = (tgt : Int)) (kk : ab_Run Y d k n M tgt ls st Q) : ab_Run Y d k n M pc ls (.int x :: st) Q := by
  intro p l e R s m args below meth c D dA bs b tc ts H locs cells slots arr Z hC hH hS hL hr
  exact lv_tableOut hC.1.1 hC.1.2.1 hd h ht (kk hC hH hS hL hr)
theorem ab_tableIn {Y : ab_Y} {d k n : Nat} {M : ab_M} {pc : Nat} {ls : List (Option Value)} {st : List Value} {Q : ab_M → Option Value → Prop} {dflt lo hi : Int} {offs : Array Int} {len : Nat} {x : Int32} {off : Int} {tgt : Nat} (hd : decode Y.2.1 pc = .ok (.tableswitch dflt lo hi offs, len)) (h1 : ¬ x.toInt < lo) (h2 : ¬ hi < x.toInt) (ho : offs[(x.toInt - lo).toNat]? = some off) (ht : (pc : Int) + off = (tgt : Int)) (kk : ab_Run Y d k n M tgt ls st Q) : ab_Run Y d k n M pc ls (.int x :: st) Q := by
  intro p l e R s m args below meth c D dA bs b tc ts H locs cells slots arr Z hC hH hS hL hr
  exact lv_tableIn hC.1.1 hC.1.2.1 hd h1 h2 ho ht (kk hC hH hS hL hr)
theorem ab_ldc {Y : ab_Y} {d k n : Nat} {M : ab_M} {pc : Nat} {ls : List (Option Value)} {st : List Value} {Q : ab_M → Option Value → Prop} {i : Nat} {v : Int32} (hw : Cond.constant Y.1.cls i v ∈ ab_gw) (hd : decode Y.2.1 pc = .ok (.ldc i, 2)) (kk : ab_Run Y d k n M (pc + 2) ls (.int v :: st) Q) : ab_Run Y d k n M pc ls st Q := by
  intro p l e R s m args below meth c D dA bs b tc ts H locs cells slots arr Z hC hH hS hL hr
  exact lv_ldc hC.1.1 hC.1.2.1 hC.1.2.2.2.1 (hC.1.2.2.2.2 _ hw) hd (kk hC hH hS hL hr)
theorem ab_ldcw {Y : ab_Y} {d k n : Nat} {M : ab_M} {pc : Nat} {ls : List (Option Value)} {st : List Value} {Q : ab_M → Option Value → Prop} {i : Nat} {v : Int32} (hw : Cond.constant Y.1.cls i v ∈ ab_gw) (hd : decode Y.2.1 pc = .ok (.ldc_w i, 3)) (kk : ab_Run Y d k n M (pc + 3) ls (.int v :: st) Q) : ab_Run Y d k n M pc ls st Q := by
  intro p l e R s m args below meth c D dA bs b tc ts H locs cells slots arr Z hC hH hS hL hr
  exact lv_ldcw hC.1.1 hC.1.2.1 hC.1.2.2.2.1 (hC.1.2.2.2.2 _ hw) hd (kk hC hH hS hL hr)
theorem ab_ldc2 {Y : ab_Y} {d k n : Nat} {M : ab_M} {pc : Nat} {ls : List (Option Value)} {st : List Value} {Q : ab_M → Option Value → Prop} {i : Nat} {v : Int64} (hw : Cond.constantLong Y.1.cls i v ∈ ab_gw) (hd : decode Y.2.1 pc = .ok (.ldc2_w i, 3)) (kk : ab_Run Y d k n M (pc + 3) ls (.long v :: st) Q) : ab_Run Y d k n M pc ls st Q := by
  intro p l e R s m args below meth c D dA bs b tc ts H locs cells slots arr Z hC hH hS hL hr
  exact lv_ldc2 hC.1.1 hC.1.2.1 hC.1.2.2.2.1 (hC.1.2.2.2.2 _ hw) hd (kk hC hH hS hL hr)
theorem ab_ireturn {Y : ab_Y} {d k n : Nat} {M : ab_M} {pc : Nat} {ls : List (Option Value)} {st : List Value} {Q : ab_M → Option Value → Prop} {x : Int32} {ty : FieldType} (hd : decode Y.2.1 pc = .ok (.ireturn, 1)) (hy : Y.2.2.2 = some ty) (hn : narrow ty (.int x) = .int x) (hq : Q M (some (.int x))) : ab_Run Y d k n M pc ls [.int x] Q := by
  intro p l e R s m args below meth c D dA bs b tc ts H locs cells slots arr Z hC hH hS hL hr
  exact W.widen (by have := hC.2.2.1; omega) (by have := hC.2.2.1; omega) (hr M (some (.int x)) H locs pc arr ⟨hd, ty, hy, hn⟩ hH hS hq)
theorem ab_lreturn {Y : ab_Y} {d k n : Nat} {M : ab_M} {pc : Nat} {ls : List (Option Value)} {st : List Value} {Q : ab_M → Option Value → Prop} {x : Int64} (hd : decode Y.2.1 pc = .ok (.lreturn, 1)) (hy : Y.2.2.2 = some .long) (hq : Q M (some (.long x))) : ab_Run Y d k n M pc ls [.long x] Q := by
  intro p l e R s m args below meth c D dA bs b tc ts H locs cells slots arr Z hC hH hS hL hr
  exact W.widen (by have := hC.2.2.1; omega) (by have := hC.2.2.1; omega) (hr M (some (.long x)) H locs pc arr ⟨hd, hy⟩ hH hS hq)
theorem ab_return {Y : ab_Y} {d k n : Nat} {M : ab_M} {pc : Nat} {ls : List (Option Value)} {st : List Value} {Q : ab_M → Option Value → Prop} (hd : decode Y.2.1 pc = .ok (.return_, 1)) (hy : Y.2.2.2 = none) (hq : Q M none) : ab_Run Y d k n M pc ls [] Q := by
  intro p l e R s m args below meth c D dA bs b tc ts H locs cells slots arr Z hC hH hS hL hr
  exact W.widen (by have := hC.2.2.1; omega) (by have := hC.2.2.1; omega) (hr M none H locs pc arr ⟨hd, hy⟩ hH hS hq)
end
section
/-! the memory's rules -/
theorem ab_cl0 : ∀ ci : Nat, ∀ q : vw_C, vwCl[ci]? = some q → ci < 10 := fun ci q h => (List.getElem?_eq_some_iff.mp h).1
theorem ab_in {C : String} {T : u_T} {N : Nat} (h : ∀ w ∈ u_ws C T N, w ∈ lw_tbl) : ∀ w ∈ u_ws C T N, w ∈ ab_gw := fun w hw => List.mem_filter.mpr ⟨h w hw, by
  obtain ⟨k, -, rfl⟩ := List.mem_map.mp hw
  unfold u_lay
  split <;> rfl⟩
def ab_ok (q : vw_C) : Prop := (∀ w ∈ u_ws q.1 q.2.1 q.2.2, w ∈ ab_gw) ∧ (∃ ty0 : Nat → FieldType, ∀ k, k < q.2.2 → parseFieldDescriptor (q.2.1 k).2.2.1 = some (ty0 k)) ∧ ∀ a, a < q.2.2 → ∀ b, b < q.2.2 → a ≠ b → (q.2.1 a).2.1 ≠ (q.2.1 b).2.1
theorem ab_cl (ci : Nat) (q : vw_C) (h : vwCl[ci]? = some q) : ab_ok q := by
  have h1 := ab_cl0 ci q h
  match ci, h with
  | 0, h => cases h; exact ⟨ab_in inX0, ⟨tyX0, tyX0_ok⟩, nmX0⟩
  | 1, h => cases h; exact ⟨ab_in inX1, ⟨tyX1, tyX1_ok⟩, nmX1⟩
  | 2, h => cases h; exact ⟨ab_in inX2, ⟨tyX2, tyX2_ok⟩, nmX2⟩
  | 3, h => cases h; exact ⟨ab_in inX3, ⟨tyX3, tyX3_ok⟩, nmX3⟩
  | 4, h => cases h; exact ⟨ab_in inX4, ⟨tyX4, tyX4_ok⟩, nmX4⟩
  | 5, h => cases h; exact ⟨ab_in inX5, ⟨tyX5, tyX5_ok⟩, nmX5⟩
  | 6, h => cases h; exact ⟨ab_in inX6, ⟨tyX6, tyX6_ok⟩, nmX6⟩
  | 7, h => cases h; exact ⟨ab_in inX7, ⟨tyX7, tyX7_ok⟩, nmX7⟩
  | 8, h => cases h; exact ⟨ab_in inX8, ⟨tyX8, tyX8_ok⟩, nmX8⟩
  | 9, h => cases h; exact ⟨ab_in inX9, ⟨tyX9, tyX9_ok⟩, nmX9⟩
  | n + 10, h => omega
def ab_fl (own : String) (idx ci j : Nat) : Prop := ∃ q : vw_C, vwCl[ci]? = some q ∧ j < q.2.2 ∧ Cond.fieldLink own idx (q.2.1 j).1 (q.2.1 j).2.1 (q.2.1 j).2.2.1 ∈ ab_gw
section AbMem
variable {Y : ab_Y} {d k n : Nat} {M : ab_M} {pc : Nat} {ls : List (Option Value)} {st : List Value} {Q : ab_M → Option Value → Prop}
theorem ab_getfield {ci j a idx : Nat} {fs : List Value} {v : Value} (hf : ab_fl Y.1.cls idx ci j) (hd : decode Y.2.1 pc = .ok (.getfield idx, 3)) (hc : M[a]? = some (ci, fs)) (hv : fs[j]? = some v) (kk : ab_Run Y d k n M (pc + 3) ls (v :: st) Q) : ab_Run Y d k n M pc ls (.ref a :: st) Q := by
  intro p l e R s m args below meth c D dA bs b tc ts H locs cells slots arr Z hC hH hS hL hr
  obtain ⟨⟨C, T, N⟩, hq, hj, hw⟩ := hf
  have hci := ab_cl0 _ _ hq
  obtain ⟨r, h1, hob⟩ := (hH.2.2.2 a _ hc).2.1 hci
  have hP : va_P D vwCl [(bs + a, .inr (ci, fs.map (ab_v bs b)))] H := fun k9 q9 h9 => by
    have h0 : k9 < 1 := (List.getElem?_eq_some_iff.mp h9).1
    rw [show k9 = 0 by omega] at h9
    cases h9
    exact ⟨r, h1, hob⟩
  show W p l e R s m args below meth c H locs cells slots Z (F0 m pc arr (.ref (ab_ad bs b a) :: st.map (ab_v bs b)))
  rw [hH.ad hc (by show ci ≠ 16; omega)]
  exact va_get (v := ab_v bs b v) hC.1.1 hC.1.2.1 hC.1.2.2.2.2 (ab_cl ci _ hq).1 hC.1.2.2.2.1 hC.2.1.1 hP 0 rfl hq j hj (hC.1.2.2.2.2 _ hw) (fun _ h9 => h9) (by rw [List.getElem?_map, hv]; rfl) hd (kk hC hH hS hL hr)
/-- a field that is put: of its own class, final or not -/
def ab_fp (own : String) (idx ci j : Nat) (fin : Bool) (ty : FieldType) : Prop := ∃ q : vw_C, vwCl[ci]? = some q ∧ j < q.2.2 ∧ Cond.fieldLink own idx (q.2.1 j).1 (q.2.1 j).2.1 (q.2.1 j).2.2.1 ∈ ab_gw ∧ (q.2.1 j).2.2.2 = fin ∧ parseFieldDescriptor (q.2.1 j).2.2.1 = some ty ∧ (fin = true → (q.2.1 j).1 = own)
theorem ab_putfield {ci j a idx : Nat} {fs : List Value} {v : Value} {ty : FieldType} (hf : ab_fp Y.1.cls idx ci j false ty) (hd : decode Y.2.1 pc = .ok (.putfield idx, 3)) (hc : M[a]? = some (ci, fs)) (hl : j < fs.length) (hn : ∀ bs b, narrow ty (ab_v bs b v) = ab_v bs b v ∧ fits ty (ab_v bs b v) = true) (kk : ab_Run Y d k n (M.set a (ci, fs.set j v)) (pc + 3) ls st Q) : ab_Run Y d k n M pc ls (v :: .ref a :: st) Q := by
  intro p l e R s m args below meth c D dA bs b tc ts H locs cells slots arr Z hC hH hS hL hr
  obtain ⟨⟨C, T, N⟩, hq, hj, hw, hfin, hpd, -⟩ := hf
  have hci := ab_cl0 _ _ hq
  obtain ⟨hin, ⟨ty0, hty⟩, hnm⟩ := ab_cl ci _ hq
  have hts := hC.1.2.2.2.2
  have hap := va_apart (own := Y.1.cls) hts hin ty0 hty hnm hC.2.1.1 hq
  obtain ⟨r, h1, cell, q1, q2, q3, q4⟩ := (hH.2.2.2 a _ hc).2.1 hci
  have hr9 : r = (C, T, N) := Option.some.inj (h1.symm.trans hq)
  subst hr9
  obtain ⟨hS9, hfc, kC, hkC, hkind⟩ := hC.2.1.1.1 ci _ hq
  obtain ⟨cf, kf, fi, f, hi, hsl⟩ := hS9 j hj
  have hlay := hts _ (hin _ (u_in_lay hj))
  unfold u_lay at hlay
  rw [if_neg (by rw [hfin]; decide)] at hlay
  have hst := (u_facts hfc hkC (u_lays hts hin hj) hi).1
  have h6 := u_store hfc hkC hkind hlay hi hpd (hn bs b).1 (hn bs b).2
  show W p l e R s m args below meth c H locs cells slots Z (F0 m pc arr (ab_v bs b v :: .ref (ab_ad bs b a) :: st.map (ab_v bs b)))
  rw [hH.ad hc (by show ci ≠ 16; omega)]
  refine W.putK hC.1.1 hC.1.2.1 (f := f) ⟨hC.1.2.2.2.1, hts _ hw, ⟨_, _, _, hi⟩, hst⟩ (by rw [q2]; exact h6) q1 q3 (by rw [hsl]; exact k2_hasslot (q4 j hj)) rfl rfl hd fun H' e1 e2 e3 => ?_
  rw [hsl] at e1 ⊢
  have hat : ab_at D dA bs b s a (ci, fs.set j v) H' := ⟨fun h => by have h' : ci = 16 := h; omega, fun _ => ⟨_, hq, t_OB.to (V := updV (vp_V (fs.map (ab_v bs b))) j (ab_v bs b v)) ⟨_, e1, q2, q3, t_set q4 hap hj _⟩ (fun i _ => by rw [vp_updV_set (by rw [List.length_map]; exact hl)]; show _ = vp_V ((fs.set j v).map (ab_v bs b)) i; rw [List.map_set])⟩, fun h h2 => by have h' : 10 ≤ ci := h; omega⟩
  have hp := hH.pos hc (by show ci ≠ 16; omega)
  exact kk hC (hH.set hc (by show ci ≠ 16; omega) rfl e2 e3 hat) (hS.put e2 e3 (by omega)) hL hr
theorem ab_putfinal {ci j a idx : Nat} {fs : List Value} {v : Value} {ty : FieldType} (hf : ab_fp Y.1.cls idx ci j true ty) (hin2 : Y.1.name = "<init>") (hd : decode Y.2.1 pc = .ok (.putfield idx, 3)) (hc : M[a]? = some (ci, fs)) (hl : j < fs.length) (hn : ∀ bs b, narrow ty (ab_v bs b v) = ab_v bs b v ∧ fits ty (ab_v bs b v) = true) (kk : ab_Run Y d k n (M.set a (ci, fs.set j v)) (pc + 3) ls st Q) : ab_Run Y d k n M pc ls (v :: .ref a :: st) Q := by
  intro p l e R s m args below meth c D dA bs b tc ts H locs cells slots arr Z hC hH hS hL hr
  obtain ⟨⟨C, T, N⟩, hq, hj, hw, hfin, hpd, hdecl⟩ := hf
  have hdecl := hdecl rfl
  have hci := ab_cl0 _ _ hq
  obtain ⟨hin, ⟨ty0, hty⟩, hnm⟩ := ab_cl ci _ hq
  have hts := hC.1.2.2.2.2
  have hap := va_apart (own := Y.1.cls) hts hin ty0 hty hnm hC.2.1.1 hq
  obtain ⟨r, h1, cell, q1, q2, q3, q4⟩ := (hH.2.2.2 a _ hc).2.1 hci
  have hr9 : r = (C, T, N) := Option.some.inj (h1.symm.trans hq)
  subst hr9
  obtain ⟨hS9, hfc, kC, hkC, hkind⟩ := hC.2.1.1.1 ci _ hq
  obtain ⟨cf, kf, fi, f, hi, hsl⟩ := hS9 j hj
  have hlay := hts _ (hin _ (u_in_lay hj))
  unfold u_lay at hlay
  rw [if_pos hfin] at hlay
  have hst := (u_facts hfc hkC (u_lays hts hin hj) hi).1
  have hcf : m.cls = cf := by
    obtain ⟨_, _, c', _, _, _, -, -, hf', -, -, -, hown2, -⟩ := Cond.laysFinal_spec hlay
    have e1 : c' = cf := by have := hi.symm.trans hf'; simp at this; exact this.1.symm
    rw [hdecl] at hown2
    rw [← e1]; exact Option.some.inj (hC.1.2.2.2.1.symm.trans hown2)
  have h6 := u_fits hfc hkC hkind (Or.inr hlay) hi hpd (hn bs b).1 (hn bs b).2
  show W p l e R s m args below meth c H locs cells slots Z (F0 m pc arr (ab_v bs b v :: .ref (ab_ad bs b a) :: st.map (ab_v bs b)))
  rw [hH.ad hc (by show ci ≠ 16; omega)]
  refine W.putFinK hC.1.1 hC.1.2.1 hC.1.2.2.2.1 (hts _ hw) hi hst hcf (hC.2.2.2.2.trans hin2) (by rw [q2]; exact h6) q1 q3 (by rw [hsl]; exact k2_hasslot (q4 j hj)) rfl rfl hd fun H' e1 e2 e3 => ?_
  rw [hsl] at e1 ⊢
  have hat : ab_at D dA bs b s a (ci, fs.set j v) H' := ⟨fun h => by have h' : ci = 16 := h; omega, fun _ => ⟨_, hq, t_OB.to (V := updV (vp_V (fs.map (ab_v bs b))) j (ab_v bs b v)) ⟨_, e1, q2, q3, t_set q4 hap hj _⟩ (fun i _ => by rw [vp_updV_set (by rw [List.length_map]; exact hl)]; show _ = vp_V ((fs.set j v).map (ab_v bs b)) i; rw [List.map_set])⟩, fun h h2 => by have h' : 10 ≤ ci := h; omega⟩
  have hp := hH.pos hc (by show ci ≠ 16; omega)
  exact kk hC (hH.set hc (by show ci ≠ 16; omega) rfl e2 e3 hat) (hS.put e2 e3 (by omega)) hL hr
theorem ab_getD {vs : List Value} {i : Nat} {v : Value} (h : vs[i]? = some v) : vs.getD i .null = v := by rw [List.getD_eq_getElem?_getD, h]; rfl
theorem ab_arrV_congr {cA : ClassId} {N : Nat} {f g : Nat → Value} (h : ∀ j, j < N → f j = g j) : arrV cA N f = arrV cA N g := by
  unfold arrV
  congr 1
  apply Array.ext
  · simp
  · intro j h1 h2
    simp only [Array.getElem_ofFn]
    exact h j (by simpa using h1)
/-- an index of a row -/
def ab_ix (i : Int32) (N : Nat) (j : Nat) : Prop := ¬ i < 0 ∧ i.toNatClampNeg = j ∧ j < N
theorem ab_iaload {a i : Nat} {x : Int32} {vs : List Value} {v : Value} (hd : decode Y.2.1 pc = .ok (.iaload, 1)) (hc : M[a]? = some (10, vs)) (hi : ab_ix x vs.length i) (hv : vs[i]? = some v) (kk : ab_Run Y d k n M (pc + 1) ls (v :: st) Q) : ab_Run Y d k n M pc ls (.int x :: .ref a :: st) Q := by
  intro p l e R s m args below meth c D dA bs b tc ts H locs cells slots arr Z hC hH hS hL hr
  have h1 := (hH.2.2.2 a _ hc).2.2 (Nat.le_refl 10) (by show 10 < 16; omega)
  show W p l e R s m args below meth c H locs cells slots Z (F0 m pc arr (.int x :: .ref (ab_ad bs b a) :: st.map (ab_v bs b)))
  rw [hH.ad hc (by show 10 ≠ 16; omega)]
  obtain ⟨i1, i2, i3⟩ := hi
  refine W.iald (v := ab_v bs b v) hC.1.1 hC.1.2.1 h1 ((hC.2.1.1.2 0 _ rfl).1 _ _) (fun q => by cases q) ?_ ?_ rfl rfl hd (kk hC hH hS hL hr)
  · rw [arrV_size, i2]
    rintro (h | h)
    · exact i1 h
    · exact absurd i3 (Nat.not_lt.mpr h)
  · rw [i2, arrV_read _ _ i3]
    show some (ab_v bs b (vs.getD i .null)) = _
    rw [ab_getD hv]
theorem ab_sload {i : Nat} {x : Int32} {vs : List Value} {y : Int32} (hd : decode Y.2.1 pc = .ok (.iaload, 1)) (hc : M[0]? = some (16, vs)) (hi : ab_ix x vs.length i) (hv : vs[i]? = some (.int y)) (kk : ab_Run Y d k n M (pc + 1) ls (.int y :: st) Q) : ab_Run Y d k n M pc ls (.int x :: .ref 0 :: st) Q := by
  intro p l e R s m args below meth c D dA bs b tc ts H locs cells slots arr Z hC hH hS hL hr
  obtain ⟨scr, h1, h2, h3, h4, h5⟩ := (hH.2.2.2 0 _ hc).1 rfl
  obtain ⟨i1, i2, i3⟩ := hi
  show W p l e R s m args below meth c H locs cells slots Z (F0 m pc arr (.int x :: .ref b :: st.map (ab_v bs b)))
  refine W.iald (v := .int y) hC.1.1 hC.1.2.1 h1 h2 h3 ?_ ?_ rfl rfl hd (kk hC hH hS hL hr)
  · rw [h4, i2]
    rintro (h | h)
    · exact i1 h
    · exact absurd i3 (Nat.not_lt.mpr h)
  · rw [i2, h5 i i3]
    show some (vs.getD i .null) = _
    rw [ab_getD hv]
theorem ab_slen {vs : List Value} (hd : decode Y.2.1 pc = .ok (.arraylength, 1)) (hc : M[0]? = some (16, vs)) (kk : ab_Run Y d k n M (pc + 1) ls (.int (Int32.ofNat vs.length) :: st) Q) : ab_Run Y d k n M pc ls (.ref 0 :: st) Q := by
  intro p l e R s m args below meth c D dA bs b tc ts H locs cells slots arr Z hC hH hS hL hr
  obtain ⟨scr, h1, h2, h3, h4, h5⟩ := (hH.2.2.2 0 _ hc).1 rfl
  show W p l e R s m args below meth c H locs cells slots Z (F0 m pc arr (.ref b :: st.map (ab_v bs b)))
  exact W.alen (n := Int32.ofNat vs.length) hC.1.1 hC.1.2.1 h1 h2 (by rw [h4] <;> rfl) rfl rfl hd (kk hC hH hS hL hr)
theorem ab_tys_get {dA : Nat → ClassId} {j : Nat} (h : j < 6) : ∃ ty, (ab_tys dA)[j]? = some (dA j, ty) := by
  match j, h with
  | 0, _ => exact ⟨_, rfl⟩
  | 1, _ => exact ⟨_, rfl⟩
  | 2, _ => exact ⟨_, rfl⟩
  | 3, _ => exact ⟨_, rfl⟩
  | 4, _ => exact ⟨_, rfl⟩
  | 5, _ => exact ⟨_, rfl⟩
  | n + 6, h => omega
theorem ab_tys_ref {dA : Nat → ClassId} {j : Nat} (h : 2 ≤ j) (h2 : j < 6) : ∃ ty, (ab_tys dA)[j]? = some (dA j, ty) ∧ ty.isReference = true := by
  match j, h, h2 with
  | 2, _, _ => exact ⟨_, rfl, rfl⟩
  | 3, _, _ => exact ⟨_, rfl, rfl⟩
  | 4, _, _ => exact ⟨_, rfl, rfl⟩
  | 5, _, _ => exact ⟨_, rfl, rfl⟩
  | 0, h, _ => omega
  | 1, h, _ => omega
  | n + 6, _, h => omega
theorem ab_alen {a kd : Nat} {vs : List Value} (hd : decode Y.2.1 pc = .ok (.arraylength, 1)) (hc : M[a]? = some (kd, vs)) (h10 : 10 ≤ kd) (h16 : kd < 16) (kk : ab_Run Y d k n M (pc + 1) ls (.int (Int32.ofNat vs.length) :: st) Q) : ab_Run Y d k n M pc ls (.ref a :: st) Q := by
  intro p l e R s m args below meth c D dA bs b tc ts H locs cells slots arr Z hC hH hS hL hr
  have h1 := (hH.2.2.2 a _ hc).2.2 h10 h16
  show W p l e R s m args below meth c H locs cells slots Z (F0 m pc arr (.ref (ab_ad bs b a) :: st.map (ab_v bs b)))
  rw [hH.ad hc (by show kd ≠ 16; omega)]
  obtain ⟨ty, hty⟩ := ab_tys_get (dA := dA) (j := kd - 10) (by omega)
  exact W.alen (n := Int32.ofNat vs.length) hC.1.1 hC.1.2.1 h1 ((hC.2.1.1.2 _ _ hty).1 _ _) (by rw [arrV_size] <;> rfl) rfl rfl hd (kk hC hH hS hL hr)
theorem ab_aaload {a i kd : Nat} {x : Int32} {vs : List Value} {v : Value} (hd : decode Y.2.1 pc = .ok (.aaload, 1)) (hc : M[a]? = some (kd, vs)) (h12 : 12 ≤ kd) (h16 : kd < 16) (hi : ab_ix x vs.length i) (hv : vs[i]? = some v) (kk : ab_Run Y d k n M (pc + 1) ls (v :: st) Q) : ab_Run Y d k n M pc ls (.int x :: .ref a :: st) Q := by
  intro p l e R s m args below meth c D dA bs b tc ts H locs cells slots arr Z hC hH hS hL hr
  have h1 := (hH.2.2.2 a _ hc).2.2 (by show 10 ≤ kd; omega) h16
  show W p l e R s m args below meth c H locs cells slots Z (F0 m pc arr (.int x :: .ref (ab_ad bs b a) :: st.map (ab_v bs b)))
  rw [hH.ad hc (by show kd ≠ 16; omega)]
  obtain ⟨i1, i2, i3⟩ := hi
  obtain ⟨ty, hty, href⟩ := ab_tys_ref (dA := dA) (j := kd - 10) (by omega) (by omega)
  refine W.aald (v := ab_v bs b v) (ty := ty) hC.1.1 hC.1.2.1 h1 ((hC.2.1.1.2 _ _ hty).1 _ _) href (fun q => by cases q) ?_ ?_ rfl rfl hd (kk hC hH hS hL hr)
  · rw [arrV_size, i2]
    rintro (h | h)
    · exact i1 h
    · exact absurd i3 (Nat.not_lt.mpr h)
  · rw [i2, arrV_read _ _ i3]
    show some (ab_v bs b (vs.getD i .null)) = _
    rw [ab_getD hv]
theorem ab_baload {a i : Nat} {x : Int32} {vs : List Value} {v : Value} (hd : decode Y.2.1 pc = .ok (.baload, 1)) (hc : M[a]? = some (11, vs)) (hi : ab_ix x vs.length i) (hv : vs[i]? = some v) (kk : ab_Run Y d k n M (pc + 1) ls (v :: st) Q) : ab_Run Y d k n M pc ls (.int x :: .ref a :: st) Q := by
  intro p l e R s m args below meth c D dA bs b tc ts H locs cells slots arr Z hC hH hS hL hr
  have h1 := (hH.2.2.2 a _ hc).2.2 (by show 10 ≤ 11; omega) (by show 11 < 16; omega)
  show W p l e R s m args below meth c H locs cells slots Z (F0 m pc arr (.int x :: .ref (ab_ad bs b a) :: st.map (ab_v bs b)))
  rw [hH.ad hc (by show 11 ≠ 16; omega)]
  obtain ⟨i1, i2, i3⟩ := hi
  refine W.zald (v := ab_v bs b v) hC.1.1 hC.1.2.1 h1 ((hC.2.1.1.2 1 _ rfl).1 _ _) (fun q => by cases q) ?_ ?_ rfl rfl hd (kk hC hH hS hL hr)
  · rw [arrV_size, i2]
    rintro (h | h)
    · exact i1 h
    · exact absurd i3 (Nat.not_lt.mpr h)
  · rw [i2, arrV_read _ _ i3]
    show some (ab_v bs b (vs.getD i .null)) = _
    rw [ab_getD hv]
theorem ab_set_at {D : va_G} {dA : Nat → ClassId} {bs b a i kd : Nat} {U : State} {H' : Heap} {vs : List Value} {v : Value} {cA : ClassId} (h10 : 10 ≤ kd) (h16 : kd < 16) (hl : i < vs.length) (hA : cA = dA (kd - 10)) (e1 : H'[bs + a]? = some ((arrV cA vs.length (fun j => ab_v bs b (vs.getD j .null))).setSlot i (ab_v bs b v))) : ab_at D dA bs b U a (kd, vs.set i v) H' := by
  refine ⟨fun h => by have h' : kd = 16 := h; omega, fun h => by have h' : kd < 10 := h; omega, fun _ _ => ?_⟩
  show H'[bs + a]? = some (arrV (dA (kd - 10)) (vs.set i v).length (fun j => ab_v bs b ((vs.set i v).getD j .null)))
  rw [e1, arrV_store, hA, List.length_set]
  refine congrArg some (ab_arrV_congr fun j hj => ?_)
  unfold updV
  rw [List.getD_eq_getElem?_getD, List.getElem?_set]
  by_cases e : j = i
  · subst e
    rw [if_pos rfl, if_pos rfl, if_pos hl]
    rfl
  · rw [if_neg e, if_neg (fun h => e h.symm)]
    show ab_v bs b (vs.getD j .null) = _
    rw [List.getD_eq_getElem?_getD]
theorem ab_iastore {a i : Nat} {x y : Int32} {vs : List Value} (hd : decode Y.2.1 pc = .ok (.iastore, 1)) (hc : M[a]? = some (10, vs)) (hi : ab_ix x vs.length i) (kk : ab_Run Y d k n (M.set a (10, vs.set i (.int y))) (pc + 1) ls st Q) : ab_Run Y d k n M pc ls (.int y :: .int x :: .ref a :: st) Q := by
  intro p l e R s m args below meth c D dA bs b tc ts H locs cells slots arr Z hC hH hS hL hr
  have h1 := (hH.2.2.2 a _ hc).2.2 (Nat.le_refl 10) (by show 10 < 16; omega)
  show W p l e R s m args below meth c H locs cells slots Z (F0 m pc arr (.int y :: .int x :: .ref (ab_ad bs b a) :: st.map (ab_v bs b)))
  rw [hH.ad hc (by show 10 ≠ 16; omega)]
  obtain ⟨i1, i2, i3⟩ := hi
  refine W.iast hC.1.1 hC.1.2.1 h1 ((hC.2.1.1.2 0 _ rfl).1 _ _) (fun q => by cases q) ?_ rfl rfl hd fun H' e1 e2 e3 => ?_
  · rw [arrV_size, i2]
    rintro (h | h)
    · exact i1 h
    · exact absurd i3 (Nat.not_lt.mpr h)
  · rw [i2] at e1
    have hp := hH.pos hc (by show 10 ≠ 16; omega)
    exact kk hC (hH.set hc (by show 10 ≠ 16; omega) rfl e2 e3 (ab_set_at (v := .int y) (Nat.le_refl 10) (by omega) i3 rfl e1)) (hS.put e2 e3 (by omega)) hL hr
theorem ab_bastore {a i : Nat} {x y : Int32} {vs : List Value} (hd : decode Y.2.1 pc = .ok (.bastore, 1)) (hc : M[a]? = some (11, vs)) (hi : ab_ix x vs.length i) (hy : narrow .boolean (.int y) = .int y) (kk : ab_Run Y d k n (M.set a (11, vs.set i (.int y))) (pc + 1) ls st Q) : ab_Run Y d k n M pc ls (.int y :: .int x :: .ref a :: st) Q := by
  intro p l e R s m args below meth c D dA bs b tc ts H locs cells slots arr Z hC hH hS hL hr
  have h1 := (hH.2.2.2 a _ hc).2.2 (by show 10 ≤ 11; omega) (by show 11 < 16; omega)
  show W p l e R s m args below meth c H locs cells slots Z (F0 m pc arr (.int y :: .int x :: .ref (ab_ad bs b a) :: st.map (ab_v bs b)))
  rw [hH.ad hc (by show 11 ≠ 16; omega)]
  obtain ⟨i1, i2, i3⟩ := hi
  refine W.zast hC.1.1 hC.1.2.1 h1 ((hC.2.1.1.2 1 _ rfl).1 _ _) (fun q => by cases q) ?_ rfl rfl hd fun H' e1 e2 e3 => ?_
  · rw [arrV_size, i2]
    rintro (h | h)
    · exact i1 h
    · exact absurd i3 (Nat.not_lt.mpr h)
  · rw [i2, hy] at e1
    have hp := hH.pos hc (by show 11 ≠ 16; omega)
    exact kk hC (hH.set hc (by show 11 ≠ 16; omega) rfl e2 e3 (ab_set_at (v := .int y) (by omega) (by omega) i3 rfl e1)) (hS.put e2 e3 (by omega)) hL hr
end AbMem
end
section
/-! calls -/
/-- the words of a call of an instance method, of a static one, of a constructor -/
def ab_mw (Y2 : ab_Y) (a : Nat) : Prop := Cond.initialized Y2.1.cls ∈ ab_gw ∧ Cond.code Y2.1 Y2.2.1 Y2.2.2.1 Y2.2.2.2 ∈ ab_gw ∧ (Y2.1.cls ≠ "java/lang/invoke/MethodHandle" ∧ Y2.1.cls ≠ "java/lang/invoke/VarHandle" ∧ (parseMethodDescriptor Y2.1.desc).map (fun d => d.parameters.length) = some a) ∧ Y2.2.2.1 ≤ 20
def ab_mv (own : String) (idx : Nat) (Y2 : ab_Y) (a : Nat) : Prop := Cond.methodLink own idx Y2.1 ∈ ab_gw ∧ Cond.instanceMethod Y2.1 ∈ ab_gw ∧ Cond.selects Y2.1.cls Y2.1 Y2.1 ∈ ab_gw ∧ ab_mw Y2 a
def ab_ms (own : String) (idx : Nat) (Y2 : ab_Y) (a : Nat) : Prop := Cond.methodLink own idx Y2.1 ∈ ab_gw ∧ Cond.static Y2.1 ∈ ab_gw ∧ ab_mw Y2 a
def ab_msn (own : String) (idx : Nat) (Y2 : ab_Y) (a : Nat) (host : String) : Prop := Cond.methodLinkNest own idx Y2.1 host ∈ ab_nest ∧ Cond.static Y2.1 ∈ ab_gw ∧ ab_mw Y2 a
def ab_mi (own : String) (idx : Nat) (Y2 : ab_Y) (a : Nat) : Prop := Cond.methodLink own idx Y2.1 ∈ ab_gw ∧ Cond.instanceMethod Y2.1 ∈ ab_gw ∧ Y2.1.name = "<init>" ∧ Y2.2.2.2 = none ∧ ab_mw Y2 a
theorem ab_good {w : Cond} (h : w ∈ ab_gw) : (w.onTables && w.keeps) = true ∨ ∃ ty, w = .arrayClass ty := good_of_word (List.mem_filter.mp h).2
theorem ab_goodIn {ws : List Cond} (h : ∀ w ∈ ws, w ∈ ab_gw) : GoodIn ab_gw ws := fun w hw => ⟨h w hw, ab_good (h w hw)⟩
theorem ab_wy_in {Y2 : ab_Y} {a : Nat} (h : ab_mw Y2 a) : ∀ w ∈ ab_wy Y2, w ∈ ab_gw := fun w hw => by
  rcases List.mem_cons.mp hw with rfl | hw
  · exact h.2.1
  · exact hw
section AbCall
variable {Y : ab_Y} {d k n : Nat} {M : ab_M} {pc : Nat} {ls : List (Option Value)} {st : List Value} {Q : ab_M → Option Value → Prop}
/-- behind a call -/
theorem ab_back {k2 n2 : Nat} {Q2 : ab_M → Option Value → Prop} {st0 : List Value} {a : Array Value}
    {p : Program} {l : Launch} {e : Env} {R : Room} {s : State} {m : MethodId} {args : Array Value} {below : List Frame} {meth : Method} {c : Code} {D : va_G} {dA : Nat → ClassId} {bs b tc ts : Nat} {H : Heap} {locs : List Loc} {cells slots : Nat} {arr : Array Slot} {Z : State → Prop}
    (hr0 : va_Run p l e R s m args below meth c H locs cells slots k2 n2 (F0 m pc arr st0) (st.map (ab_v bs b)) (ab_Qc D dA bs b Q2 a) (fun q => bs < q))
    (kk : ∀ M' r, Q2 M' r → ab_Run Y d k n M' (pc + 3) ls (r.toList ++ st) Q)
    (hC : ab_Cx Y d (k2 + k) (n2 + n) tc ts D dA bs p R s m args meth c cells slots) (hS : va_S (fun q => bs < q) s.heap H locs) (hL : ab_L bs b arr Y.2.2.1 ls)
    (hr : ∀ (M' : ab_M) (r : Option Value) (H' : Heap) (locs' : List Loc) (pc' : Nat) (arr' : Array Slot), ab_isret Y r pc' → ab_H D dA bs b M' s H' → va_S (fun q => bs < q) s.heap H' locs' → Q M' r → W p l e R s m args below meth c H' locs' tc ts Z (F0 m pc' arr' (r.toList.map (ab_v bs b)))) :
    W p l e R s m args below meth c H locs cells slots Z (F0 m pc arr st0) := by
  intro T hT X
  obtain ⟨v, st₀, t, T', L, h0, X', hL9, e1, e2, ⟨⟨M', r, hv, hq, hH'⟩, hz, hk⟩, step⟩ := hr0 T hT X
  cases hv
  rw [h0] at hz hk
  have hH2 : ab_H D dA bs b M' s T'.heap := by
    rw [e1]
    exact hH'.moved (by rw [← e2]; exact X'.warmed.alike.symm)
  have hS2 : va_S (fun q => bs < q) s.heap T'.heap (locs ++ L) := by
    rw [e1]
    refine ⟨Nat.le_trans hS.1 hz, fun q h1 h2 => ?_, fun q hq9 => ?_⟩
    · rw [hk q (Nat.lt_of_lt_of_le h1 hS.1) h2]
      exact hS.2.1 q h1 h2
    · rcases List.mem_append.mp hq9 with h | h
      · exact hS.2.2 q h
      · exact hL9 q h
  have hC2 : ab_Cx Y d k n tc ts D dA bs p R s m args meth c (cells + k2) (slots + n2) := by
    obtain ⟨c1, c2, c3, c4⟩ := hC
    exact ⟨c1, c2, ⟨c3.1, c3.2.1, by omega, by omega, c3.2.2.2.2.1, c3.2.2.2.2.2⟩, c4⟩
  have hW := kk M' r hq hC2 hH2 hS2 hL hr
  have e3 : (r.toList ++ st).map (ab_v bs b) = (r.map (ab_v bs b)).toList ++ st.map (ab_v bs b) := by cases r <;> rfl
  rw [e3] at hW
  obtain ⟨t2, a1, b1⟩ := hW T' rfl X'
  exact ⟨t2, step t2 a1, b1⟩
theorem ab_pre {D : va_G} {dA : Nat → ClassId} {bs b : Nat} {av : List Value} {s : State} {H : Heap} {locs : List Loc} (hK : ab_K D dA s) (hbs : bs < s.heap.size) (hH : ab_H D dA bs b M s H) (hS : va_S (fun q => bs < q) s.heap H locs) : ∀ U : State, U.heap = H → s.WarmedH U.vm → ab_Pc D dA bs b M av (av.map (ab_v bs b)).toArray U := fun U hU hW =>
  ⟨rfl, by rw [hU]; exact Nat.lt_of_lt_of_le hbs hS.1, hK.moved hW, by rw [hU]; exact hH.moved hW.alike⟩
theorem ab_rest {m : MethodId} {pc : Nat} {arr : Array Slot} {st0 : List Value} {bs b : Nat} (h : (st.map fun v => v.category).sum ≤ 8) : 2 * (F0 m pc arr st0).monitorRoom + ((st.map (ab_v bs b)).map fun v => v.category).sum ≤ 8 := by
  refine lv_room (m := m) (pc := pc) (ls := arr) (rest := st0) ?_
  rw [List.map_map]
  have : (fun v : Value => v.category) ∘ ab_v bs b = fun v => v.category := funext fun v => ab_v_cat bs b v
  rw [this]
  exact h
theorem ab_invV {Y2 : ab_Y} {d2 k2 n2 a nA idx ci : Nat} {As fs : List Value} {q : vw_C} {Q2 : ab_M → Option Value → Prop} (hw : ab_mv Y.1.cls idx Y2 nA) (hd : decode Y.2.1 pc = .ok (.invokevirtual idx, 3)) (hc : M[a]? = some (ci, fs)) (hq : vwCl[ci]? = some q) (hqc : q.1 = Y2.1.cls) (hn : As.length = nA) (hst : (st.map fun v => v.category).sum ≤ 8) (hdd : d2 + 1 ≤ d) (hCall : ab_Call Y2 d2 k2 n2 M (.ref a :: As) Q2)
    (kk : ∀ M' r, Q2 M' r → ab_Run Y d k n M' (pc + 3) ls (r.toList ++ st) Q) : ab_Run Y d (k2 + k) (n2 + n) M pc ls (As.reverse ++ .ref a :: st) Q := by
  intro p l e R s m args below meth c D dA bs b tc ts H locs cells slots arr Z hC hH hS hL hr
  obtain ⟨w1, w2, w3, w4⟩ := hw
  have hci := ab_cl0 _ _ hq
  have hts := hC.1.2.2.2.2
  have hb3 := hC.2.2.1
  have hml4 := w4.2.2.2
  rw [show (As.reverse ++ .ref a :: st).map (ab_v bs b) = (As.map (ab_v bs b)).reverse ++ .ref (ab_ad bs b a) :: st.map (ab_v bs b) by simp [ab_v_ref]]
  have hcw : CallW R s args Y.1.cls Y2.1.cls idx Y2.1 Y2.2.1 Y2.2.2.1 Y2.2.2.2 (ab_wy Y2) (ab_rm d2 k2 n2) k2 n2 nA := by
    refine cwV nA hts (ab_goodIn ?_) rfl rfl rfl ⟨rfl, w4.2.2.1⟩ ⟨by show d2 + 1 ≤ _; omega, by show 8 + (Y2.2.2.1 + 11) + 40 * d2 ≤ R.locals; omega⟩
    intro w hw9
    unfold wsV at hw9
    rcases List.mem_append.mp hw9 with h | h
    · simp only [List.mem_cons, List.not_mem_nil, or_false] at h
      rcases h with rfl | rfl | rfl | rfl
      · exact w1
      · exact w2
      · exact w3
      · exact w4.1
    · exact ab_wy_in w4 w h
  have hrun := va_runV (l := l) (e := e) (below := below) (meth := meth) (locs := locs) (cells := cells) (slots := slots) (As := As.map (ab_v bs b)) (rest := st.map (ab_v bs b)) (b := ab_ad bs b a) (H := H)
    (g := F0 m pc arr ((As.map (ab_v bs b)).reverse ++ .ref (ab_ad bs b a) :: st.map (ab_v bs b))) ⟨hC.1.1, hC.1.2.1, hC.1.2.2.1, hC.1.2.2.2.1, hts⟩ (hCall l D dA bs b) hcw
    ⟨ab_Pc.blind, ?_, ab_pre hC.2.1 hC.2.2.2.1 hH hS⟩ rfl (by rw [List.length_map]; exact hn) hL.1 rfl (ab_rest hst) hd ⟨by omega, by omega⟩
  · exact ab_back hrun kk hC hS hL hr
  · obtain ⟨r9, h1, cell, q1, q2, q3, -⟩ := (hH.2.2.2 a _ hc).2.1 hci
    rw [hH.ad hc (by show ci ≠ 16; omega)]
    refine ⟨cell, q1, by rw [q3]; rfl, ?_⟩
    rw [q2, ← hqc]
    exact (hC.2.1.1.1 ci _ hq).2.1
theorem ab_invS {Y2 : ab_Y} {d2 k2 n2 nA idx : Nat} {As : List Value} {Q2 : ab_M → Option Value → Prop} (hw : ab_ms Y.1.cls idx Y2 nA) (hd : decode Y.2.1 pc = .ok (.invokestatic idx, 3)) (hn : As.length = nA) (hst : (st.map fun v => v.category).sum ≤ 8) (hdd : d2 + 1 ≤ d) (hCall : ab_Call Y2 d2 k2 n2 M As Q2)
    (kk : ∀ M' r, Q2 M' r → ab_Run Y d k n M' (pc + 3) ls (r.toList ++ st) Q) : ab_Run Y d (k2 + k) (n2 + n) M pc ls (As.reverse ++ st) Q := by
  intro p l e R s m args below meth c D dA bs b tc ts H locs cells slots arr Z hC hH hS hL hr
  obtain ⟨w1, w2, w4⟩ := hw
  have hts := hC.1.2.2.2.2
  have hb3 := hC.2.2.1
  have hml4 := w4.2.2.2
  rw [show (As.reverse ++ st).map (ab_v bs b) = (As.map (ab_v bs b)).reverse ++ st.map (ab_v bs b) by simp]
  have hcw : CallB R s args Y.1.cls idx Y2.1 Y2.2.1 Y2.2.2.1 Y2.2.2.2 (ab_wy Y2) (ab_rm d2 k2 n2) k2 n2 nA ∧ (Cond.static Y2.1).before args s = true := by
    refine va_cwS nA hts (ab_goodIn ?_) rfl rfl rfl w4.2.2.1 ⟨by show d2 + 1 ≤ _; omega, by show 8 + (Y2.2.2.1 + 11) + 40 * d2 ≤ R.locals; omega⟩
    intro w hw9
    unfold va_wsS at hw9
    rcases List.mem_append.mp hw9 with h | h
    · simp only [List.mem_cons, List.not_mem_nil, or_false] at h
      rcases h with rfl | rfl | rfl
      · exact w1
      · exact w2
      · exact w4.1
    · exact ab_wy_in w4 w h
  have hrun := va_runS (l := l) (e := e) (below := below) (meth := meth) (locs := locs) (cells := cells) (slots := slots) (As := As.map (ab_v bs b)) (rest := st.map (ab_v bs b)) (H := H)
    (g := F0 m pc arr ((As.map (ab_v bs b)).reverse ++ st.map (ab_v bs b))) ⟨hC.1.1, hC.1.2.1, hC.1.2.2.1, hC.1.2.2.2.1, hts⟩ (hCall l D dA bs b) hcw
    ⟨ab_Pc.blind, ab_pre hC.2.1 hC.2.2.2.1 hH hS⟩ rfl (by rw [List.length_map]; exact hn) hL.1 rfl (ab_rest hst) hd ⟨by omega, by omega⟩
  exact ab_back hrun kk hC hS hL hr
theorem ab_invSN {Y2 : ab_Y} {d2 k2 n2 nA idx : Nat} {host : String} {As : List Value} {Q2 : ab_M → Option Value → Prop} (hw : ab_msn Y.1.cls idx Y2 nA host) (hd : decode Y.2.1 pc = .ok (.invokestatic idx, 3)) (hn : As.length = nA) (hst : (st.map fun v => v.category).sum ≤ 8) (hdd : d2 + 1 ≤ d) (hCall : ab_Call Y2 d2 k2 n2 M As Q2)
    (kk : ∀ M' r, Q2 M' r → ab_Run Y d k n M' (pc + 3) ls (r.toList ++ st) Q) : ab_Run Y d (k2 + k) (n2 + n) M pc ls (As.reverse ++ st) Q := by
  intro p l e R s m args below meth c D dA bs b tc ts H locs cells slots arr Z hC hH hS hL hr
  obtain ⟨w1, w2, w4⟩ := hw
  have hts := hC.1.2.2.2.2
  have hb3 := hC.2.2.1
  have hml4 := w4.2.2.2
  rw [show (As.reverse ++ st).map (ab_v bs b) = (As.map (ab_v bs b)).reverse ++ st.map (ab_v bs b) by simp]
  have hcw : va_CN R s args Y.1.cls idx Y2.1 host Y2.2.1 Y2.2.2.1 Y2.2.2.2 (ab_wy Y2) (ab_rm d2 k2 n2) k2 n2 nA ∧ (Cond.static Y2.1).before args s = true ∧ True := by
    refine ⟨va_cnB nA hts (ab_goodIn (ab_wy_in w4)) rfl rfl rfl (hC.2.1.2.1 _ w1) (hts _ w4.1) w4.2.2.1 ⟨by show d2 + 1 ≤ _; omega, by show 8 + (Y2.2.2.1 + 11) + 40 * d2 ≤ R.locals; omega⟩, hts _ w2, trivial⟩
  have hrun := va_runSN (l := l) (e := e) (below := below) (meth := meth) (locs := locs) (cells := cells) (slots := slots) (As := As.map (ab_v bs b)) (rest := st.map (ab_v bs b)) (H := H)
    (g := F0 m pc arr ((As.map (ab_v bs b)).reverse ++ st.map (ab_v bs b))) ⟨hC.1.1, hC.1.2.1, hC.1.2.2.1, hC.1.2.2.2.1, hts⟩ (hCall l D dA bs b) hcw
    ⟨ab_Pc.blind, ab_pre hC.2.1 hC.2.2.2.1 hH hS⟩ rfl (by rw [List.length_map]; exact hn) hL.1 rfl (ab_rest hst) hd ⟨by omega, by omega⟩
  exact ab_back hrun kk hC hS hL hr
theorem ab_invI {Y2 : ab_Y} {d2 k2 n2 a nA idx : Nat} {As : List Value} {Q2 : ab_M → Option Value → Prop} (hw : ab_mi Y.1.cls idx Y2 nA) (hd : decode Y.2.1 pc = .ok (.invokespecial idx, 3)) (hn : As.length = nA) (hst : (st.map fun v => v.category).sum ≤ 8) (hdd : d2 + 1 ≤ d) (hCall : ab_Call Y2 d2 k2 n2 M (.ref a :: As) Q2)
    (kk : ∀ M' r, Q2 M' r → ab_Run Y d k n M' (pc + 3) ls (r.toList ++ st) Q) : ab_Run Y d (k2 + k) (n2 + n) M pc ls (As.reverse ++ .ref a :: st) Q := by
  intro p l e R s m args below meth c D dA bs b tc ts H locs cells slots arr Z hC hH hS hL hr
  obtain ⟨w1, w2, w3, w5, w4⟩ := hw
  have hts := hC.1.2.2.2.2
  have hb3 := hC.2.2.1
  have hml4 := w4.2.2.2
  rw [show (As.reverse ++ .ref a :: st).map (ab_v bs b) = (As.map (ab_v bs b)).reverse ++ .ref (ab_ad bs b a) :: st.map (ab_v bs b) by simp [ab_v_ref]]
  have hcw : CallB R s args Y.1.cls idx Y2.1 Y2.2.1 Y2.2.2.1 none (ab_wy Y2) (ab_rm d2 k2 n2) k2 n2 nA ∧ Y2.1.name = "<init>" ∧ (Cond.instanceMethod Y2.1).before args s = true := by
    refine cwI (ws' := ab_gw) nA hts (ab_goodIn (ab_wy_in w4)) (by unfold ab_wy; rw [w5]) rfl rfl (hts _ w4.1) (hts _ w1) (hts _ w2) w3 w4.2.2.1 ⟨by show d2 + 1 ≤ _; omega, by show 8 + (Y2.2.2.1 + 11) + 40 * d2 ≤ R.locals; omega⟩
  have hrun := va_runI (l := l) (e := e) (below := below) (meth := meth) (locs := locs) (cells := cells) (slots := slots) (As := As.map (ab_v bs b)) (rest := st.map (ab_v bs b)) (b := ab_ad bs b a) (H := H)
    (g := F0 m pc arr ((As.map (ab_v bs b)).reverse ++ .ref (ab_ad bs b a) :: st.map (ab_v bs b))) ⟨hC.1.1, hC.1.2.1, hC.1.2.2.1, hC.1.2.2.2.1, hts⟩ (hCall l D dA bs b) hcw
    ⟨ab_Pc.blind, ab_pre hC.2.1 hC.2.2.2.1 hH hS⟩ rfl (by rw [List.length_map]; exact hn) hL.1 rfl (ab_rest hst) hd ⟨by omega, by omega⟩
  exact ab_back hrun kk hC hS hL hr
theorem ab_objInit {a idx : Nat} (w1 : Cond.methodLink Y.1.cls idx objectInit ∈ ab_gw) (w2 : Cond.instanceMethod objectInit ∈ ab_gw) (w3 : Cond.code objectInit ⟨#[0xb1]⟩ 1 none ∈ ab_gw) (hd : decode Y.2.1 pc = .ok (.invokespecial idx, 3)) (hdd : 1 ≤ d) (hst : (st.map fun v => v.category).sum ≤ 8) (kk : ab_Run Y d k n M (pc + 3) ls st Q) : ab_Run Y d k n M pc ls (.ref a :: st) Q := by
  intro p l e R s m args below meth c D dA bs b tc ts H locs cells slots arr Z hC hH hS hL hr
  have hb3 := hC.2.2.1
  have hts := hC.1.2.2.2.2
  have h8 := ab_rest (st := st) (m := m) (pc := pc) (arr := arr) (st0 := .ref (ab_ad bs b a) :: st.map (ab_v bs b)) (bs := bs) (b := b) hst
  exact W.objInit hC.1.1 hC.1.2.1 hC.1.2.2.2.1 (hts _ w1) (hts _ w2) (hts _ w3) (g := F0 m pc arr (.ref (ab_ad bs b a) :: st.map (ab_v bs b))) rfl (by rw [hC.1.2.2.1]; exact hL.1) rfl hd (by omega) (by omega) (kk hC hH hS hL hr)
end AbCall
end
section
/-! arraycopy, and what makes cells -/
def ab_cpy (us vs : List Value) (sp dp m : Nat) : List Value := (List.range vs.length).map (fun j => if dp ≤ j ∧ j < dp + m then us.getD (sp + (j - dp)) .null else vs.getD j .null)
def ab_i (v : Value) : Int32 := match v with
  | .int x => x
  | _ => 0
def ab_ints (vs : List Value) : Prop := ∀ v ∈ vs, ∃ x : Int32, v = .int x
theorem ab_ints_get {vs : List Value} (h : ab_ints vs) {j : Nat} (hj : j < vs.length) (bs b : Nat) : ab_v bs b (vs.getD j .null) = .int (ab_i (vs.getD j .null)) := by
  rw [List.getD_eq_getElem?_getD, List.getElem?_eq_getElem hj]
  obtain ⟨x, hx⟩ := h _ (List.getElem_mem hj)
  show ab_v bs b vs[j] = .int (ab_i vs[j])
  rw [hx]
  rfl
section AbMake
variable {Y : ab_Y} {d k n : Nat} {M : ab_M} {pc : Nat} {ls : List (Option Value)} {st : List Value} {Q : ab_M → Option Value → Prop}
set_option maxHeartbeats 1000000 in
theorem ab_arraycopy {a0 a idx sn dn mn : Nat} {us vs : List Value} {sp dp mm : Int32} (w1 : Cond.methodLink Y.1.cls idx arraycopyName ∈ ab_gw) (w2 : Cond.native arraycopyName ∈ ab_gw) (w3 : Cond.static arraycopyName ∈ ab_gw) (w4 : Cond.initialized "java/lang/System" ∈ ab_gw) (hd : decode Y.2.1 pc = .ok (.invokestatic idx, 3))
    (hc0 : M[a0]? = some (10, us)) (hc : M[a]? = some (10, vs)) (hus : ab_ints us) (hvs : ab_ints vs) (h1 : ¬ sp < 0) (h2 : ¬ dp < 0) (h3 : ¬ mm < 0) (e1 : sp.toNatClampNeg = sn) (e2 : dp.toNatClampNeg = dn) (e3 : mm.toNatClampNeg = mn) (h4 : sn + mn ≤ us.length) (h5 : dn + mn ≤ vs.length) (hdd : 1 ≤ d) (hst : (st.map fun v => v.category).sum ≤ 8)
    (kk : ab_Run Y d k n (M.set a (10, ab_cpy us vs sn dn mn)) (pc + 3) ls st Q) : ab_Run Y d k n M pc ls (.int mm :: .int dp :: .ref a :: .int sp :: .ref a0 :: st) Q := by
  intro p l e R s m args below meth c D dA bs b tc ts H locs cells slots arr Z hC hH hS hL hr
  subst e1; subst e2; subst e3
  have hb3 := hC.2.2.1
  have hts := hC.1.2.2.2.2
  have h8 := ab_rest (st := st) (m := m) (pc := pc) (arr := arr) (st0 := []) (bs := bs) (b := b) hst
  have g0 := (hH.2.2.2 a0 _ hc0).2.2 (Nat.le_refl 10) (by show 10 < 16; omega)
  have g1 := (hH.2.2.2 a _ hc).2.2 (Nat.le_refl 10) (by show 10 < 16; omega)
  have f0 : H[bs + a0]? = some (vp_cell (dA 0) (us.length, .inl (fun j => ab_i (us.getD j .null)))) := by
    rw [g0, vp_cell_i]
    exact congrArg some (ab_arrV_congr fun j hj => ab_ints_get hus hj bs b)
  have f1 : H[bs + a]? = some (vp_cell (dA 0) (vs.length, .inl (fun j => ab_i (vs.getD j .null)))) := by
    rw [g1, vp_cell_i]
    exact congrArg some (ab_arrV_congr fun j hj => ab_ints_get hvs hj bs b)
  show W p l e R s m args below meth c H locs cells slots Z (F0 m pc arr (.int mm :: .int dp :: .ref (ab_ad bs b a) :: .int sp :: .ref (ab_ad bs b a0) :: st.map (ab_v bs b)))
  rw [hH.ad hc (by show 10 ≠ 16; omega), hH.ad hc0 (by show 10 ≠ 16; omega)]
  have nn : ∀ z : Int32, ¬ z < 0 → z.toInt = (z.toNatClampNeg : Int) := by
    intro z hz
    have hz0 : (0 : Int) ≤ z.toInt := by
      have := Int32.not_lt.mp hz
      simpa using Int32.le_iff_toInt_le.mp this
    show z.toInt = ((z.toInt.toNat : Nat) : Int)
    omega
  intro T hT X
  obtain ⟨-, k0, hk0, cm0, hkk0⟩ := (hC.2.1.1.2 0 _ rfl).1 us.length (fun j => .int (ab_i (us.getD j .null)))
  obtain ⟨-, k1, hk1, cm1, hkk1⟩ := (hC.2.1.1.2 0 _ rfl).1 vs.length (fun j => .int (ab_i (vs.getD j .null)))
  obtain ⟨vm', X', step⟩ := X.arraycopy hC.1.1 hC.1.2.2.2.1 (hts _ w1) (hts _ w2) (hts _ w3) (hts _ w4) (src := bs + a0) (dst := bs + a) (cs := vp_cell (dA 0) (us.length, .inl (fun j => ab_i (us.getD j .null)))) (cd := vp_cell (dA 0) (vs.length, .inl (fun j => ab_i (vs.getD j .null)))) (srcPos := sp) (destPos := dp) (n := mm) (by rw [hT]; exact f0) (by rw [hT]; exact f1)
    (fun _ h => by cases h) (fun _ h => by cases h) (fun h => by cases h) (fun h => by cases h) hk0 hk1 hkk0 hkk1 (by simp [refKind]) h1 h2 h3
    (by rw [nn sp h1, nn mm h3]; show ¬ _ > ((arrV (dA 0) us.length (fun j => .int (ab_i (us.getD j .null)))).slots.size : Int); rw [arrV_size]; omega)
    (by rw [nn dp h2, nn mm h3]; show ¬ _ > ((arrV (dA 0) vs.length (fun j => .int (ab_i (vs.getD j .null)))).slots.size : Int); rw [arrV_size]; omega)
    (fun vm₁ _ i hi => by
      have e : (vp_cell (dA 0) (us.length, .inl (fun j => ab_i (us.getD j .null)))).slots.getD (sp.toNatClampNeg + i) .null = .int (ab_i (us.getD (sp.toNatClampNeg + i) .null)) := by
        show (arrV (dA 0) us.length (fun j => .int (ab_i (us.getD j .null)))).slots.getD _ _ = _
        rw [Array.getD_eq_getD_getElem?, arrV_read _ _ (by omega)]
        rfl
      refine ⟨?_, ?_⟩
      · rw [e]
        rfl
      · rw [e]
        exact trivial)
    (g := F0 m pc arr (.int mm :: .int dp :: .ref (bs + a) :: .int sp :: .ref (bs + a0) :: st.map (ab_v bs b))) rfl (by rw [hC.1.2.2.1]; exact hL.1) (rest := st.map (ab_v bs b)) rfl (by rw [hC.1.2.1]; exact hd) (by omega) (by
      have hnw : nativeFrameWords "java/lang/System" "arraycopy" 5 ≤ 20 := by decide +kernel
      show 2 * 0 + _ + (_ + 11) ≤ _
      have h9 : ((st.map (ab_v bs b)).map fun v => v.category).sum ≤ 8 := by
        have : 2 * (F0 m pc arr []).monitorRoom + ((st.map (ab_v bs b)).map fun v => v.category).sum ≤ 8 := h8
        omega
      omega)
  have e1 : copied (vp_cell (dA 0) (us.length, .inl (fun j => ab_i (us.getD j .null)))) (vp_cell (dA 0) (vs.length, .inl (fun j => ab_i (vs.getD j .null)))) sp dp mm = vp_cell (dA 0) (vs.length, .inl (va_cpy (fun j => ab_i (us.getD j .null)) (fun j => ab_i (vs.getD j .null)) sp.toNatClampNeg dp.toNatClampNeg mm.toNatClampNeg)) := va_copied (fun z => .int z) (dA 0) (dA 0) (fun j => ab_i (us.getD j .null)) (fun j => ab_i (vs.getD j .null)) h4
  rw [e1] at X' step
  have hl : bs + a < H.size := (Array.getElem?_eq_some_iff.mp f1).1
  generalize hcell : vp_cell (dA 0) (vs.length, .inl (va_cpy (fun j => ab_i (us.getD j .null)) (fun j => ab_i (vs.getD j .null)) sp.toNatClampNeg dp.toNatClampNeg mm.toNatClampNeg)) = nc at X' step
  have hheap : ((T.setVm vm').setCell (bs + a) nc).heap = H.setIfInBounds (bs + a) nc := by rw [← hT]; rfl
  have oq : ∀ q : Nat, q ≠ bs + a → (H.setIfInBounds (bs + a) nc)[q]? = H[q]? := fun q hq => by simp [Array.getElem?_setIfInBounds, Ne.symm hq]
  have hz : (H.setIfInBounds (bs + a) nc).size = H.size := by simp
  have hnew : (H.setIfInBounds (bs + a) nc)[bs + a]? = some nc := by simp [Array.getElem?_setIfInBounds, hl]
  have hp := hH.pos hc (by show 10 ≠ 16; omega)
  have hat : ab_at D dA bs b s a (10, ab_cpy us vs sp.toNatClampNeg dp.toNatClampNeg mm.toNatClampNeg) (H.setIfInBounds (bs + a) nc) := by
    refine ⟨fun h => by have h' : (10 : Nat) = 16 := h; omega, fun h => by have h' : (10 : Nat) < 10 := h; omega, fun _ _ => ?_⟩
    rw [hnew, ← hcell, vp_cell_i]
    have hlen : (ab_cpy us vs sp.toNatClampNeg dp.toNatClampNeg mm.toNatClampNeg).length = vs.length := by simp [ab_cpy]
    show _ = some (arrV (dA 0) (ab_cpy us vs sp.toNatClampNeg dp.toNatClampNeg mm.toNatClampNeg).length _)
    rw [hlen]
    refine congrArg some (ab_arrV_congr fun j hj => ?_)
    show _ = ab_v bs b ((ab_cpy us vs sp.toNatClampNeg dp.toNatClampNeg mm.toNatClampNeg).getD j .null)
    have eg : (ab_cpy us vs sp.toNatClampNeg dp.toNatClampNeg mm.toNatClampNeg).getD j .null = if dp.toNatClampNeg ≤ j ∧ j < dp.toNatClampNeg + mm.toNatClampNeg then us.getD (sp.toNatClampNeg + (j - dp.toNatClampNeg)) .null else vs.getD j .null := by
      rw [List.getD_eq_getElem?_getD]
      unfold ab_cpy
      rw [List.getElem?_map, List.getElem?_range hj]
      rfl
    rw [eg]
    unfold va_cpy
    by_cases hcond : dp.toNatClampNeg ≤ j ∧ j < dp.toNatClampNeg + mm.toNatClampNeg
    · rw [if_pos hcond, if_pos hcond]
      exact (ab_ints_get hus (by omega) bs b).symm
    · rw [if_neg hcond, if_neg hcond]
      exact (ab_ints_get hvs hj bs b).symm
  obtain ⟨t, a1, b1⟩ := kk hC (hH.set hc (by show 10 ≠ 16; omega) rfl hz oq hat) (locs := _) ⟨by rw [hz]; exact hS.1, fun q g1 g2 => by
      rw [oq q (fun e => g2 (by rw [e]; show bs < bs + a; omega))]
      exact hS.2.1 q g1 g2, fun q hq => by
      rcases List.mem_append.mp hq with h | h
      · exact hS.2.2 q h
      · obtain ⟨z, -, hz⟩ := List.mem_map.mp h
        rw [← hz]
        show bs < bs + a
        omega⟩ hL hr _ hheap X'
  exact ⟨t, step t a1, b1⟩
theorem ab_grow {bs : Nat} {H0 H H1 : Heap} {locs : List Loc} (hS : va_S (fun q => bs < q) H0 H locs) (z : H.size ≤ H1.size) (oq : ∀ q, q < H.size → H1[q]? = H[q]?) : va_S (fun q => bs < q) H0 H1 locs :=
  ⟨Nat.le_trans hS.1 z, fun q h1 h2 => (oq q (Nat.lt_of_lt_of_le h1 hS.1)).trans (hS.2.1 q h1 h2), hS.2.2⟩
theorem ab_new {ci idx : Nat} {q : vw_C} {fs : List Value} (hq : vwCl[ci]? = some q) (w1 : Cond.classLink Y.1.cls idx q.1 ∈ ab_gw) (w2 : Cond.instantiable q.1 q.2.2 ∈ ab_gw) (w3 : Cond.initialized q.1 ∈ ab_gw) (hd : decode Y.2.1 pc = .ok (.new idx, 3)) (hfs : ∀ (j : Nat) (ty : FieldType), j < q.2.2 → parseFieldDescriptor (q.2.1 j).2.2.1 = some ty → fs[j]? = some (defaultValue ty)) (hnr : ∀ v ∈ fs, ∀ r, v ≠ .ref r) (hf2 : fs.length = q.2.2)
    (kk : ab_Run Y d k n (M ++ [(ci, fs)]) (pc + 3) ls (.ref M.length :: st) Q) : ab_Run Y d (k + 1) (n + q.2.2) M pc ls st Q := by
  intro p l e R s m args below meth c D dA bs b tc ts H locs cells slots arr Z hC hH hS hL hr
  have hb3 := hC.2.2.1
  have hts := hC.1.2.2.2.2
  have hKn := hC.2.1.1.1 ci _ hq
  obtain ⟨hin, ⟨ty0, hty⟩, hnm⟩ := ab_cl ci _ hq
  have hci := ab_cl0 _ _ hq
  refine W.newcK hC.1.1 hC.1.2.1 hC.1.2.2.2.1 (hts _ w1) (hts _ w2) (hts _ w3) (g := F0 m pc arr (st.map (ab_v bs b))) rfl hd (by omega) (by omega) hKn.2.1 rfl fun H1 kC hkC e1 z1 o1 => ?_
  have hl0 : 0 < M.length := by
    obtain ⟨xs, hx⟩ := hH.2.2.1
    exact (List.getElem?_eq_some_iff.mp hx).1
  have hat : ab_at D dA bs b s M.length (ci, fs) H1 := by
    refine ⟨fun h => by have h' : ci = 16 := h; omega, fun _ => ⟨_, hq, ?_⟩, fun h h2 => by have h' : 10 ≤ ci := h; omega⟩
    rw [← hH.1]
    refine (u_born ty0 hts hin hKn hkC e1 hty).to fun j hj => ?_
    have h1 := hfs j _ hj (hty j hj)
    unfold vp_V
    rw [List.getD_eq_getElem?_getD, List.getElem?_map, h1]
    show _ = ab_v bs b (defaultValue (ty0 j))
    have h2 := hnr _ (List.mem_of_getElem? h1)
    generalize defaultValue (ty0 j) = v at h2
    cases v <;> first | rfl | exact absurd rfl (h2 _)
  have hC2 : ab_Cx Y d k n tc ts D dA bs p R s m args meth c (cells + 1) (slots + q.2.2) := by
    obtain ⟨c1, c2, c3, c4⟩ := hC
    exact ⟨c1, c2, ⟨c3.1, c3.2.1, by omega, by omega, c3.2.2.2.2.1, c3.2.2.2.2.2⟩, c4⟩
  have hfin := kk hC2 (hH.push z1 o1 hat) (ab_grow hS (by omega) o1) hL hr
  have e9 : (Value.ref M.length :: st).map (ab_v bs b) = .ref H.size :: st.map (ab_v bs b) := by
    show Value.ref (ab_ad bs b M.length) :: _ = _
    rw [hH.1]
    unfold ab_ad
    rw [if_neg (by omega)]
  rw [e9] at hfin
  exact hfin
theorem ab_newint {a0 N : Nat} {x : Int32} (w1 : Cond.arrayClass .int ∈ ab_gw) (hd : decode Y.2.1 pc = .ok (.newarray .int, 2)) (hx : ¬ x < 0) (hN : x.toNatClampNeg = N) (hsm : N ≤ 100000) (ha : a0 = M.length)
    (kk : ab_Run Y d k n (M ++ [(10, List.replicate N (.int 0))]) (pc + 2) ls (.ref a0 :: st) Q) : ab_Run Y d (k + 1) (n + N) M pc ls (.int x :: st) Q := by
  intro p l e R s m args below meth c D dA bs b tc ts H locs cells slots arr Z hC hH hS hL hr
  subst ha
  have hb3 := hC.2.2.1
  have hts := hC.1.2.2.2.2
  refine va_newaK (atype := .int) hC.1.1 hC.1.2.1 (hts _ w1) (g := F0 m pc arr (.int x :: st.map (ab_v bs b))) rfl hd rfl hx hN (by show N * 4 ≤ 536870912; omega) (by omega) (by omega) rfl fun H1 cA e1 z1 o1 hAr hNm => ?_
  have hl0 : 0 < M.length := by
    obtain ⟨xs, hx⟩ := hH.2.2.1
    exact (List.getElem?_eq_some_iff.mp hx).1
  have hcA : cA = dA 0 := Option.some.inj (hNm.symm.trans (hC.2.1.1.2 0 _ rfl).2)
  have hat : ab_at D dA bs b s M.length (10, List.replicate N (.int 0)) H1 := by
    refine ⟨fun h => by have h' : (10 : Nat) = 16 := h; omega, fun h => by have h' : (10 : Nat) < 10 := h; omega, fun _ _ => ?_⟩
    rw [← hH.1, e1, hcA]
    show _ = some (arrV (dA 0) (List.replicate N (Value.int 0)).length _)
    rw [List.length_replicate]
    refine congrArg some (ab_arrV_congr fun j hj => ?_)
    show _ = ab_v bs b ((List.replicate N (Value.int 0)).getD j .null)
    rw [List.getD_eq_getElem?_getD, List.getElem?_replicate, if_pos hj]
    rfl
  have hC2 : ab_Cx Y d k n tc ts D dA bs p R s m args meth c (cells + 1) (slots + N) := by
    obtain ⟨c1, c2, c3, c4⟩ := hC
    exact ⟨c1, c2, ⟨c3.1, c3.2.1, by omega, by omega, c3.2.2.2.2.1, c3.2.2.2.2.2⟩, c4⟩
  have hfin := kk hC2 (hH.push z1 o1 hat) (ab_grow hS (by omega) o1) hL hr
  have e9 : (Value.ref M.length :: st).map (ab_v bs b) = .ref H.size :: st.map (ab_v bs b) := by
    show Value.ref (ab_ad bs b M.length) :: _ = _
    rw [hH.1]
    unfold ab_ad
    rw [if_neg (by omega)]
  rw [e9] at hfin
  exact hfin
theorem ab_newbool {a0 N : Nat} {x : Int32} (w1 : Cond.arrayClass .boolean ∈ ab_gw) (hd : decode Y.2.1 pc = .ok (.newarray .boolean, 2)) (hx : ¬ x < 0) (hN : x.toNatClampNeg = N) (hsm : N ≤ 100000) (ha : a0 = M.length)
    (kk : ab_Run Y d k n (M ++ [(11, List.replicate N (.int 0))]) (pc + 2) ls (.ref a0 :: st) Q) : ab_Run Y d (k + 1) (n + N) M pc ls (.int x :: st) Q := by
  intro p l e R s m args below meth c D dA bs b tc ts H locs cells slots arr Z hC hH hS hL hr
  subst ha
  have hb3 := hC.2.2.1
  have hts := hC.1.2.2.2.2
  refine va_newaK (atype := .boolean) hC.1.1 hC.1.2.1 (hts _ w1) (g := F0 m pc arr (.int x :: st.map (ab_v bs b))) rfl hd rfl hx hN (by show N * 1 ≤ 536870912; omega) (by omega) (by omega) rfl fun H1 cA e1 z1 o1 hAr hNm => ?_
  have hl0 : 0 < M.length := by
    obtain ⟨xs, hx⟩ := hH.2.2.1
    exact (List.getElem?_eq_some_iff.mp hx).1
  have hcA : cA = dA 1 := Option.some.inj (hNm.symm.trans (hC.2.1.1.2 1 _ rfl).2)
  have hat : ab_at D dA bs b s M.length (11, List.replicate N (.int 0)) H1 := by
    refine ⟨fun h => by have h' : (11 : Nat) = 16 := h; omega, fun h => by have h' : (11 : Nat) < 10 := h; omega, fun _ _ => ?_⟩
    rw [← hH.1, e1, hcA]
    show _ = some (arrV (dA 1) (List.replicate N (Value.int 0)).length _)
    rw [List.length_replicate]
    refine congrArg some (ab_arrV_congr fun j hj => ?_)
    show _ = ab_v bs b ((List.replicate N (Value.int 0)).getD j .null)
    rw [List.getD_eq_getElem?_getD, List.getElem?_replicate, if_pos hj]
    rfl
  have hC2 : ab_Cx Y d k n tc ts D dA bs p R s m args meth c (cells + 1) (slots + N) := by
    obtain ⟨c1, c2, c3, c4⟩ := hC
    exact ⟨c1, c2, ⟨c3.1, c3.2.1, by omega, by omega, c3.2.2.2.2.1, c3.2.2.2.2.2⟩, c4⟩
  have hfin := kk hC2 (hH.push z1 o1 hat) (ab_grow hS (by omega) o1) hL hr
  have e9 : (Value.ref M.length :: st).map (ab_v bs b) = .ref H.size :: st.map (ab_v bs b) := by
    show Value.ref (ab_ad bs b M.length) :: _ = _
    rw [hH.1]
    unfold ab_ad
    rw [if_neg (by omega)]
  rw [e9] at hfin
  exact hfin
end AbMake
end
section
/-! arrays of references -/
def ab_cn (kd : Nat) : String := if kd = 12 then RX5 else if kd = 13 then RX6 else RX0
section AbMake2
variable {Y : ab_Y} {d k n : Nat} {M : ab_M} {pc : Nat} {ls : List (Option Value)} {st : List Value} {Q : ab_M → Option Value → Prop}
theorem ab_tys_obj {dA : Nat → ClassId} {kd : Nat} (h : 12 ≤ kd) (h2 : kd < 15) : (ab_tys dA)[kd - 10]? = some (dA (kd - 10), .object (ab_cn kd)) := by
  match kd, h, h2 with
  | 12, _, _ => rfl
  | 13, _, _ => rfl
  | 14, _, _ => rfl
  | n + 15, _, h => omega
theorem ab_AO_of {D : va_G} {dA : Nat → ClassId} {U : State} {kd : Nat} (h : 12 ≤ kd) (h2 : kd < 15) (hK : ab_K D dA U) : va_AO (ab_cn kd) U := by
  match kd, h, h2 with
  | 12, _, _ => exact hK.2.2.1
  | 13, _, _ => exact hK.2.2.2.1
  | 14, _, _ => exact hK.2.2.2.2.1
  | n + 15, _, h => omega
theorem ab_newref {a0 N idx kd : Nat} {x : Int32} (h12 : 12 ≤ kd) (h15 : kd < 15) (w1 : Cond.classLink Y.1.cls idx (ab_cn kd) ∈ ab_gw) (hd : decode Y.2.1 pc = .ok (.anewarray idx, 3)) (hx : ¬ x < 0) (hN : x.toNatClampNeg = N) (hsm : N ≤ 100000) (ha : a0 = M.length)
    (kk : ab_Run Y d k n (M ++ [(kd, List.replicate N .null)]) (pc + 3) ls (.ref a0 :: st) Q) : ab_Run Y d (k + 1) (n + N) M pc ls (.int x :: st) Q := by
  intro p l e R s m args below meth c D dA bs b tc ts H locs cells slots arr Z hC hH hS hL hr
  subst ha
  subst hN
  have hb3 := hC.2.2.1
  have hts := hC.1.2.2.2.2
  refine W.anew hC.1.1 hC.1.2.1 hC.1.2.2.2.1 (hts _ w1) (va_AO.use (ab_AO_of h12 h15 hC.2.1)) (g := F0 m pc arr (.int x :: st.map (ab_v bs b))) rfl hd rfl hx (by omega) (by omega) (by omega) fun cA kA comp f1 f2 f3 f4 => ?_
  have hl0 : 0 < M.length := by
    obtain ⟨xs, hx⟩ := hH.2.2.1
    exact (List.getElem?_eq_some_iff.mp hx).1
  generalize hH1 : H.push ({ cls := cA, slots := Array.replicate x.toNatClampNeg .null, vm := .none } : Cell) = H1
  have z1 : H1.size = H.size + 1 := by rw [← hH1, Array.size_push]
  have e1 : H1[H.size]? = some (arrV cA x.toNatClampNeg (fun _ => .null)) := by rw [← hH1, Array.getElem?_push_size, ← arrV_new]
  have o1 : ∀ q : Nat, q < H.size → H1[q]? = H[q]? := fun q hq => by rw [← hH1, Array.getElem?_push, if_neg (Nat.ne_of_lt hq)]
  have hcA : cA = dA (kd - 10) := by
    obtain ⟨_, _, _, _, _, h4⟩ := (hC.2.1.1.2 _ _ (ab_tys_obj h12 h15)).2
    exact Option.some.inj (f1.symm.trans h4)
  have hat : ab_at D dA bs b s M.length (kd, List.replicate x.toNatClampNeg .null) H1 := by
    refine ⟨fun h => by have h' : kd = 16 := h; omega, fun h => by have h' : kd < 10 := h; omega, fun _ _ => ?_⟩
    rw [← hH.1, e1, hcA]
    show _ = some (arrV (dA (kd - 10)) (List.replicate x.toNatClampNeg Value.null).length _)
    rw [List.length_replicate]
    refine congrArg some (ab_arrV_congr fun j hj => ?_)
    show _ = ab_v bs b ((List.replicate x.toNatClampNeg Value.null).getD j .null)
    rw [List.getD_eq_getElem?_getD, List.getElem?_replicate, if_pos hj]
    rfl
  have hC2 : ab_Cx Y d k n tc ts D dA bs p R s m args meth c (cells + 1) (slots + x.toNatClampNeg) := by
    obtain ⟨c1, c2, c3, c4⟩ := hC
    exact ⟨c1, c2, ⟨c3.1, c3.2.1, by omega, by omega, c3.2.2.2.2.1, c3.2.2.2.2.2⟩, c4⟩
  have hfin := kk hC2 (hH.push z1 o1 hat) (ab_grow hS (by omega) o1) hL hr
  have e9 : (Value.ref M.length :: st).map (ab_v bs b) = .ref H.size :: st.map (ab_v bs b) := by
    show Value.ref (ab_ad bs b M.length) :: _ = _
    rw [hH.1]
    unfold ab_ad
    rw [if_neg (by omega)]
  rw [e9] at hfin
  exact hfin
theorem ab_aastore {a i v kd ci : Nat} {x : Int32} {vs fs : List Value} {q : vw_C} (h12 : 12 ≤ kd) (h15 : kd < 15) (hd : decode Y.2.1 pc = .ok (.aastore, 1)) (hc : M[a]? = some (kd, vs)) (hi : ab_ix x vs.length i) (hcv : M[v]? = some (ci, fs)) (hq : vwCl[ci]? = some q) (hqc : q.1 = ab_cn kd) (kk : ab_Run Y d k n (M.set a (kd, vs.set i (.ref v))) (pc + 1) ls st Q) : ab_Run Y d k n M pc ls (.ref v :: .int x :: .ref a :: st) Q := by
  intro p l e R s m args below meth c D dA bs b tc ts H locs cells slots arr Z hC hH hS hL hr
  have hci := ab_cl0 _ _ hq
  have h1 := (hH.2.2.2 a _ hc).2.2 (by show 10 ≤ kd; omega) (by show kd < 16; omega)
  obtain ⟨r9, hr9, cellV, g1, g2, g3, -⟩ := (hH.2.2.2 v _ hcv).2.1 hci
  show W p l e R s m args below meth c H locs cells slots Z (F0 m pc arr (.ref (ab_ad bs b v) :: .int x :: .ref (ab_ad bs b a) :: st.map (ab_v bs b)))
  rw [hH.ad hc (by show kd ≠ 16; omega)]
  have ev := hH.ad hcv (by show ci ≠ 16; omega)
  rw [ev]
  obtain ⟨i1, i2, i3⟩ := hi
  have hcls := (hC.2.1.1.1 ci _ hq).2
  obtain ⟨kA, comp, k1, k2, k3, -⟩ := (hC.2.1.1.2 _ _ (ab_tys_obj (dA := dA) h12 h15)).2
  have hcomp : comp = D.1 ci := by
    have h9 := hcls.1
    rw [hqc] at h9
    exact Option.some.inj (k3.symm.trans h9)
  subst hcomp
  obtain ⟨kC, hkC, -⟩ := hcls.2
  refine W.aast hC.1.1 hC.1.2.1 h1 (fun q h => by cases h) (fun h => by cases h) k1 k2 rfl hkC ⟨i1, by rw [arrV_size, i2]; exact i3⟩ g1 (fun q h => by rw [g3] at h; cases h) (by rw [g2]; exact hkC) (by rw [g2]; exact va_assign hcls) rfl rfl hd fun H' e1 e2 e3 => ?_
  rw [i2] at e1
  have hp := hH.pos hc (by show kd ≠ 16; omega)
  exact kk hC (hH.set hc (by show kd ≠ 16; omega) rfl e2 e3 (ab_set_at (v := .ref v) (by omega) (by omega) i3 rfl (by rw [e1, ab_v_ref, ev]))) (hS.put e2 e3 (by omega)) hL hr
set_option maxHeartbeats 1000000 in
theorem ab_newgrid {a0 N K idx : Nat} {x y : Int32} (w1 : Cond.classLink Y.1.cls idx ("[" ++ (FieldType.array .int).toString) ∈ ab_gw) (w2 : Cond.arrayClass .int ∈ ab_gw) (hd : decode Y.2.1 pc = .ok (.multianewarray idx 2, 4)) (hx : ¬ x < 0) (hN : x.toNatClampNeg = N) (hy : ¬ y < 0) (hK9 : y.toNatClampNeg = K) (hsm : N ≤ 1000) (hsk : K ≤ 1000) (ha : a0 = M.length)
    (kk : ab_Run Y d k n (M ++ (15, (List.range N).map (fun i => .ref (a0 + 1 + i))) :: List.replicate N (10, List.replicate K (.int 0))) (pc + 4) ls (.ref a0 :: st) Q) : ab_Run Y d (k + (1 + N)) (n + (N + N * K)) M pc ls (.int y :: .int x :: st) Q := by
  intro p l e R s m args below meth c D dA bs b tc ts H locs cells slots arr Z hC hH hS hL hr
  subst ha
  subst hN
  subst hK9
  have hb3 := hC.2.2.1
  have hts := hC.1.2.2.2.2
  have hl0 : 0 < M.length := by
    obtain ⟨xs, hx⟩ := hH.2.2.1
    exact (List.getElem?_eq_some_iff.mp hx).1
  show W p l e R s m args below meth c H locs cells slots Z (F0 m pc arr (.int y :: .int x :: st.map (ab_v bs b)))
  intro T hT Xs
  obtain ⟨vm₁, cA, comp, -, fA, fC, hO, -, X', step⟩ := Xs.multianewarray2F hC.1.1 hC.1.2.2.2.1 (hts _ w1) (va_AOA.use hC.2.1.2.2.2.2.2) (hts _ w2) (g := F0 m pc arr (.int y :: .int x :: st.map (ab_v bs b))) rfl (by rw [hC.1.2.1]; exact hd) rfl hx hy (by omega) (by show _ * 4 ≤ _; omega) (by omega) rfl rfl (by omega) (by omega)
  have hcA : cA = dA 5 := Option.some.inj (fA.symm.trans (hC.2.1.1.2 5 _ rfl).2)
  have hcC : comp = dA 0 := Option.some.inj (fC.symm.trans (hC.2.1.1.2 0 _ rfl).2)
  subst hcA
  subst hcC
  generalize hF : Jvm.Free.Multi.fill (T.setVm vm₁) (dA 5) (dA 0) x.toNatClampNeg y.toNatClampNeg (defaultValue .int) x.toNatClampNeg = F at X' step
  have hTh : (T.setVm vm₁).heap = H := hT
  obtain ⟨f1, f2, -, -⟩ := Jvm.Free.Multi.fill_facts (T.setVm vm₁) (dA 5) (dA 0) x.toNatClampNeg y.toNatClampNeg (defaultValue .int) x.toNatClampNeg
  rw [hF, hTh] at f1 f2
  have hold : ∀ q : Nat, q < H.size → F.heap[q]? = H[q]? := fun q hq => by
    have := Jvm.Free.Multi.fill_old (T.setVm vm₁) (dA 5) (dA 0) x.toNatClampNeg y.toNatClampNeg (defaultValue .int) (a := q) (by rw [hTh]; exact hq) x.toNatClampNeg
    rw [hF, hTh] at this
    exact this
  have hrow : ∀ j : Nat, j < x.toNatClampNeg → F.heap[H.size + 1 + j]? = some (arrV (dA 0) y.toNatClampNeg (fun _ => .int 0)) := fun j hj => by
    have := Jvm.Free.Multi.fill_inner (T.setVm vm₁) (dA 5) (dA 0) x.toNatClampNeg y.toNatClampNeg (defaultValue .int) x.toNatClampNeg j hj
    rw [hF, hTh] at this
    rw [this]
    exact congrArg some (arrV_new (dA 0) y.toNatClampNeg (.int 0))
  rw [vr_outer] at f2
  have hH2 : ab_H D dA bs b (M ++ (15, (List.range x.toNatClampNeg).map (fun i => .ref (M.length + 1 + i))) :: List.replicate x.toNatClampNeg (10, List.replicate y.toNatClampNeg (.int 0))) s F.heap := by
    obtain ⟨h1, h2, ⟨xs, h3⟩, h4⟩ := hH
    refine ⟨?_, h2, ⟨xs, by rw [List.getElem?_append_left hl0]; exact h3⟩, fun j e hj => ?_⟩
    · rw [f1, h1]
      simp only [List.length_append, List.length_cons, List.length_replicate]
      omega
    · by_cases hjk : j < M.length
      · rw [List.getElem?_append_left hjk] at hj
        exact (h4 j e hj).kept (hold b (by omega)) (fun _ => hold _ (by omega))
      · rw [List.getElem?_append_right (by omega)] at hj
        by_cases hj0 : j = M.length
        · subst hj0
          rw [Nat.sub_self] at hj
          cases hj
          refine ⟨fun h => by have h' : (15 : Nat) = 16 := h; omega, fun h => by have h' : (15 : Nat) < 10 := h; omega, fun _ _ => ?_⟩
          rw [← h1, f2]
          show _ = some (arrV (dA 5) ((List.range x.toNatClampNeg).map (fun i => Value.ref (M.length + 1 + i))).length _)
          rw [List.length_map, List.length_range]
          refine congrArg some (ab_arrV_congr fun i hi => ?_)
          show _ = ab_v bs b (((List.range x.toNatClampNeg).map (fun i => Value.ref (M.length + 1 + i))).getD i .null)
          rw [List.getD_eq_getElem?_getD, List.getElem?_map, List.getElem?_range hi, if_pos hi]
          show Value.ref (H.size + 1 + i) = Value.ref (ab_ad bs b (M.length + 1 + i))
          unfold ab_ad
          rw [if_neg (by omega)]
          have e5 : (H.size + 1 + i : Nat) = bs + (M.length + 1 + i) := by omega
          exact congrArg Value.ref e5
        · rw [show j - M.length = (j - M.length - 1) + 1 by omega, List.getElem?_cons_succ, List.getElem?_replicate] at hj
          split at hj
          · cases hj
            rename_i hj9
            refine ⟨fun h => by have h' : (10 : Nat) = 16 := h; omega, fun h => by have h' : (10 : Nat) < 10 := h; omega, fun _ _ => ?_⟩
            have h5 := hrow (j - M.length - 1) hj9
            rw [show H.size + 1 + (j - M.length - 1) = bs + j by omega] at h5
            rw [h5]
            show _ = some (arrV (dA 0) (List.replicate y.toNatClampNeg (Value.int 0)).length _)
            rw [List.length_replicate]
            refine congrArg some (ab_arrV_congr fun i hi => ?_)
            show _ = ab_v bs b ((List.replicate y.toNatClampNeg (Value.int 0)).getD i .null)
            rw [List.getD_eq_getElem?_getD, List.getElem?_replicate, if_pos hi]
            rfl
          · cases hj
  have hC2 : ab_Cx Y d k n tc ts D dA bs p R s m args meth c (cells + 1 + x.toNatClampNeg) (slots + x.toNatClampNeg + x.toNatClampNeg * y.toNatClampNeg) := by
    obtain ⟨c1, c2, c3, c4⟩ := hC
    exact ⟨c1, c2, ⟨c3.1, c3.2.1, by omega, by omega, c3.2.2.2.2.1, c3.2.2.2.2.2⟩, c4⟩
  have hfin := kk hC2 hH2 (ab_grow hS (by omega) hold) hL hr
  have e9 : (Value.ref M.length :: st).map (ab_v bs b) = .ref H.size :: st.map (ab_v bs b) := by
    show Value.ref (ab_ad bs b M.length) :: _ = _
    rw [hH.1]
    unfold ab_ad
    rw [if_neg (by omega)]
  rw [e9] at hfin
  obtain ⟨t, a1, b1⟩ := hfin F rfl X'
  refine ⟨t, step t ?_, b1⟩
  have e : T.heap.size = H.size := by rw [hT]
  rw [e]
  exact a1
end AbMake2
end
section
abbrev YX8_init : ab_Y := (yX8_init, cX8_init, 2, none)
abbrev YX2_init : ab_Y := (yX2_init, cX2_init, 1, none)
abbrev YX6_init : ab_Y := (yX6_init, cX6_init, 1, none)
abbrev YX0_init : ab_Y := (yX0_init, cX0_init, 2, none)
abbrev YJ7_fill_53178 : ab_Y := (yJ7_fill_53178, cJ7_fill_53178, 4, none)
abbrev YX5_init : ab_Y := (yX5_init, cX5_init, 1, none)
abbrev YX3_init : ab_Y := (yX3_init, cX3_init, 1, none)
abbrev YX1_init : ab_Y := (yX1_init, cX1_init, 1, none)
abbrev YX4_init : ab_Y := (yX4_init, cX4_init, 2, none)
abbrev YX7_init : ab_Y := (yX7_init, cX7_init, 1, none)
abbrev YX8_monk : ab_Y := (yX8_monk, cX8_monk, 6, some .int)
abbrev YX8_isIn : ab_Y := (yX8_isIn, cX8_isIn, 3, some .boolean)
abbrev YX8_wear : ab_Y := (yX8_wear, cX8_wear, 3, some .int)
abbrev YX8_say : ab_Y := (yX8_say, cX8_say, 2, some .int)
abbrev YX2_put : ab_Y := (yX2_put, cX2_put, 2, some .boolean)
abbrev YX8_wipe : ab_Y := (yX8_wipe, cX8_wipe, 1, some .int)
abbrev YX2_clear : ab_Y := (yX2_clear, cX2_clear, 2, some .int)
abbrev YX8_fault : ab_Y := (yX8_fault, cX8_fault, 1, some .int)
abbrev YX2_firstFault : ab_Y := (yX2_firstFault, cX2_firstFault, 3, some .int)
abbrev YX2_behind : ab_Y := (yX2_behind, cX2_behind, 2, some .int)
abbrev YX8_judge : ab_Y := (yX8_judge, cX8_judge, 3, some .int)
abbrev YX8_tryText : ab_Y := (yX8_tryText, cX8_tryText, 1, some .int)
abbrev YX0_become : ab_Y := (yX0_become, cX0_become, 3, none)
abbrev YX5_become : ab_Y := (yX5_become, cX5_become, 2, none)
abbrev YX2_follow : ab_Y := (yX2_follow, cX2_follow, 7, some .int)
abbrev YX2_doPart : ab_Y := (yX2_doPart, cX2_doPart, 6, some .int)
abbrev YX0_passWeek : ab_Y := (yX0_passWeek, cX0_passWeek, 2, none)
abbrev YX5_lose : ab_Y := (yX5_lose, cX5_lose, 5, none)
abbrev YX5_dropOldest : ab_Y := (yX5_dropOldest, cX5_dropOldest, 2, none)
abbrev YX0_sin : ab_Y := (yX0_sin, cX0_sin, 3, some .int)
abbrev YX0_pray : ab_Y := (yX0_pray, cX0_pray, 3, some .int)
abbrev YX0_weave : ab_Y := (yX0_weave, cX0_weave, 3, some .int)
abbrev YX5_hasRoom : ab_Y := (yX5_hasRoom, cX5_hasRoom, 1, some .boolean)
abbrev YX5_add : ab_Y := (yX5_add, cX5_add, 4, none)
abbrev YX2_why : ab_Y := (yX2_why, cX2_why, 1, some .int)
abbrev YX2_parts : ab_Y := (yX2_parts, cX2_parts, 1, some .int)
abbrev YX8_done : ab_Y := (yX8_done, cX8_done, 2, some .int)
abbrev YX8_lock : ab_Y := (yX8_lock, cX8_lock, 5, some .int)
abbrev YX8_power : ab_Y := (yX8_power, cX8_power, 2, some .int)
abbrev YX5_powerLess : ab_Y := (yX5_powerLess, cX5_powerLess, 7, some .int)
abbrev YJ9_min_7cf53 : ab_Y := (yJ9_min_7cf53, cJ9_min_7cf53, 2, some .int)
abbrev YX8_bears : ab_Y := (yX8_bears, cX8_bears, 1, some .int)
abbrev YX0_bearsLess : ab_Y := (yX0_bearsLess, cX0_bearsLess, 3, some .int)
abbrev YX8_greatestLoad : ab_Y := (yX8_greatestLoad, cX8_greatestLoad, 11, some .int)
abbrev YJ9_max_7cf53 : ab_Y := (yJ9_max_7cf53, cJ9_max_7cf53, 2, some .int)
abbrev YX8_broken : ab_Y := (yX8_broken, cX8_broken, 2, some .int)
abbrev YX0_brokenUnder : ab_Y := (yX0_brokenUnder, cX0_brokenUnder, 6, some .int)
abbrev YX0_breaking : ab_Y := (yX0_breaking, cX0_breaking, 6, some .int)
abbrev YJ6_bitCount_0f7a4 : ab_Y := (yJ6_bitCount_0f7a4, cJ6_bitCount_0f7a4, 1, some .int)
abbrev YX8_share : ab_Y := (yX8_share, cX8_share, 6, some .long)
abbrev YX0_powerOf : ab_Y := (yX0_powerOf, cX0_powerOf, 2, some .int)
abbrev YX0_inchesOf : ab_Y := (yX0_inchesOf, cX0_inchesOf, 4, some .int)
abbrev YX5_lengthOf : ab_Y := (yX5_lengthOf, cX5_lengthOf, 4, some .int)
abbrev YX8_commonDivisor : ab_Y := (yX8_commonDivisor, cX8_commonDivisor, 6, some .int)
abbrev YX8_led : ab_Y := (yX8_led, cX8_led, 3, some .int)
abbrev YX8_load : ab_Y := (yX8_load, cX8_load, 3, some .int)
abbrev YX3_put : ab_Y := (yX3_put, cX3_put, 3, some .boolean)
abbrev YX8_drop : ab_Y := (yX8_drop, cX8_drop, 1, some .int)
abbrev YX3_clear : ab_Y := (yX3_clear, cX3_clear, 2, some .int)
abbrev YX8_best : ab_Y := (yX8_best, cX8_best, 2, some .int)
abbrev YX1_reckon : ab_Y := (yX1_reckon, cX1_reckon, 5, none)
abbrev YX3_become : ab_Y := (yX3_become, cX3_become, 2, none)
abbrev YX1_mostFrom : ab_Y := (yX1_mostFrom, cX1_mostFrom, 5, some .int)
abbrev YX1_worthBy : ab_Y := (yX1_worthBy, cX1_worthBy, 5, some .int)
abbrev YX1_crosses : ab_Y := (yX1_crosses, cX1_crosses, 3, some .boolean)
abbrev YX1_findOrder : ab_Y := (yX1_findOrder, cX1_findOrder, 5, none)
abbrev YX1_firstBest : ab_Y := (yX1_firstBest, cX1_firstBest, 5, some .int)
abbrev YX1_most : ab_Y := (yX1_most, cX1_most, 1, some .int)
abbrev YX1_turn : ab_Y := (yX1_turn, cX1_turn, 2, some .int)
abbrev YX8_renewed : ab_Y := (yX8_renewed, cX8_renewed, 5, some .int)
abbrev YX4_fewestInches : ab_Y := (yX4_fewestInches, cX4_fewestInches, 4, some .int)
abbrev YX4_sortByBasket : ab_Y := (yX4_sortByBasket, cX4_sortByBasket, 5, none)
abbrev YX0_powerInBasket : ab_Y := (yX0_powerInBasket, cX0_powerInBasket, 2, some .int)
abbrev YX4_tryFrom : ab_Y := (yX4_tryFrom, cX4_tryFrom, 6, none)
abbrev YX4_isHopeless : ab_Y := (yX4_isHopeless, cX4_isHopeless, 7, some .boolean)
abbrev YX4_foresee : ab_Y := (yX4_foresee, cX4_foresee, 4, none)
abbrev YX5_length : ab_Y := (yX5_length, cX5_length, 3, some .int)
abbrev YX4_tryStep : ab_Y := (yX4_tryStep, cX4_tryStep, 6, none)
abbrev YX4_holdsBehind : ab_Y := (yX4_holdsBehind, cX4_holdsBehind, 8, some .boolean)
abbrev YX4_wovenAhead : ab_Y := (yX4_wovenAhead, cX4_wovenAhead, 2, some .int)
abbrev YX8_soon : ab_Y := (yX8_soon, cX8_soon, 6, some .int)
abbrev YX0_giveAll : ab_Y := (yX0_giveAll, cX0_giveAll, 6, none)
abbrev YX8_weighed : ab_Y := (yX8_weighed, cX8_weighed, 3, some .int)
abbrev YX8_forget : ab_Y := (yX8_forget, cX8_forget, 1, some .int)
abbrev YX8_canBe : ab_Y := (yX8_canBe, cX8_canBe, 2, some .int)
abbrev YX7_find : ab_Y := (yX7_find, cX7_find, 5, none)
abbrev YJ6_numberOfTrailingZeros_0f7a4 : ab_Y := (yJ6_numberOfTrailingZeros_0f7a4, cJ6_numberOfTrailingZeros_0f7a4, 2, some .int)
abbrev YX7_fits : ab_Y := (yX7_fits, cX7_fits, 4, some .boolean)
abbrev YX8_sure : ab_Y := (yX8_sure, cX8_sure, 2, some .int)
abbrev YX7_inEach : ab_Y := (yX7_inEach, cX7_inEach, 3, some .int)
abbrev YX7_inNone : ab_Y := (yX7_inNone, cX7_inNone, 3, some .int)
abbrev YX7_bestToAsk : ab_Y := (yX7_bestToAsk, cX7_bestToAsk, 5, some .int)
abbrev YX7_mostAlike : ab_Y := (yX7_mostAlike, cX7_mostAlike, 5, some .int)
abbrev YX8_year : ab_Y := (yX8_year, cX8_year, 8, some .int)
abbrev YX0_drawDeeds : ab_Y := (yX0_drawDeeds, cX0_drawDeeds, 4, some .int)
abbrev YX8_image : ab_Y := (yX8_image, cX8_image, 2, some .int)
abbrev YX6_become : ab_Y := (yX6_become, cX6_become, 2, none)
abbrev YX8_restore : ab_Y := (yX8_restore, cX8_restore, 2, some .int)
abbrev YX8_told : ab_Y := (yX8_told, cX8_told, 2, some .int)
abbrev YX8_toldOfOne : ab_Y := (yX8_toldOfOne, cX8_toldOfOne, 2, some .int)
abbrev YX9_init : ab_Y := (yX9_init, cX9_init, 2, none)
abbrev YX9_monk : ab_Y := (yX9_monk, cX9_monk, 5, some .int)
abbrev YX9_isMonk : ab_Y := (yX9_isMonk, cX9_isMonk, 1, some .boolean)
abbrev YX9_in : ab_Y := (yX9_in, cX9_in, 6, some .boolean)
abbrev YX9_wear : ab_Y := (yX9_wear, cX9_wear, 3, some .int)
abbrev YX9_say : ab_Y := (yX9_say, cX9_say, 2, some .int)
abbrev YX9_wipe : ab_Y := (yX9_wipe, cX9_wipe, 2, some .int)
abbrev YX9_fault : ab_Y := (yX9_fault, cX9_fault, 4, some .int)
abbrev YX9_judge : ab_Y := (yX9_judge, cX9_judge, 3, some .int)
abbrev YX9_goText : ab_Y := (yX9_goText, cX9_goText, 2, some .boolean)
abbrev YX9_layNow : ab_Y := (yX9_layNow, cX9_layNow, 2, none)
abbrev YX9_does : ab_Y := (yX9_does, cX9_does, 5, some .int)
abbrev YX9_goWeek : ab_Y := (yX9_goWeek, cX9_goWeek, 1, none)
abbrev YX9_lose : ab_Y := (yX9_lose, cX9_lose, 6, none)
abbrev YX9_dropFirst : ab_Y := (yX9_dropFirst, cX9_dropFirst, 3, none)
abbrev YX9_whyNoMore : ab_Y := (yX9_whyNoMore, cX9_whyNoMore, 3, some .int)
abbrev YX9_whyNoLock : ab_Y := (yX9_whyNoLock, cX9_whyNoLock, 3, some .int)
abbrev YX9_weave : ab_Y := (yX9_weave, cX9_weave, 4, none)
abbrev YX9_done : ab_Y := (yX9_done, cX9_done, 1, some .int)
abbrev YX9_keepTried : ab_Y := (yX9_keepTried, cX9_keepTried, 2, none)
abbrev YX9_lock : ab_Y := (yX9_lock, cX9_lock, 5, some .int)
abbrev YX9_isRope : ab_Y := (yX9_isRope, cX9_isRope, 1, some .boolean)
abbrev YX9_power : ab_Y := (yX9_power, cX9_power, 2, some .int)
abbrev YX9_powerOf : ab_Y := (yX9_powerOf, cX9_powerOf, 4, some .int)
abbrev YX9_bears : ab_Y := (yX9_bears, cX9_bears, 1, some .int)
abbrev YX9_borne : ab_Y := (yX9_borne, cX9_borne, 6, some .int)
abbrev YX9_broken : ab_Y := (yX9_broken, cX9_broken, 7, some .int)
abbrev YX9_ones : ab_Y := (yX9_ones, cX9_ones, 3, some .int)
abbrev YX9_share : ab_Y := (yX9_share, cX9_share, 13, some .long)
abbrev YX9_inchesOf : ab_Y := (yX9_inchesOf, cX9_inchesOf, 5, some .int)
abbrev YX9_led : ab_Y := (yX9_led, cX9_led, 5, some .int)
abbrev YX9_load : ab_Y := (yX9_load, cX9_load, 3, some .int)
abbrev YX9_drop : ab_Y := (yX9_drop, cX9_drop, 2, some .int)
abbrev YX9_best : ab_Y := (yX9_best, cX9_best, 7, some .int)
abbrev YX9_layOrder : ab_Y := (yX9_layOrder, cX9_layOrder, 5, some .boolean)
abbrev YX9_worthOfOrder : ab_Y := (yX9_worthOfOrder, cX9_worthOfOrder, 3, some .int)
abbrev YX9_renewed : ab_Y := (yX9_renewed, cX9_renewed, 10, some .int)
abbrev YX9_badWeek : ab_Y := (yX9_badWeek, cX9_badWeek, 9, some .int)
abbrev YX9_soon : ab_Y := (yX9_soon, cX9_soon, 6, some .int)
abbrev YX9_sinAll : ab_Y := (yX9_sinAll, cX9_sinAll, 6, none)
abbrev YX9_weighed : ab_Y := (yX9_weighed, cX9_weighed, 3, some .int)
abbrev YX9_forget : ab_Y := (yX9_forget, cX9_forget, 2, some .int)
abbrev YX9_canBe : ab_Y := (yX9_canBe, cX9_canBe, 4, some .int)
abbrev YX9_fits : ab_Y := (yX9_fits, cX9_fits, 4, some .boolean)
abbrev YX9_weightOf : ab_Y := (yX9_weightOf, cX9_weightOf, 5, some .int)
abbrev YX9_sure : ab_Y := (yX9_sure, cX9_sure, 6, some .int)
abbrev YX9_ask : ab_Y := (yX9_ask, cX9_ask, 5, some .int)
abbrev YX9_alikeBy : ab_Y := (yX9_alikeBy, cX9_alikeBy, 5, some .int)
abbrev YX9_year : ab_Y := (yX9_year, cX9_year, 8, some .int)
abbrev YX9_doesBy : ab_Y := (yX9_doesBy, cX9_doesBy, 3, none)
abbrev YX9_image : ab_Y := (yX9_image, cX9_image, 2, some .int)
abbrev YX9_passAll : ab_Y := (yX9_passAll, cX9_passAll, 2, none)
abbrev YX9_pass : ab_Y := (yX9_pass, cX9_pass, 3, some .int)
abbrev YX9_restore : ab_Y := (yX9_restore, cX9_restore, 2, some .int)
abbrev YX9_told : ab_Y := (yX9_told, cX9_told, 3, some .int)
theorem mw_X8_init : ab_mw YX8_init 0 := ⟨ab_gw_of 43 (by decide +kernel) (by decide +kernel), ab_gw_of 61 (by decide +kernel) (by decide +kernel), ⟨by decide +kernel, by decide +kernel, by decide +kernel⟩, by decide⟩
theorem mw_X2_init : ab_mw YX2_init 0 := ⟨ab_gw_of 44 (by decide +kernel) (by decide +kernel), ab_gw_of 69 (by decide +kernel) (by decide +kernel), ⟨by decide +kernel, by decide +kernel, by decide +kernel⟩, by decide⟩
theorem mw_X6_init : ab_mw YX6_init 0 := ⟨ab_gw_of 45 (by decide +kernel) (by decide +kernel), ab_gw_of 84 (by decide +kernel) (by decide +kernel), ⟨by decide +kernel, by decide +kernel, by decide +kernel⟩, by decide⟩
theorem mw_X0_init : ab_mw YX0_init 0 := ⟨ab_gw_of 46 (by decide +kernel) (by decide +kernel), ab_gw_of 90 (by decide +kernel) (by decide +kernel), ⟨by decide +kernel, by decide +kernel, by decide +kernel⟩, by decide⟩
theorem mw_J7_fill_53178 : ab_mw YJ7_fill_53178 2 := ⟨ab_gw_of 47 (by decide +kernel) (by decide +kernel), ab_gw_of 96 (by decide +kernel) (by decide +kernel), ⟨by decide +kernel, by decide +kernel, by decide +kernel⟩, by decide⟩
theorem mw_X5_init : ab_mw YX5_init 0 := ⟨ab_gw_of 48 (by decide +kernel) (by decide +kernel), ab_gw_of 100 (by decide +kernel) (by decide +kernel), ⟨by decide +kernel, by decide +kernel, by decide +kernel⟩, by decide⟩
theorem mw_X3_init : ab_mw YX3_init 0 := ⟨ab_gw_of 49 (by decide +kernel) (by decide +kernel), ab_gw_of 159 (by decide +kernel) (by decide +kernel), ⟨by decide +kernel, by decide +kernel, by decide +kernel⟩, by decide⟩
theorem mw_X1_init : ab_mw YX1_init 0 := ⟨ab_gw_of 50 (by decide +kernel) (by decide +kernel), ab_gw_of 198 (by decide +kernel) (by decide +kernel), ⟨by decide +kernel, by decide +kernel, by decide +kernel⟩, by decide⟩
theorem mw_X4_init : ab_mw YX4_init 0 := ⟨ab_gw_of 51 (by decide +kernel) (by decide +kernel), ab_gw_of 220 (by decide +kernel) (by decide +kernel), ⟨by decide +kernel, by decide +kernel, by decide +kernel⟩, by decide⟩
theorem mw_X7_init : ab_mw YX7_init 0 := ⟨ab_gw_of 52 (by decide +kernel) (by decide +kernel), ab_gw_of 259 (by decide +kernel) (by decide +kernel), ⟨by decide +kernel, by decide +kernel, by decide +kernel⟩, by decide⟩
theorem mw_X8_monk : ab_mw YX8_monk 3 := ⟨ab_gw_of 43 (by decide +kernel) (by decide +kernel), ab_gw_of 304 (by decide +kernel) (by decide +kernel), ⟨by decide +kernel, by decide +kernel, by decide +kernel⟩, by decide⟩
theorem mw_X8_isIn : ab_mw YX8_isIn 3 := ⟨ab_gw_of 43 (by decide +kernel) (by decide +kernel), ab_gw_of 307 (by decide +kernel) (by decide +kernel), ⟨by decide +kernel, by decide +kernel, by decide +kernel⟩, by decide⟩
theorem mw_X8_wear : ab_mw YX8_wear 1 := ⟨ab_gw_of 43 (by decide +kernel) (by decide +kernel), ab_gw_of 311 (by decide +kernel) (by decide +kernel), ⟨by decide +kernel, by decide +kernel, by decide +kernel⟩, by decide⟩
theorem mw_X8_say : ab_mw YX8_say 1 := ⟨ab_gw_of 43 (by decide +kernel) (by decide +kernel), ab_gw_of 315 (by decide +kernel) (by decide +kernel), ⟨by decide +kernel, by decide +kernel, by decide +kernel⟩, by decide⟩
theorem mw_X2_put : ab_mw YX2_put 1 := ⟨ab_gw_of 44 (by decide +kernel) (by decide +kernel), ab_gw_of 319 (by decide +kernel) (by decide +kernel), ⟨by decide +kernel, by decide +kernel, by decide +kernel⟩, by decide⟩
theorem mw_X8_wipe : ab_mw YX8_wipe 0 := ⟨ab_gw_of 43 (by decide +kernel) (by decide +kernel), ab_gw_of 323 (by decide +kernel) (by decide +kernel), ⟨by decide +kernel, by decide +kernel, by decide +kernel⟩, by decide⟩
theorem mw_X2_clear : ab_mw YX2_clear 0 := ⟨ab_gw_of 44 (by decide +kernel) (by decide +kernel), ab_gw_of 327 (by decide +kernel) (by decide +kernel), ⟨by decide +kernel, by decide +kernel, by decide +kernel⟩, by decide⟩
theorem mw_X8_fault : ab_mw YX8_fault 0 := ⟨ab_gw_of 43 (by decide +kernel) (by decide +kernel), ab_gw_of 331 (by decide +kernel) (by decide +kernel), ⟨by decide +kernel, by decide +kernel, by decide +kernel⟩, by decide⟩
theorem mw_X2_firstFault : ab_mw YX2_firstFault 0 := ⟨ab_gw_of 44 (by decide +kernel) (by decide +kernel), ab_gw_of 335 (by decide +kernel) (by decide +kernel), ⟨by decide +kernel, by decide +kernel, by decide +kernel⟩, by decide⟩
theorem mw_X2_behind : ab_mw YX2_behind 2 := ⟨ab_gw_of 44 (by decide +kernel) (by decide +kernel), ab_gw_of 338 (by decide +kernel) (by decide +kernel), ⟨by decide +kernel, by decide +kernel, by decide +kernel⟩, by decide⟩
theorem mw_X8_judge : ab_mw YX8_judge 1 := ⟨ab_gw_of 43 (by decide +kernel) (by decide +kernel), ab_gw_of 343 (by decide +kernel) (by decide +kernel), ⟨by decide +kernel, by decide +kernel, by decide +kernel⟩, by decide⟩
theorem mw_X8_tryText : ab_mw YX8_tryText 0 := ⟨ab_gw_of 43 (by decide +kernel) (by decide +kernel), ab_gw_of 347 (by decide +kernel) (by decide +kernel), ⟨by decide +kernel, by decide +kernel, by decide +kernel⟩, by decide⟩
theorem mw_X0_become : ab_mw YX0_become 1 := ⟨ab_gw_of 46 (by decide +kernel) (by decide +kernel), ab_gw_of 351 (by decide +kernel) (by decide +kernel), ⟨by decide +kernel, by decide +kernel, by decide +kernel⟩, by decide⟩
theorem mw_X5_become : ab_mw YX5_become 1 := ⟨ab_gw_of 48 (by decide +kernel) (by decide +kernel), ab_gw_of 358 (by decide +kernel) (by decide +kernel), ⟨by decide +kernel, by decide +kernel, by decide +kernel⟩, by decide⟩
theorem mw_X2_follow : ab_mw YX2_follow 1 := ⟨ab_gw_of 44 (by decide +kernel) (by decide +kernel), ab_gw_of 363 (by decide +kernel) (by decide +kernel), ⟨by decide +kernel, by decide +kernel, by decide +kernel⟩, by decide⟩
theorem mw_X2_doPart : ab_mw YX2_doPart 3 := ⟨ab_gw_of 44 (by decide +kernel) (by decide +kernel), ab_gw_of 367 (by decide +kernel) (by decide +kernel), ⟨by decide +kernel, by decide +kernel, by decide +kernel⟩, by decide⟩
theorem mw_X0_passWeek : ab_mw YX0_passWeek 0 := ⟨ab_gw_of 46 (by decide +kernel) (by decide +kernel), ab_gw_of 371 (by decide +kernel) (by decide +kernel), ⟨by decide +kernel, by decide +kernel, by decide +kernel⟩, by decide⟩
theorem mw_X5_lose : ab_mw YX5_lose 2 := ⟨ab_gw_of 48 (by decide +kernel) (by decide +kernel), ab_gw_of 375 (by decide +kernel) (by decide +kernel), ⟨by decide +kernel, by decide +kernel, by decide +kernel⟩, by decide⟩
theorem mw_X5_dropOldest : ab_mw YX5_dropOldest 1 := ⟨ab_gw_of 48 (by decide +kernel) (by decide +kernel), ab_gw_of 379 (by decide +kernel) (by decide +kernel), ⟨by decide +kernel, by decide +kernel, by decide +kernel⟩, by decide⟩
theorem mw_X0_sin : ab_mw YX0_sin 2 := ⟨ab_gw_of 46 (by decide +kernel) (by decide +kernel), ab_gw_of 383 (by decide +kernel) (by decide +kernel), ⟨by decide +kernel, by decide +kernel, by decide +kernel⟩, by decide⟩
theorem mw_X0_pray : ab_mw YX0_pray 2 := ⟨ab_gw_of 46 (by decide +kernel) (by decide +kernel), ab_gw_of 387 (by decide +kernel) (by decide +kernel), ⟨by decide +kernel, by decide +kernel, by decide +kernel⟩, by decide⟩
theorem mw_X0_weave : ab_mw YX0_weave 2 := ⟨ab_gw_of 46 (by decide +kernel) (by decide +kernel), ab_gw_of 391 (by decide +kernel) (by decide +kernel), ⟨by decide +kernel, by decide +kernel, by decide +kernel⟩, by decide⟩
theorem mw_X5_hasRoom : ab_mw YX5_hasRoom 0 := ⟨ab_gw_of 48 (by decide +kernel) (by decide +kernel), ab_gw_of 395 (by decide +kernel) (by decide +kernel), ⟨by decide +kernel, by decide +kernel, by decide +kernel⟩, by decide⟩
theorem mw_X5_add : ab_mw YX5_add 3 := ⟨ab_gw_of 48 (by decide +kernel) (by decide +kernel), ab_gw_of 399 (by decide +kernel) (by decide +kernel), ⟨by decide +kernel, by decide +kernel, by decide +kernel⟩, by decide⟩
theorem mw_X2_why : ab_mw YX2_why 1 := ⟨ab_gw_of 44 (by decide +kernel) (by decide +kernel), ab_gw_of 403 (by decide +kernel) (by decide +kernel), ⟨by decide +kernel, by decide +kernel, by decide +kernel⟩, by decide⟩
theorem mw_X2_parts : ab_mw YX2_parts 1 := ⟨ab_gw_of 44 (by decide +kernel) (by decide +kernel), ab_gw_of 406 (by decide +kernel) (by decide +kernel), ⟨by decide +kernel, by decide +kernel, by decide +kernel⟩, by decide⟩
theorem mw_X8_done : ab_mw YX8_done 0 := ⟨ab_gw_of 43 (by decide +kernel) (by decide +kernel), ab_gw_of 410 (by decide +kernel) (by decide +kernel), ⟨by decide +kernel, by decide +kernel, by decide +kernel⟩, by decide⟩
theorem mw_X8_lock : ab_mw YX8_lock 3 := ⟨ab_gw_of 43 (by decide +kernel) (by decide +kernel), ab_gw_of 414 (by decide +kernel) (by decide +kernel), ⟨by decide +kernel, by decide +kernel, by decide +kernel⟩, by decide⟩
theorem mw_X8_power : ab_mw YX8_power 1 := ⟨ab_gw_of 43 (by decide +kernel) (by decide +kernel), ab_gw_of 418 (by decide +kernel) (by decide +kernel), ⟨by decide +kernel, by decide +kernel, by decide +kernel⟩, by decide⟩
theorem mw_X5_powerLess : ab_mw YX5_powerLess 2 := ⟨ab_gw_of 48 (by decide +kernel) (by decide +kernel), ab_gw_of 422 (by decide +kernel) (by decide +kernel), ⟨by decide +kernel, by decide +kernel, by decide +kernel⟩, by decide⟩
theorem mw_J9_min_7cf53 : ab_mw YJ9_min_7cf53 2 := ⟨ab_gw_of 55 (by decide +kernel) (by decide +kernel), ab_gw_of 425 (by decide +kernel) (by decide +kernel), ⟨by decide +kernel, by decide +kernel, by decide +kernel⟩, by decide⟩
theorem mw_X8_bears : ab_mw YX8_bears 0 := ⟨ab_gw_of 43 (by decide +kernel) (by decide +kernel), ab_gw_of 429 (by decide +kernel) (by decide +kernel), ⟨by decide +kernel, by decide +kernel, by decide +kernel⟩, by decide⟩
theorem mw_X0_bearsLess : ab_mw YX0_bearsLess 1 := ⟨ab_gw_of 46 (by decide +kernel) (by decide +kernel), ab_gw_of 433 (by decide +kernel) (by decide +kernel), ⟨by decide +kernel, by decide +kernel, by decide +kernel⟩, by decide⟩
theorem mw_X8_greatestLoad : ab_mw YX8_greatestLoad 1 := ⟨ab_gw_of 43 (by decide +kernel) (by decide +kernel), ab_gw_of 437 (by decide +kernel) (by decide +kernel), ⟨by decide +kernel, by decide +kernel, by decide +kernel⟩, by decide⟩
theorem mw_J9_max_7cf53 : ab_mw YJ9_max_7cf53 2 := ⟨ab_gw_of 55 (by decide +kernel) (by decide +kernel), ab_gw_of 440 (by decide +kernel) (by decide +kernel), ⟨by decide +kernel, by decide +kernel, by decide +kernel⟩, by decide⟩
theorem mw_X8_broken : ab_mw YX8_broken 1 := ⟨ab_gw_of 43 (by decide +kernel) (by decide +kernel), ab_gw_of 444 (by decide +kernel) (by decide +kernel), ⟨by decide +kernel, by decide +kernel, by decide +kernel⟩, by decide⟩
theorem mw_X0_brokenUnder : ab_mw YX0_brokenUnder 1 := ⟨ab_gw_of 46 (by decide +kernel) (by decide +kernel), ab_gw_of 449 (by decide +kernel) (by decide +kernel), ⟨by decide +kernel, by decide +kernel, by decide +kernel⟩, by decide⟩
theorem mw_X0_breaking : ab_mw YX0_breaking 2 := ⟨ab_gw_of 46 (by decide +kernel) (by decide +kernel), ab_gw_of 453 (by decide +kernel) (by decide +kernel), ⟨by decide +kernel, by decide +kernel, by decide +kernel⟩, by decide⟩
theorem mw_J6_bitCount_0f7a4 : ab_mw YJ6_bitCount_0f7a4 1 := ⟨ab_gw_of 56 (by decide +kernel) (by decide +kernel), ab_gw_of 456 (by decide +kernel) (by decide +kernel), ⟨by decide +kernel, by decide +kernel, by decide +kernel⟩, by decide⟩
theorem mw_X8_share : ab_mw YX8_share 2 := ⟨ab_gw_of 43 (by decide +kernel) (by decide +kernel), ab_gw_of 463 (by decide +kernel) (by decide +kernel), ⟨by decide +kernel, by decide +kernel, by decide +kernel⟩, by decide⟩
theorem mw_X0_powerOf : ab_mw YX0_powerOf 1 := ⟨ab_gw_of 46 (by decide +kernel) (by decide +kernel), ab_gw_of 469 (by decide +kernel) (by decide +kernel), ⟨by decide +kernel, by decide +kernel, by decide +kernel⟩, by decide⟩
theorem mw_X0_inchesOf : ab_mw YX0_inchesOf 1 := ⟨ab_gw_of 46 (by decide +kernel) (by decide +kernel), ab_gw_of 473 (by decide +kernel) (by decide +kernel), ⟨by decide +kernel, by decide +kernel, by decide +kernel⟩, by decide⟩
theorem mw_X5_lengthOf : ab_mw YX5_lengthOf 1 := ⟨ab_gw_of 48 (by decide +kernel) (by decide +kernel), ab_gw_of 477 (by decide +kernel) (by decide +kernel), ⟨by decide +kernel, by decide +kernel, by decide +kernel⟩, by decide⟩
theorem mw_X8_commonDivisor : ab_mw YX8_commonDivisor 2 := ⟨ab_gw_of 43 (by decide +kernel) (by decide +kernel), ab_gw_of 481 (by decide +kernel) (by decide +kernel), ⟨by decide +kernel, by decide +kernel, by decide +kernel⟩, by decide⟩
theorem mw_X8_led : ab_mw YX8_led 2 := ⟨ab_gw_of 43 (by decide +kernel) (by decide +kernel), ab_gw_of 485 (by decide +kernel) (by decide +kernel), ⟨by decide +kernel, by decide +kernel, by decide +kernel⟩, by decide⟩
theorem mw_X8_load : ab_mw YX8_load 2 := ⟨ab_gw_of 43 (by decide +kernel) (by decide +kernel), ab_gw_of 490 (by decide +kernel) (by decide +kernel), ⟨by decide +kernel, by decide +kernel, by decide +kernel⟩, by decide⟩
theorem mw_X3_put : ab_mw YX3_put 2 := ⟨ab_gw_of 49 (by decide +kernel) (by decide +kernel), ab_gw_of 494 (by decide +kernel) (by decide +kernel), ⟨by decide +kernel, by decide +kernel, by decide +kernel⟩, by decide⟩
theorem mw_X8_drop : ab_mw YX8_drop 0 := ⟨ab_gw_of 43 (by decide +kernel) (by decide +kernel), ab_gw_of 498 (by decide +kernel) (by decide +kernel), ⟨by decide +kernel, by decide +kernel, by decide +kernel⟩, by decide⟩
theorem mw_X3_clear : ab_mw YX3_clear 0 := ⟨ab_gw_of 49 (by decide +kernel) (by decide +kernel), ab_gw_of 502 (by decide +kernel) (by decide +kernel), ⟨by decide +kernel, by decide +kernel, by decide +kernel⟩, by decide⟩
theorem mw_X8_best : ab_mw YX8_best 1 := ⟨ab_gw_of 43 (by decide +kernel) (by decide +kernel), ab_gw_of 506 (by decide +kernel) (by decide +kernel), ⟨by decide +kernel, by decide +kernel, by decide +kernel⟩, by decide⟩
theorem mw_X1_reckon : ab_mw YX1_reckon 2 := ⟨ab_gw_of 50 (by decide +kernel) (by decide +kernel), ab_gw_of 510 (by decide +kernel) (by decide +kernel), ⟨by decide +kernel, by decide +kernel, by decide +kernel⟩, by decide⟩
theorem mw_X3_become : ab_mw YX3_become 1 := ⟨ab_gw_of 49 (by decide +kernel) (by decide +kernel), ab_gw_of 514 (by decide +kernel) (by decide +kernel), ⟨by decide +kernel, by decide +kernel, by decide +kernel⟩, by decide⟩
theorem mw_X1_mostFrom : ab_mw YX1_mostFrom 2 := ⟨ab_gw_of 50 (by decide +kernel) (by decide +kernel), ab_gw_of 521 (by decide +kernel) (by decide +kernel), ⟨by decide +kernel, by decide +kernel, by decide +kernel⟩, by decide⟩
theorem mw_X1_worthBy : ab_mw YX1_worthBy 3 := ⟨ab_gw_of 50 (by decide +kernel) (by decide +kernel), ab_gw_of 525 (by decide +kernel) (by decide +kernel), ⟨by decide +kernel, by decide +kernel, by decide +kernel⟩, by decide⟩
theorem mw_X1_crosses : ab_mw YX1_crosses 2 := ⟨ab_gw_of 50 (by decide +kernel) (by decide +kernel), ab_gw_of 529 (by decide +kernel) (by decide +kernel), ⟨by decide +kernel, by decide +kernel, by decide +kernel⟩, by decide⟩
theorem mw_X1_findOrder : ab_mw YX1_findOrder 0 := ⟨ab_gw_of 50 (by decide +kernel) (by decide +kernel), ab_gw_of 534 (by decide +kernel) (by decide +kernel), ⟨by decide +kernel, by decide +kernel, by decide +kernel⟩, by decide⟩
theorem mw_X1_firstBest : ab_mw YX1_firstBest 2 := ⟨ab_gw_of 50 (by decide +kernel) (by decide +kernel), ab_gw_of 538 (by decide +kernel) (by decide +kernel), ⟨by decide +kernel, by decide +kernel, by decide +kernel⟩, by decide⟩
theorem mw_X1_most : ab_mw YX1_most 0 := ⟨ab_gw_of 50 (by decide +kernel) (by decide +kernel), ab_gw_of 542 (by decide +kernel) (by decide +kernel), ⟨by decide +kernel, by decide +kernel, by decide +kernel⟩, by decide⟩
theorem mw_X1_turn : ab_mw YX1_turn 1 := ⟨ab_gw_of 50 (by decide +kernel) (by decide +kernel), ab_gw_of 546 (by decide +kernel) (by decide +kernel), ⟨by decide +kernel, by decide +kernel, by decide +kernel⟩, by decide⟩
theorem mw_X8_renewed : ab_mw YX8_renewed 3 := ⟨ab_gw_of 43 (by decide +kernel) (by decide +kernel), ab_gw_of 550 (by decide +kernel) (by decide +kernel), ⟨by decide +kernel, by decide +kernel, by decide +kernel⟩, by decide⟩
theorem mw_X4_fewestInches : ab_mw YX4_fewestInches 3 := ⟨ab_gw_of 51 (by decide +kernel) (by decide +kernel), ab_gw_of 554 (by decide +kernel) (by decide +kernel), ⟨by decide +kernel, by decide +kernel, by decide +kernel⟩, by decide⟩
theorem mw_X4_sortByBasket : ab_mw YX4_sortByBasket 1 := ⟨ab_gw_of 51 (by decide +kernel) (by decide +kernel), ab_gw_of 559 (by decide +kernel) (by decide +kernel), ⟨by decide +kernel, by decide +kernel, by decide +kernel⟩, by decide⟩
theorem mw_X0_powerInBasket : ab_mw YX0_powerInBasket 1 := ⟨ab_gw_of 46 (by decide +kernel) (by decide +kernel), ab_gw_of 563 (by decide +kernel) (by decide +kernel), ⟨by decide +kernel, by decide +kernel, by decide +kernel⟩, by decide⟩
theorem mw_X4_tryFrom : ab_mw YX4_tryFrom 2 := ⟨ab_gw_of 51 (by decide +kernel) (by decide +kernel), ab_gw_of 567 (by decide +kernel) (by decide +kernel), ⟨by decide +kernel, by decide +kernel, by decide +kernel⟩, by decide⟩
theorem mw_X4_isHopeless : ab_mw YX4_isHopeless 1 := ⟨ab_gw_of 51 (by decide +kernel) (by decide +kernel), ab_gw_of 572 (by decide +kernel) (by decide +kernel), ⟨by decide +kernel, by decide +kernel, by decide +kernel⟩, by decide⟩
theorem mw_X4_foresee : ab_mw YX4_foresee 1 := ⟨ab_gw_of 51 (by decide +kernel) (by decide +kernel), ab_gw_of 577 (by decide +kernel) (by decide +kernel), ⟨by decide +kernel, by decide +kernel, by decide +kernel⟩, by decide⟩
theorem mw_X5_length : ab_mw YX5_length 0 := ⟨ab_gw_of 48 (by decide +kernel) (by decide +kernel), ab_gw_of 581 (by decide +kernel) (by decide +kernel), ⟨by decide +kernel, by decide +kernel, by decide +kernel⟩, by decide⟩
theorem mw_X4_tryStep : ab_mw YX4_tryStep 4 := ⟨ab_gw_of 51 (by decide +kernel) (by decide +kernel), ab_gw_of 586 (by decide +kernel) (by decide +kernel), ⟨by decide +kernel, by decide +kernel, by decide +kernel⟩, by decide⟩
theorem mw_X4_holdsBehind : ab_mw YX4_holdsBehind 3 := ⟨ab_gw_of 51 (by decide +kernel) (by decide +kernel), ab_gw_of 590 (by decide +kernel) (by decide +kernel), ⟨by decide +kernel, by decide +kernel, by decide +kernel⟩, by decide⟩
theorem mw_X4_wovenAhead : ab_mw YX4_wovenAhead 1 := ⟨ab_gw_of 51 (by decide +kernel) (by decide +kernel), ab_gw_of 598 (by decide +kernel) (by decide +kernel), ⟨by decide +kernel, by decide +kernel, by decide +kernel⟩, by decide⟩
theorem mw_X8_soon : ab_mw YX8_soon 4 := ⟨ab_gw_of 43 (by decide +kernel) (by decide +kernel), ab_gw_of 602 (by decide +kernel) (by decide +kernel), ⟨by decide +kernel, by decide +kernel, by decide +kernel⟩, by decide⟩
theorem mw_X0_giveAll : ab_mw YX0_giveAll 3 := ⟨ab_gw_of 46 (by decide +kernel) (by decide +kernel), ab_gw_of 606 (by decide +kernel) (by decide +kernel), ⟨by decide +kernel, by decide +kernel, by decide +kernel⟩, by decide⟩
theorem mw_X8_weighed : ab_mw YX8_weighed 2 := ⟨ab_gw_of 43 (by decide +kernel) (by decide +kernel), ab_gw_of 613 (by decide +kernel) (by decide +kernel), ⟨by decide +kernel, by decide +kernel, by decide +kernel⟩, by decide⟩
theorem mw_X8_forget : ab_mw YX8_forget 0 := ⟨ab_gw_of 43 (by decide +kernel) (by decide +kernel), ab_gw_of 617 (by decide +kernel) (by decide +kernel), ⟨by decide +kernel, by decide +kernel, by decide +kernel⟩, by decide⟩
theorem mw_X8_canBe : ab_mw YX8_canBe 1 := ⟨ab_gw_of 43 (by decide +kernel) (by decide +kernel), ab_gw_of 621 (by decide +kernel) (by decide +kernel), ⟨by decide +kernel, by decide +kernel, by decide +kernel⟩, by decide⟩
theorem mw_X7_find : ab_mw YX7_find 2 := ⟨ab_gw_of 52 (by decide +kernel) (by decide +kernel), ab_gw_of 625 (by decide +kernel) (by decide +kernel), ⟨by decide +kernel, by decide +kernel, by decide +kernel⟩, by decide⟩
theorem mw_J6_numberOfTrailingZeros_0f7a4 : ab_mw YJ6_numberOfTrailingZeros_0f7a4 1 := ⟨ab_gw_of 56 (by decide +kernel) (by decide +kernel), ab_gw_of 628 (by decide +kernel) (by decide +kernel), ⟨by decide +kernel, by decide +kernel, by decide +kernel⟩, by decide⟩
theorem mw_X7_fits : ab_mw YX7_fits 2 := ⟨ab_gw_of 52 (by decide +kernel) (by decide +kernel), ab_gw_of 633 (by decide +kernel) (by decide +kernel), ⟨by decide +kernel, by decide +kernel, by decide +kernel⟩, by decide⟩
theorem mw_X8_sure : ab_mw YX8_sure 1 := ⟨ab_gw_of 43 (by decide +kernel) (by decide +kernel), ab_gw_of 637 (by decide +kernel) (by decide +kernel), ⟨by decide +kernel, by decide +kernel, by decide +kernel⟩, by decide⟩
theorem mw_X7_inEach : ab_mw YX7_inEach 0 := ⟨ab_gw_of 52 (by decide +kernel) (by decide +kernel), ab_gw_of 641 (by decide +kernel) (by decide +kernel), ⟨by decide +kernel, by decide +kernel, by decide +kernel⟩, by decide⟩
theorem mw_X7_inNone : ab_mw YX7_inNone 0 := ⟨ab_gw_of 52 (by decide +kernel) (by decide +kernel), ab_gw_of 645 (by decide +kernel) (by decide +kernel), ⟨by decide +kernel, by decide +kernel, by decide +kernel⟩, by decide⟩
theorem mw_X7_bestToAsk : ab_mw YX7_bestToAsk 0 := ⟨ab_gw_of 52 (by decide +kernel) (by decide +kernel), ab_gw_of 649 (by decide +kernel) (by decide +kernel), ⟨by decide +kernel, by decide +kernel, by decide +kernel⟩, by decide⟩
theorem mw_X7_mostAlike : ab_mw YX7_mostAlike 1 := ⟨ab_gw_of 52 (by decide +kernel) (by decide +kernel), ab_gw_of 653 (by decide +kernel) (by decide +kernel), ⟨by decide +kernel, by decide +kernel, by decide +kernel⟩, by decide⟩
theorem mw_X8_year : ab_mw YX8_year 3 := ⟨ab_gw_of 43 (by decide +kernel) (by decide +kernel), ab_gw_of 658 (by decide +kernel) (by decide +kernel), ⟨by decide +kernel, by decide +kernel, by decide +kernel⟩, by decide⟩
theorem mw_X0_drawDeeds : ab_mw YX0_drawDeeds 1 := ⟨ab_gw_of 46 (by decide +kernel) (by decide +kernel), ab_gw_of 663 (by decide +kernel) (by decide +kernel), ⟨by decide +kernel, by decide +kernel, by decide +kernel⟩, by decide⟩
theorem mw_X8_image : ab_mw YX8_image 1 := ⟨ab_gw_of 43 (by decide +kernel) (by decide +kernel), ab_gw_of 671 (by decide +kernel) (by decide +kernel), ⟨by decide +kernel, by decide +kernel, by decide +kernel⟩, by decide⟩
theorem mw_X6_become : ab_mw YX6_become 1 := ⟨ab_gw_of 45 (by decide +kernel) (by decide +kernel), ab_gw_of 675 (by decide +kernel) (by decide +kernel), ⟨by decide +kernel, by decide +kernel, by decide +kernel⟩, by decide⟩
theorem mw_X8_restore : ab_mw YX8_restore 1 := ⟨ab_gw_of 43 (by decide +kernel) (by decide +kernel), ab_gw_of 681 (by decide +kernel) (by decide +kernel), ⟨by decide +kernel, by decide +kernel, by decide +kernel⟩, by decide⟩
theorem mw_X8_told : ab_mw YX8_told 1 := ⟨ab_gw_of 43 (by decide +kernel) (by decide +kernel), ab_gw_of 685 (by decide +kernel) (by decide +kernel), ⟨by decide +kernel, by decide +kernel, by decide +kernel⟩, by decide⟩
theorem mw_X8_toldOfOne : ab_mw YX8_toldOfOne 1 := ⟨ab_gw_of 43 (by decide +kernel) (by decide +kernel), ab_gw_of 689 (by decide +kernel) (by decide +kernel), ⟨by decide +kernel, by decide +kernel, by decide +kernel⟩, by decide⟩
theorem mw_X9_init : ab_mw YX9_init 0 := ⟨ab_gw_of 53 (by decide +kernel) (by decide +kernel), ab_gw_of 694 (by decide +kernel) (by decide +kernel), ⟨by decide +kernel, by decide +kernel, by decide +kernel⟩, by decide⟩
theorem mw_X9_monk : ab_mw YX9_monk 3 := ⟨ab_gw_of 53 (by decide +kernel) (by decide +kernel), ab_gw_of 811 (by decide +kernel) (by decide +kernel), ⟨by decide +kernel, by decide +kernel, by decide +kernel⟩, by decide⟩
theorem mw_X9_isMonk : ab_mw YX9_isMonk 1 := ⟨ab_gw_of 53 (by decide +kernel) (by decide +kernel), ab_gw_of 814 (by decide +kernel) (by decide +kernel), ⟨by decide +kernel, by decide +kernel, by decide +kernel⟩, by decide⟩
theorem mw_X9_in : ab_mw YX9_in 3 := ⟨ab_gw_of 53 (by decide +kernel) (by decide +kernel), ab_gw_of 818 (by decide +kernel) (by decide +kernel), ⟨by decide +kernel, by decide +kernel, by decide +kernel⟩, by decide⟩
theorem mw_X9_wear : ab_mw YX9_wear 1 := ⟨ab_gw_of 53 (by decide +kernel) (by decide +kernel), ab_gw_of 824 (by decide +kernel) (by decide +kernel), ⟨by decide +kernel, by decide +kernel, by decide +kernel⟩, by decide⟩
theorem mw_X9_say : ab_mw YX9_say 1 := ⟨ab_gw_of 53 (by decide +kernel) (by decide +kernel), ab_gw_of 828 (by decide +kernel) (by decide +kernel), ⟨by decide +kernel, by decide +kernel, by decide +kernel⟩, by decide⟩
theorem mw_X9_wipe : ab_mw YX9_wipe 0 := ⟨ab_gw_of 53 (by decide +kernel) (by decide +kernel), ab_gw_of 834 (by decide +kernel) (by decide +kernel), ⟨by decide +kernel, by decide +kernel, by decide +kernel⟩, by decide⟩
theorem mw_X9_fault : ab_mw YX9_fault 0 := ⟨ab_gw_of 53 (by decide +kernel) (by decide +kernel), ab_gw_of 838 (by decide +kernel) (by decide +kernel), ⟨by decide +kernel, by decide +kernel, by decide +kernel⟩, by decide⟩
theorem mw_X9_judge : ab_mw YX9_judge 1 := ⟨ab_gw_of 53 (by decide +kernel) (by decide +kernel), ab_gw_of 848 (by decide +kernel) (by decide +kernel), ⟨by decide +kernel, by decide +kernel, by decide +kernel⟩, by decide⟩
theorem mw_X9_goText : ab_mw YX9_goText 0 := ⟨ab_gw_of 53 (by decide +kernel) (by decide +kernel), ab_gw_of 853 (by decide +kernel) (by decide +kernel), ⟨by decide +kernel, by decide +kernel, by decide +kernel⟩, by decide⟩
theorem mw_X9_layNow : ab_mw YX9_layNow 0 := ⟨ab_gw_of 53 (by decide +kernel) (by decide +kernel), ab_gw_of 857 (by decide +kernel) (by decide +kernel), ⟨by decide +kernel, by decide +kernel, by decide +kernel⟩, by decide⟩
theorem mw_X9_does : ab_mw YX9_does 1 := ⟨ab_gw_of 53 (by decide +kernel) (by decide +kernel), ab_gw_of 861 (by decide +kernel) (by decide +kernel), ⟨by decide +kernel, by decide +kernel, by decide +kernel⟩, by decide⟩
theorem mw_X9_goWeek : ab_mw YX9_goWeek 0 := ⟨ab_gw_of 53 (by decide +kernel) (by decide +kernel), ab_gw_of 865 (by decide +kernel) (by decide +kernel), ⟨by decide +kernel, by decide +kernel, by decide +kernel⟩, by decide⟩
theorem mw_X9_lose : ab_mw YX9_lose 1 := ⟨ab_gw_of 53 (by decide +kernel) (by decide +kernel), ab_gw_of 869 (by decide +kernel) (by decide +kernel), ⟨by decide +kernel, by decide +kernel, by decide +kernel⟩, by decide⟩
theorem mw_X9_dropFirst : ab_mw YX9_dropFirst 1 := ⟨ab_gw_of 53 (by decide +kernel) (by decide +kernel), ab_gw_of 873 (by decide +kernel) (by decide +kernel), ⟨by decide +kernel, by decide +kernel, by decide +kernel⟩, by decide⟩
theorem mw_X9_whyNoMore : ab_mw YX9_whyNoMore 2 := ⟨ab_gw_of 53 (by decide +kernel) (by decide +kernel), ab_gw_of 877 (by decide +kernel) (by decide +kernel), ⟨by decide +kernel, by decide +kernel, by decide +kernel⟩, by decide⟩
theorem mw_X9_whyNoLock : ab_mw YX9_whyNoLock 2 := ⟨ab_gw_of 53 (by decide +kernel) (by decide +kernel), ab_gw_of 881 (by decide +kernel) (by decide +kernel), ⟨by decide +kernel, by decide +kernel, by decide +kernel⟩, by decide⟩
theorem mw_X9_weave : ab_mw YX9_weave 2 := ⟨ab_gw_of 53 (by decide +kernel) (by decide +kernel), ab_gw_of 885 (by decide +kernel) (by decide +kernel), ⟨by decide +kernel, by decide +kernel, by decide +kernel⟩, by decide⟩
theorem mw_X9_done : ab_mw YX9_done 0 := ⟨ab_gw_of 53 (by decide +kernel) (by decide +kernel), ab_gw_of 889 (by decide +kernel) (by decide +kernel), ⟨by decide +kernel, by decide +kernel, by decide +kernel⟩, by decide⟩
theorem mw_X9_keepTried : ab_mw YX9_keepTried 0 := ⟨ab_gw_of 53 (by decide +kernel) (by decide +kernel), ab_gw_of 893 (by decide +kernel) (by decide +kernel), ⟨by decide +kernel, by decide +kernel, by decide +kernel⟩, by decide⟩
theorem mw_X9_lock : ab_mw YX9_lock 3 := ⟨ab_gw_of 53 (by decide +kernel) (by decide +kernel), ab_gw_of 897 (by decide +kernel) (by decide +kernel), ⟨by decide +kernel, by decide +kernel, by decide +kernel⟩, by decide⟩
theorem mw_X9_isRope : ab_mw YX9_isRope 1 := ⟨ab_gw_of 53 (by decide +kernel) (by decide +kernel), ab_gw_of 900 (by decide +kernel) (by decide +kernel), ⟨by decide +kernel, by decide +kernel, by decide +kernel⟩, by decide⟩
theorem mw_X9_power : ab_mw YX9_power 1 := ⟨ab_gw_of 53 (by decide +kernel) (by decide +kernel), ab_gw_of 905 (by decide +kernel) (by decide +kernel), ⟨by decide +kernel, by decide +kernel, by decide +kernel⟩, by decide⟩
theorem mw_X9_powerOf : ab_mw YX9_powerOf 1 := ⟨ab_gw_of 53 (by decide +kernel) (by decide +kernel), ab_gw_of 909 (by decide +kernel) (by decide +kernel), ⟨by decide +kernel, by decide +kernel, by decide +kernel⟩, by decide⟩
theorem mw_X9_bears : ab_mw YX9_bears 0 := ⟨ab_gw_of 53 (by decide +kernel) (by decide +kernel), ab_gw_of 913 (by decide +kernel) (by decide +kernel), ⟨by decide +kernel, by decide +kernel, by decide +kernel⟩, by decide⟩
theorem mw_X9_borne : ab_mw YX9_borne 0 := ⟨ab_gw_of 53 (by decide +kernel) (by decide +kernel), ab_gw_of 917 (by decide +kernel) (by decide +kernel), ⟨by decide +kernel, by decide +kernel, by decide +kernel⟩, by decide⟩
theorem mw_X9_broken : ab_mw YX9_broken 1 := ⟨ab_gw_of 53 (by decide +kernel) (by decide +kernel), ab_gw_of 921 (by decide +kernel) (by decide +kernel), ⟨by decide +kernel, by decide +kernel, by decide +kernel⟩, by decide⟩
theorem mw_X9_ones : ab_mw YX9_ones 1 := ⟨ab_gw_of 53 (by decide +kernel) (by decide +kernel), ab_gw_of 925 (by decide +kernel) (by decide +kernel), ⟨by decide +kernel, by decide +kernel, by decide +kernel⟩, by decide⟩
theorem mw_X9_share : ab_mw YX9_share 2 := ⟨ab_gw_of 53 (by decide +kernel) (by decide +kernel), ab_gw_of 929 (by decide +kernel) (by decide +kernel), ⟨by decide +kernel, by decide +kernel, by decide +kernel⟩, by decide⟩
theorem mw_X9_inchesOf : ab_mw YX9_inchesOf 2 := ⟨ab_gw_of 53 (by decide +kernel) (by decide +kernel), ab_gw_of 935 (by decide +kernel) (by decide +kernel), ⟨by decide +kernel, by decide +kernel, by decide +kernel⟩, by decide⟩
theorem mw_X9_led : ab_mw YX9_led 2 := ⟨ab_gw_of 53 (by decide +kernel) (by decide +kernel), ab_gw_of 940 (by decide +kernel) (by decide +kernel), ⟨by decide +kernel, by decide +kernel, by decide +kernel⟩, by decide⟩
theorem mw_X9_load : ab_mw YX9_load 2 := ⟨ab_gw_of 53 (by decide +kernel) (by decide +kernel), ab_gw_of 944 (by decide +kernel) (by decide +kernel), ⟨by decide +kernel, by decide +kernel, by decide +kernel⟩, by decide⟩
theorem mw_X9_drop : ab_mw YX9_drop 0 := ⟨ab_gw_of 53 (by decide +kernel) (by decide +kernel), ab_gw_of 950 (by decide +kernel) (by decide +kernel), ⟨by decide +kernel, by decide +kernel, by decide +kernel⟩, by decide⟩
theorem mw_X9_best : ab_mw YX9_best 1 := ⟨ab_gw_of 53 (by decide +kernel) (by decide +kernel), ab_gw_of 954 (by decide +kernel) (by decide +kernel), ⟨by decide +kernel, by decide +kernel, by decide +kernel⟩, by decide⟩
theorem mw_X9_layOrder : ab_mw YX9_layOrder 1 := ⟨ab_gw_of 53 (by decide +kernel) (by decide +kernel), ab_gw_of 958 (by decide +kernel) (by decide +kernel), ⟨by decide +kernel, by decide +kernel, by decide +kernel⟩, by decide⟩
theorem mw_X9_worthOfOrder : ab_mw YX9_worthOfOrder 0 := ⟨ab_gw_of 53 (by decide +kernel) (by decide +kernel), ab_gw_of 962 (by decide +kernel) (by decide +kernel), ⟨by decide +kernel, by decide +kernel, by decide +kernel⟩, by decide⟩
theorem mw_X9_renewed : ab_mw YX9_renewed 3 := ⟨ab_gw_of 53 (by decide +kernel) (by decide +kernel), ab_gw_of 966 (by decide +kernel) (by decide +kernel), ⟨by decide +kernel, by decide +kernel, by decide +kernel⟩, by decide⟩
theorem mw_X9_badWeek : ab_mw YX9_badWeek 3 := ⟨ab_gw_of 53 (by decide +kernel) (by decide +kernel), ab_gw_of 972 (by decide +kernel) (by decide +kernel), ⟨by decide +kernel, by decide +kernel, by decide +kernel⟩, by decide⟩
theorem mw_X9_soon : ab_mw YX9_soon 4 := ⟨ab_gw_of 53 (by decide +kernel) (by decide +kernel), ab_gw_of 976 (by decide +kernel) (by decide +kernel), ⟨by decide +kernel, by decide +kernel, by decide +kernel⟩, by decide⟩
theorem mw_X9_sinAll : ab_mw YX9_sinAll 3 := ⟨ab_gw_of 53 (by decide +kernel) (by decide +kernel), ab_gw_of 981 (by decide +kernel) (by decide +kernel), ⟨by decide +kernel, by decide +kernel, by decide +kernel⟩, by decide⟩
theorem mw_X9_weighed : ab_mw YX9_weighed 2 := ⟨ab_gw_of 53 (by decide +kernel) (by decide +kernel), ab_gw_of 985 (by decide +kernel) (by decide +kernel), ⟨by decide +kernel, by decide +kernel, by decide +kernel⟩, by decide⟩
theorem mw_X9_forget : ab_mw YX9_forget 0 := ⟨ab_gw_of 53 (by decide +kernel) (by decide +kernel), ab_gw_of 990 (by decide +kernel) (by decide +kernel), ⟨by decide +kernel, by decide +kernel, by decide +kernel⟩, by decide⟩
theorem mw_X9_canBe : ab_mw YX9_canBe 1 := ⟨ab_gw_of 53 (by decide +kernel) (by decide +kernel), ab_gw_of 994 (by decide +kernel) (by decide +kernel), ⟨by decide +kernel, by decide +kernel, by decide +kernel⟩, by decide⟩
theorem mw_X9_fits : ab_mw YX9_fits 1 := ⟨ab_gw_of 53 (by decide +kernel) (by decide +kernel), ab_gw_of 998 (by decide +kernel) (by decide +kernel), ⟨by decide +kernel, by decide +kernel, by decide +kernel⟩, by decide⟩
theorem mw_X9_weightOf : ab_mw YX9_weightOf 2 := ⟨ab_gw_of 53 (by decide +kernel) (by decide +kernel), ab_gw_of 1002 (by decide +kernel) (by decide +kernel), ⟨by decide +kernel, by decide +kernel, by decide +kernel⟩, by decide⟩
theorem mw_X9_sure : ab_mw YX9_sure 1 := ⟨ab_gw_of 53 (by decide +kernel) (by decide +kernel), ab_gw_of 1006 (by decide +kernel) (by decide +kernel), ⟨by decide +kernel, by decide +kernel, by decide +kernel⟩, by decide⟩
theorem mw_X9_ask : ab_mw YX9_ask 0 := ⟨ab_gw_of 53 (by decide +kernel) (by decide +kernel), ab_gw_of 1011 (by decide +kernel) (by decide +kernel), ⟨by decide +kernel, by decide +kernel, by decide +kernel⟩, by decide⟩
theorem mw_X9_alikeBy : ab_mw YX9_alikeBy 1 := ⟨ab_gw_of 53 (by decide +kernel) (by decide +kernel), ab_gw_of 1015 (by decide +kernel) (by decide +kernel), ⟨by decide +kernel, by decide +kernel, by decide +kernel⟩, by decide⟩
theorem mw_X9_year : ab_mw YX9_year 3 := ⟨ab_gw_of 53 (by decide +kernel) (by decide +kernel), ab_gw_of 1019 (by decide +kernel) (by decide +kernel), ⟨by decide +kernel, by decide +kernel, by decide +kernel⟩, by decide⟩
theorem mw_X9_doesBy : ab_mw YX9_doesBy 2 := ⟨ab_gw_of 53 (by decide +kernel) (by decide +kernel), ab_gw_of 1027 (by decide +kernel) (by decide +kernel), ⟨by decide +kernel, by decide +kernel, by decide +kernel⟩, by decide⟩
theorem mw_X9_image : ab_mw YX9_image 1 := ⟨ab_gw_of 53 (by decide +kernel) (by decide +kernel), ab_gw_of 1031 (by decide +kernel) (by decide +kernel), ⟨by decide +kernel, by decide +kernel, by decide +kernel⟩, by decide⟩
theorem mw_X9_passAll : ab_mw YX9_passAll 0 := ⟨ab_gw_of 53 (by decide +kernel) (by decide +kernel), ab_gw_of 1035 (by decide +kernel) (by decide +kernel), ⟨by decide +kernel, by decide +kernel, by decide +kernel⟩, by decide⟩
theorem mw_X9_pass : ab_mw YX9_pass 1 := ⟨ab_gw_of 53 (by decide +kernel) (by decide +kernel), ab_gw_of 1039 (by decide +kernel) (by decide +kernel), ⟨by decide +kernel, by decide +kernel, by decide +kernel⟩, by decide⟩
theorem mw_X9_restore : ab_mw YX9_restore 1 := ⟨ab_gw_of 53 (by decide +kernel) (by decide +kernel), ab_gw_of 1043 (by decide +kernel) (by decide +kernel), ⟨by decide +kernel, by decide +kernel, by decide +kernel⟩, by decide⟩
theorem mw_X9_told : ab_mw YX9_told 1 := ⟨ab_gw_of 53 (by decide +kernel) (by decide +kernel), ab_gw_of 1047 (by decide +kernel) (by decide +kernel), ⟨by decide +kernel, by decide +kernel, by decide +kernel⟩, by decide⟩
theorem fl_X2_9 : ab_fl RX2 9 2 0 := ⟨(RX2, TX2, 2), rfl, by decide, ab_gw_of 71 (by decide +kernel) (by decide +kernel)⟩
theorem fp_X2_9 : ab_fp RX2 9 2 0 true (.array .int) := ⟨(RX2, TX2, 2), rfl, by decide, ab_gw_of 71 (by decide +kernel) (by decide +kernel), rfl, by decide +kernel, fun _ => rfl⟩
theorem fl_X2_15 : ab_fl RX2 15 2 1 := ⟨(RX2, TX2, 2), rfl, by decide, ab_gw_of 72 (by decide +kernel) (by decide +kernel)⟩
theorem fp_X2_15 : ab_fp RX2 15 2 1 false .int := ⟨(RX2, TX2, 2), rfl, by decide, ab_gw_of 72 (by decide +kernel) (by decide +kernel), rfl, by decide +kernel, fun h => by cases h⟩
theorem fl_X8_81 : ab_fl RX8 81 2 1 := ⟨(RX2, TX2, 2), rfl, by decide, ab_gw_of 73 (by decide +kernel) (by decide +kernel)⟩
theorem fp_X8_81 : ab_fp RX8 81 2 1 false .int := ⟨(RX2, TX2, 2), rfl, by decide, ab_gw_of 73 (by decide +kernel) (by decide +kernel), rfl, by decide +kernel, fun h => by cases h⟩
theorem fl_X5_9 : ab_fl RX5 9 5 0 := ⟨(RX5, TX5, 4), rfl, by decide, ab_gw_of 102 (by decide +kernel) (by decide +kernel)⟩
theorem fp_X5_9 : ab_fp RX5 9 5 0 true (.array .int) := ⟨(RX5, TX5, 4), rfl, by decide, ab_gw_of 102 (by decide +kernel) (by decide +kernel), rfl, by decide +kernel, fun _ => rfl⟩
theorem fl_X8_112 : ab_fl RX8 112 5 0 := ⟨(RX5, TX5, 4), rfl, by decide, ab_gw_of 103 (by decide +kernel) (by decide +kernel)⟩
theorem fl_X5_15 : ab_fl RX5 15 5 1 := ⟨(RX5, TX5, 4), rfl, by decide, ab_gw_of 104 (by decide +kernel) (by decide +kernel)⟩
theorem fp_X5_15 : ab_fp RX5 15 5 1 true (.array .int) := ⟨(RX5, TX5, 4), rfl, by decide, ab_gw_of 104 (by decide +kernel) (by decide +kernel), rfl, by decide +kernel, fun _ => rfl⟩
theorem fl_X8_115 : ab_fl RX8 115 5 1 := ⟨(RX5, TX5, 4), rfl, by decide, ab_gw_of 105 (by decide +kernel) (by decide +kernel)⟩
theorem fl_X5_18 : ab_fl RX5 18 5 2 := ⟨(RX5, TX5, 4), rfl, by decide, ab_gw_of 106 (by decide +kernel) (by decide +kernel)⟩
theorem fp_X5_18 : ab_fp RX5 18 5 2 true (.array .int) := ⟨(RX5, TX5, 4), rfl, by decide, ab_gw_of 106 (by decide +kernel) (by decide +kernel), rfl, by decide +kernel, fun _ => rfl⟩
theorem fl_X8_121 : ab_fl RX8 121 5 2 := ⟨(RX5, TX5, 4), rfl, by decide, ab_gw_of 107 (by decide +kernel) (by decide +kernel)⟩
theorem fl_X5_21 : ab_fl RX5 21 5 3 := ⟨(RX5, TX5, 4), rfl, by decide, ab_gw_of 108 (by decide +kernel) (by decide +kernel)⟩
theorem fp_X5_21 : ab_fp RX5 21 5 3 false .int := ⟨(RX5, TX5, 4), rfl, by decide, ab_gw_of 108 (by decide +kernel) (by decide +kernel), rfl, by decide +kernel, fun h => by cases h⟩
theorem fl_X8_109 : ab_fl RX8 109 5 3 := ⟨(RX5, TX5, 4), rfl, by decide, ab_gw_of 109 (by decide +kernel) (by decide +kernel)⟩
theorem fp_X8_109 : ab_fp RX8 109 5 3 false .int := ⟨(RX5, TX5, 4), rfl, by decide, ab_gw_of 109 (by decide +kernel) (by decide +kernel), rfl, by decide +kernel, fun h => by cases h⟩
theorem fl_X0_9 : ab_fl RX0 9 0 0 := ⟨(RX0, TX0, 8), rfl, by decide, ab_gw_of 119 (by decide +kernel) (by decide +kernel)⟩
theorem fp_X0_9 : ab_fp RX0 9 0 0 true (.array .int) := ⟨(RX0, TX0, 8), rfl, by decide, ab_gw_of 119 (by decide +kernel) (by decide +kernel), rfl, by decide +kernel, fun _ => rfl⟩
theorem fl_X8_66 : ab_fl RX8 66 0 0 := ⟨(RX0, TX0, 8), rfl, by decide, ab_gw_of 120 (by decide +kernel) (by decide +kernel)⟩
theorem fl_X0_15 : ab_fl RX0 15 0 1 := ⟨(RX0, TX0, 8), rfl, by decide, ab_gw_of 121 (by decide +kernel) (by decide +kernel)⟩
theorem fp_X0_15 : ab_fp RX0 15 0 1 true (.array .int) := ⟨(RX0, TX0, 8), rfl, by decide, ab_gw_of 121 (by decide +kernel) (by decide +kernel), rfl, by decide +kernel, fun _ => rfl⟩
theorem fl_X8_70 : ab_fl RX8 70 0 1 := ⟨(RX0, TX0, 8), rfl, by decide, ab_gw_of 122 (by decide +kernel) (by decide +kernel)⟩
theorem fl_X4_102 : ab_fl RX4 102 0 1 := ⟨(RX0, TX0, 8), rfl, by decide, ab_gw_of 123 (by decide +kernel) (by decide +kernel)⟩
theorem fl_X0_18 : ab_fl RX0 18 0 2 := ⟨(RX0, TX0, 8), rfl, by decide, ab_gw_of 124 (by decide +kernel) (by decide +kernel)⟩
theorem fp_X0_18 : ab_fp RX0 18 0 2 true (.array .int) := ⟨(RX0, TX0, 8), rfl, by decide, ab_gw_of 124 (by decide +kernel) (by decide +kernel), rfl, by decide +kernel, fun _ => rfl⟩
theorem fl_X4_79 : ab_fl RX4 79 0 2 := ⟨(RX0, TX0, 8), rfl, by decide, ab_gw_of 125 (by decide +kernel) (by decide +kernel)⟩
theorem fl_X8_225 : ab_fl RX8 225 0 2 := ⟨(RX0, TX0, 8), rfl, by decide, ab_gw_of 126 (by decide +kernel) (by decide +kernel)⟩
theorem fl_X0_21 : ab_fl RX0 21 0 3 := ⟨(RX0, TX0, 8), rfl, by decide, ab_gw_of 127 (by decide +kernel) (by decide +kernel)⟩
theorem fp_X0_21 : ab_fp RX0 21 0 3 true (.array .int) := ⟨(RX0, TX0, 8), rfl, by decide, ab_gw_of 127 (by decide +kernel) (by decide +kernel), rfl, by decide +kernel, fun _ => rfl⟩
theorem fl_X8_150 : ab_fl RX8 150 0 3 := ⟨(RX0, TX0, 8), rfl, by decide, ab_gw_of 128 (by decide +kernel) (by decide +kernel)⟩
theorem fl_X0_26 : ab_fl RX0 26 0 4 := ⟨(RX0, TX0, 8), rfl, by decide, ab_gw_of 129 (by decide +kernel) (by decide +kernel)⟩
theorem fp_X0_26 : ab_fp RX0 26 0 4 true (.array (.object "HairBridge$Rope")) := ⟨(RX0, TX0, 8), rfl, by decide, ab_gw_of 129 (by decide +kernel) (by decide +kernel), rfl, by decide +kernel, fun _ => rfl⟩
theorem fl_X4_105 : ab_fl RX4 105 0 4 := ⟨(RX0, TX0, 8), rfl, by decide, ab_gw_of 130 (by decide +kernel) (by decide +kernel)⟩
theorem fl_X8_105 : ab_fl RX8 105 0 4 := ⟨(RX0, TX0, 8), rfl, by decide, ab_gw_of 131 (by decide +kernel) (by decide +kernel)⟩
theorem fl_X0_30 : ab_fl RX0 30 0 5 := ⟨(RX0, TX0, 8), rfl, by decide, ab_gw_of 132 (by decide +kernel) (by decide +kernel)⟩
theorem fp_X0_30 : ab_fp RX0 30 0 5 true (.array .int) := ⟨(RX0, TX0, 8), rfl, by decide, ab_gw_of 132 (by decide +kernel) (by decide +kernel), rfl, by decide +kernel, fun _ => rfl⟩
theorem fl_X0_40 : ab_fl RX0 40 0 6 := ⟨(RX0, TX0, 8), rfl, by decide, ab_gw_of 133 (by decide +kernel) (by decide +kernel)⟩
theorem fp_X0_40 : ab_fp RX0 40 0 6 false .int := ⟨(RX0, TX0, 8), rfl, by decide, ab_gw_of 133 (by decide +kernel) (by decide +kernel), rfl, by decide +kernel, fun h => by cases h⟩
theorem fl_X8_73 : ab_fl RX8 73 0 6 := ⟨(RX0, TX0, 8), rfl, by decide, ab_gw_of 134 (by decide +kernel) (by decide +kernel)⟩
theorem fp_X8_73 : ab_fp RX8 73 0 6 false .int := ⟨(RX0, TX0, 8), rfl, by decide, ab_gw_of 134 (by decide +kernel) (by decide +kernel), rfl, by decide +kernel, fun h => by cases h⟩
theorem fl_X4_115 : ab_fl RX4 115 0 6 := ⟨(RX0, TX0, 8), rfl, by decide, ab_gw_of 135 (by decide +kernel) (by decide +kernel)⟩
theorem fp_X4_115 : ab_fp RX4 115 0 6 false .int := ⟨(RX0, TX0, 8), rfl, by decide, ab_gw_of 135 (by decide +kernel) (by decide +kernel), rfl, by decide +kernel, fun h => by cases h⟩
theorem fl_X0_54 : ab_fl RX0 54 0 7 := ⟨(RX0, TX0, 8), rfl, by decide, ab_gw_of 136 (by decide +kernel) (by decide +kernel)⟩
theorem fp_X0_54 : ab_fp RX0 54 0 7 false .int := ⟨(RX0, TX0, 8), rfl, by decide, ab_gw_of 136 (by decide +kernel) (by decide +kernel), rfl, by decide +kernel, fun h => by cases h⟩
theorem fl_X8_118 : ab_fl RX8 118 0 7 := ⟨(RX0, TX0, 8), rfl, by decide, ab_gw_of 137 (by decide +kernel) (by decide +kernel)⟩
theorem fp_X8_118 : ab_fp RX8 118 0 7 false .int := ⟨(RX0, TX0, 8), rfl, by decide, ab_gw_of 137 (by decide +kernel) (by decide +kernel), rfl, by decide +kernel, fun h => by cases h⟩
theorem fl_X3_9 : ab_fl RX3 9 3 0 := ⟨(RX3, TX3, 3), rfl, by decide, ab_gw_of 161 (by decide +kernel) (by decide +kernel)⟩
theorem fp_X3_9 : ab_fp RX3 9 3 0 true (.array .int) := ⟨(RX3, TX3, 3), rfl, by decide, ab_gw_of 161 (by decide +kernel) (by decide +kernel), rfl, by decide +kernel, fun _ => rfl⟩
theorem fl_X7_38 : ab_fl RX7 38 3 0 := ⟨(RX3, TX3, 3), rfl, by decide, ab_gw_of 162 (by decide +kernel) (by decide +kernel)⟩
theorem fl_X1_63 : ab_fl RX1 63 3 0 := ⟨(RX3, TX3, 3), rfl, by decide, ab_gw_of 163 (by decide +kernel) (by decide +kernel)⟩
theorem fl_X3_15 : ab_fl RX3 15 3 1 := ⟨(RX3, TX3, 3), rfl, by decide, ab_gw_of 164 (by decide +kernel) (by decide +kernel)⟩
theorem fp_X3_15 : ab_fp RX3 15 3 1 true (.array .int) := ⟨(RX3, TX3, 3), rfl, by decide, ab_gw_of 164 (by decide +kernel) (by decide +kernel), rfl, by decide +kernel, fun _ => rfl⟩
theorem fl_X7_41 : ab_fl RX7 41 3 1 := ⟨(RX3, TX3, 3), rfl, by decide, ab_gw_of 165 (by decide +kernel) (by decide +kernel)⟩
theorem fl_X1_70 : ab_fl RX1 70 3 1 := ⟨(RX3, TX3, 3), rfl, by decide, ab_gw_of 166 (by decide +kernel) (by decide +kernel)⟩
theorem fl_X3_18 : ab_fl RX3 18 3 2 := ⟨(RX3, TX3, 3), rfl, by decide, ab_gw_of 167 (by decide +kernel) (by decide +kernel)⟩
theorem fp_X3_18 : ab_fp RX3 18 3 2 false .int := ⟨(RX3, TX3, 3), rfl, by decide, ab_gw_of 167 (by decide +kernel) (by decide +kernel), rfl, by decide +kernel, fun h => by cases h⟩
theorem fl_X7_35 : ab_fl RX7 35 3 2 := ⟨(RX3, TX3, 3), rfl, by decide, ab_gw_of 168 (by decide +kernel) (by decide +kernel)⟩
theorem fp_X7_35 : ab_fp RX7 35 3 2 false .int := ⟨(RX3, TX3, 3), rfl, by decide, ab_gw_of 168 (by decide +kernel) (by decide +kernel), rfl, by decide +kernel, fun h => by cases h⟩
theorem fl_X1_32 : ab_fl RX1 32 3 2 := ⟨(RX3, TX3, 3), rfl, by decide, ab_gw_of 169 (by decide +kernel) (by decide +kernel)⟩
theorem fp_X1_32 : ab_fp RX1 32 3 2 false .int := ⟨(RX3, TX3, 3), rfl, by decide, ab_gw_of 169 (by decide +kernel) (by decide +kernel), rfl, by decide +kernel, fun h => by cases h⟩
theorem fl_X8_162 : ab_fl RX8 162 3 2 := ⟨(RX3, TX3, 3), rfl, by decide, ab_gw_of 170 (by decide +kernel) (by decide +kernel)⟩
theorem fp_X8_162 : ab_fp RX8 162 3 2 false .int := ⟨(RX3, TX3, 3), rfl, by decide, ab_gw_of 170 (by decide +kernel) (by decide +kernel), rfl, by decide +kernel, fun h => by cases h⟩
theorem fl_X6_10 : ab_fl RX6 10 6 0 := ⟨(RX6, TX6, 3), rfl, by decide, ab_gw_of 178 (by decide +kernel) (by decide +kernel)⟩
theorem fp_X6_10 : ab_fp RX6 10 6 0 true (.object "HairBridge$Abbey") := ⟨(RX6, TX6, 3), rfl, by decide, ab_gw_of 178 (by decide +kernel) (by decide +kernel), rfl, by decide +kernel, fun _ => rfl⟩
theorem fl_X8_63 : ab_fl RX8 63 6 0 := ⟨(RX6, TX6, 3), rfl, by decide, ab_gw_of 179 (by decide +kernel) (by decide +kernel)⟩
theorem fl_X6_19 : ab_fl RX6 19 6 1 := ⟨(RX6, TX6, 3), rfl, by decide, ab_gw_of 180 (by decide +kernel) (by decide +kernel)⟩
theorem fp_X6_19 : ab_fp RX6 19 6 1 true (.object "HairBridge$Pairs") := ⟨(RX6, TX6, 3), rfl, by decide, ab_gw_of 180 (by decide +kernel) (by decide +kernel), rfl, by decide +kernel, fun _ => rfl⟩
theorem fl_X8_153 : ab_fl RX8 153 6 1 := ⟨(RX6, TX6, 3), rfl, by decide, ab_gw_of 181 (by decide +kernel) (by decide +kernel)⟩
theorem fl_X6_23 : ab_fl RX6 23 6 2 := ⟨(RX6, TX6, 3), rfl, by decide, ab_gw_of 182 (by decide +kernel) (by decide +kernel)⟩
theorem fp_X6_23 : ab_fp RX6 23 6 2 true (.object "HairBridge$Pairs") := ⟨(RX6, TX6, 3), rfl, by decide, ab_gw_of 182 (by decide +kernel) (by decide +kernel), rfl, by decide +kernel, fun _ => rfl⟩
theorem fl_X8_188 : ab_fl RX8 188 6 2 := ⟨(RX6, TX6, 3), rfl, by decide, ab_gw_of 183 (by decide +kernel) (by decide +kernel)⟩
theorem fl_X1_18 : ab_fl RX1 18 1 0 := ⟨(RX1, TX1, 4), rfl, by decide, ab_gw_of 202 (by decide +kernel) (by decide +kernel)⟩
theorem fp_X1_18 : ab_fp RX1 18 1 0 true (.array .int) := ⟨(RX1, TX1, 4), rfl, by decide, ab_gw_of 202 (by decide +kernel) (by decide +kernel), rfl, by decide +kernel, fun _ => rfl⟩
theorem fl_X1_22 : ab_fl RX1 22 1 1 := ⟨(RX1, TX1, 4), rfl, by decide, ab_gw_of 203 (by decide +kernel) (by decide +kernel)⟩
theorem fp_X1_22 : ab_fp RX1 22 1 1 true (.array .int) := ⟨(RX1, TX1, 4), rfl, by decide, ab_gw_of 203 (by decide +kernel) (by decide +kernel), rfl, by decide +kernel, fun _ => rfl⟩
theorem fl_X1_25 : ab_fl RX1 25 1 2 := ⟨(RX1, TX1, 4), rfl, by decide, ab_gw_of 204 (by decide +kernel) (by decide +kernel)⟩
theorem fp_X1_25 : ab_fp RX1 25 1 2 true (.array .int) := ⟨(RX1, TX1, 4), rfl, by decide, ab_gw_of 204 (by decide +kernel) (by decide +kernel), rfl, by decide +kernel, fun _ => rfl⟩
theorem fl_X1_12 : ab_fl RX1 12 1 3 := ⟨(RX1, TX1, 4), rfl, by decide, ab_gw_of 205 (by decide +kernel) (by decide +kernel)⟩
theorem fp_X1_12 : ab_fp RX1 12 1 3 true (.object "HairBridge$Pairs") := ⟨(RX1, TX1, 4), rfl, by decide, ab_gw_of 205 (by decide +kernel) (by decide +kernel), rfl, by decide +kernel, fun _ => rfl⟩
theorem fl_X4_11 : ab_fl RX4 11 4 0 := ⟨(RX4, TX4, 9), rfl, by decide, ab_gw_of 227 (by decide +kernel) (by decide +kernel)⟩
theorem fp_X4_11 : ab_fp RX4 11 4 0 true (.array (.object "HairBridge$Abbey")) := ⟨(RX4, TX4, 9), rfl, by decide, ab_gw_of 227 (by decide +kernel) (by decide +kernel), rfl, by decide +kernel, fun _ => rfl⟩
theorem fl_X4_20 : ab_fl RX4 20 4 1 := ⟨(RX4, TX4, 9), rfl, by decide, ab_gw_of 228 (by decide +kernel) (by decide +kernel)⟩
theorem fp_X4_20 : ab_fp RX4 20 4 1 true (.array (.array .int)) := ⟨(RX4, TX4, 9), rfl, by decide, ab_gw_of 228 (by decide +kernel) (by decide +kernel), rfl, by decide +kernel, fun _ => rfl⟩
theorem fl_X4_23 : ab_fl RX4 23 4 2 := ⟨(RX4, TX4, 9), rfl, by decide, ab_gw_of 229 (by decide +kernel) (by decide +kernel)⟩
theorem fp_X4_23 : ab_fp RX4 23 4 2 true (.array (.array .int)) := ⟨(RX4, TX4, 9), rfl, by decide, ab_gw_of 229 (by decide +kernel) (by decide +kernel), rfl, by decide +kernel, fun _ => rfl⟩
theorem fl_X4_26 : ab_fl RX4 26 4 3 := ⟨(RX4, TX4, 9), rfl, by decide, ab_gw_of 230 (by decide +kernel) (by decide +kernel)⟩
theorem fp_X4_26 : ab_fp RX4 26 4 3 true (.array .int) := ⟨(RX4, TX4, 9), rfl, by decide, ab_gw_of 230 (by decide +kernel) (by decide +kernel), rfl, by decide +kernel, fun _ => rfl⟩
theorem fl_X4_30 : ab_fl RX4 30 4 4 := ⟨(RX4, TX4, 9), rfl, by decide, ab_gw_of 231 (by decide +kernel) (by decide +kernel)⟩
theorem fp_X4_30 : ab_fp RX4 30 4 4 true (.array .int) := ⟨(RX4, TX4, 9), rfl, by decide, ab_gw_of 231 (by decide +kernel) (by decide +kernel), rfl, by decide +kernel, fun _ => rfl⟩
theorem fl_X4_33 : ab_fl RX4 33 4 5 := ⟨(RX4, TX4, 9), rfl, by decide, ab_gw_of 232 (by decide +kernel) (by decide +kernel)⟩
theorem fp_X4_33 : ab_fp RX4 33 4 5 true (.array .int) := ⟨(RX4, TX4, 9), rfl, by decide, ab_gw_of 232 (by decide +kernel) (by decide +kernel), rfl, by decide +kernel, fun _ => rfl⟩
theorem fl_X4_36 : ab_fl RX4 36 4 6 := ⟨(RX4, TX4, 9), rfl, by decide, ab_gw_of 233 (by decide +kernel) (by decide +kernel)⟩
theorem fp_X4_36 : ab_fp RX4 36 4 6 false .int := ⟨(RX4, TX4, 9), rfl, by decide, ab_gw_of 233 (by decide +kernel) (by decide +kernel), rfl, by decide +kernel, fun h => by cases h⟩
theorem fl_X4_40 : ab_fl RX4 40 4 7 := ⟨(RX4, TX4, 9), rfl, by decide, ab_gw_of 234 (by decide +kernel) (by decide +kernel)⟩
theorem fp_X4_40 : ab_fp RX4 40 4 7 false .int := ⟨(RX4, TX4, 9), rfl, by decide, ab_gw_of 234 (by decide +kernel) (by decide +kernel), rfl, by decide +kernel, fun h => by cases h⟩
theorem fl_X4_43 : ab_fl RX4 43 4 8 := ⟨(RX4, TX4, 9), rfl, by decide, ab_gw_of 235 (by decide +kernel) (by decide +kernel)⟩
theorem fp_X4_43 : ab_fp RX4 43 4 8 false .int := ⟨(RX4, TX4, 9), rfl, by decide, ab_gw_of 235 (by decide +kernel) (by decide +kernel), rfl, by decide +kernel, fun h => by cases h⟩
theorem fl_X7_11 : ab_fl RX7 11 7 0 := ⟨(RX7, TX7, 4), rfl, by decide, ab_gw_of 261 (by decide +kernel) (by decide +kernel)⟩
theorem fp_X7_11 : ab_fp RX7 11 7 0 true (.array .int) := ⟨(RX7, TX7, 4), rfl, by decide, ab_gw_of 261 (by decide +kernel) (by decide +kernel), rfl, by decide +kernel, fun _ => rfl⟩
theorem fl_X7_15 : ab_fl RX7 15 7 1 := ⟨(RX7, TX7, 4), rfl, by decide, ab_gw_of 262 (by decide +kernel) (by decide +kernel)⟩
theorem fp_X7_15 : ab_fp RX7 15 7 1 true (.array .int) := ⟨(RX7, TX7, 4), rfl, by decide, ab_gw_of 262 (by decide +kernel) (by decide +kernel), rfl, by decide +kernel, fun _ => rfl⟩
theorem fl_X7_18 : ab_fl RX7 18 7 2 := ⟨(RX7, TX7, 4), rfl, by decide, ab_gw_of 263 (by decide +kernel) (by decide +kernel)⟩
theorem fp_X7_18 : ab_fp RX7 18 7 2 true (.array .int) := ⟨(RX7, TX7, 4), rfl, by decide, ab_gw_of 263 (by decide +kernel) (by decide +kernel), rfl, by decide +kernel, fun _ => rfl⟩
theorem fl_X8_196 : ab_fl RX8 196 7 2 := ⟨(RX7, TX7, 4), rfl, by decide, ab_gw_of 264 (by decide +kernel) (by decide +kernel)⟩
theorem fl_X7_27 : ab_fl RX7 27 7 3 := ⟨(RX7, TX7, 4), rfl, by decide, ab_gw_of 265 (by decide +kernel) (by decide +kernel)⟩
theorem fp_X7_27 : ab_fp RX7 27 7 3 false .int := ⟨(RX7, TX7, 4), rfl, by decide, ab_gw_of 265 (by decide +kernel) (by decide +kernel), rfl, by decide +kernel, fun h => by cases h⟩
theorem fl_X8_195 : ab_fl RX8 195 7 3 := ⟨(RX7, TX7, 4), rfl, by decide, ab_gw_of 266 (by decide +kernel) (by decide +kernel)⟩
theorem fp_X8_195 : ab_fp RX8 195 7 3 false .int := ⟨(RX7, TX7, 4), rfl, by decide, ab_gw_of 266 (by decide +kernel) (by decide +kernel), rfl, by decide +kernel, fun h => by cases h⟩
theorem fl_X8_10 : ab_fl RX8 10 8 0 := ⟨(RX8, TX8, 8), rfl, by decide, ab_gw_of 276 (by decide +kernel) (by decide +kernel)⟩
theorem fp_X8_10 : ab_fp RX8 10 8 0 true (.object "HairBridge$Pad") := ⟨(RX8, TX8, 8), rfl, by decide, ab_gw_of 276 (by decide +kernel) (by decide +kernel), rfl, by decide +kernel, fun _ => rfl⟩
theorem fl_X8_19 : ab_fl RX8 19 8 1 := ⟨(RX8, TX8, 8), rfl, by decide, ab_gw_of 277 (by decide +kernel) (by decide +kernel)⟩
theorem fp_X8_19 : ab_fp RX8 19 8 1 true (.object "HairBridge$Whole") := ⟨(RX8, TX8, 8), rfl, by decide, ab_gw_of 277 (by decide +kernel) (by decide +kernel), rfl, by decide +kernel, fun _ => rfl⟩
theorem fl_X8_23 : ab_fl RX8 23 8 2 := ⟨(RX8, TX8, 8), rfl, by decide, ab_gw_of 278 (by decide +kernel) (by decide +kernel)⟩
theorem fp_X8_23 : ab_fp RX8 23 8 2 true (.array (.object "HairBridge$Whole")) := ⟨(RX8, TX8, 8), rfl, by decide, ab_gw_of 278 (by decide +kernel) (by decide +kernel), rfl, by decide +kernel, fun _ => rfl⟩
theorem fl_X8_27 : ab_fl RX8 27 8 3 := ⟨(RX8, TX8, 8), rfl, by decide, ab_gw_of 279 (by decide +kernel) (by decide +kernel)⟩
theorem fp_X8_27 : ab_fp RX8 27 8 3 true (.array .boolean) := ⟨(RX8, TX8, 8), rfl, by decide, ab_gw_of 279 (by decide +kernel) (by decide +kernel), rfl, by decide +kernel, fun _ => rfl⟩
theorem fl_X8_34 : ab_fl RX8 34 8 4 := ⟨(RX8, TX8, 8), rfl, by decide, ab_gw_of 280 (by decide +kernel) (by decide +kernel)⟩
theorem fp_X8_34 : ab_fp RX8 34 8 4 true (.object "HairBridge$Abbey") := ⟨(RX8, TX8, 8), rfl, by decide, ab_gw_of 280 (by decide +kernel) (by decide +kernel), rfl, by decide +kernel, fun _ => rfl⟩
theorem fl_X8_41 : ab_fl RX8 41 8 5 := ⟨(RX8, TX8, 8), rfl, by decide, ab_gw_of 281 (by decide +kernel) (by decide +kernel)⟩
theorem fp_X8_41 : ab_fp RX8 41 8 5 true (.object "HairBridge$Crossing") := ⟨(RX8, TX8, 8), rfl, by decide, ab_gw_of 281 (by decide +kernel) (by decide +kernel), rfl, by decide +kernel, fun _ => rfl⟩
theorem fl_X8_48 : ab_fl RX8 48 8 6 := ⟨(RX8, TX8, 8), rfl, by decide, ab_gw_of 282 (by decide +kernel) (by decide +kernel)⟩
theorem fp_X8_48 : ab_fp RX8 48 8 6 true (.object "HairBridge$Renewal") := ⟨(RX8, TX8, 8), rfl, by decide, ab_gw_of 282 (by decide +kernel) (by decide +kernel), rfl, by decide +kernel, fun _ => rfl⟩
theorem fl_X8_55 : ab_fl RX8 55 8 7 := ⟨(RX8, TX8, 8), rfl, by decide, ab_gw_of 283 (by decide +kernel) (by decide +kernel)⟩
theorem fp_X8_55 : ab_fp RX8 55 8 7 true (.object "HairBridge$Wigs") := ⟨(RX8, TX8, 8), rfl, by decide, ab_gw_of 283 (by decide +kernel) (by decide +kernel), rfl, by decide +kernel, fun _ => rfl⟩
theorem fl_X9_7 : ab_fl RX9 7 9 0 := ⟨(RX9, TX9, 37), rfl, by decide, ab_gw_of 696 (by decide +kernel) (by decide +kernel)⟩
theorem fp_X9_7 : ab_fp RX9 7 9 0 true (.array .int) := ⟨(RX9, TX9, 37), rfl, by decide, ab_gw_of 696 (by decide +kernel) (by decide +kernel), rfl, by decide +kernel, fun _ => rfl⟩
theorem fl_X9_13 : ab_fl RX9 13 9 1 := ⟨(RX9, TX9, 37), rfl, by decide, ab_gw_of 697 (by decide +kernel) (by decide +kernel)⟩
theorem fp_X9_13 : ab_fp RX9 13 9 1 true (.array .int) := ⟨(RX9, TX9, 37), rfl, by decide, ab_gw_of 697 (by decide +kernel) (by decide +kernel), rfl, by decide +kernel, fun _ => rfl⟩
theorem fl_X9_16 : ab_fl RX9 16 9 2 := ⟨(RX9, TX9, 37), rfl, by decide, ab_gw_of 698 (by decide +kernel) (by decide +kernel)⟩
theorem fp_X9_16 : ab_fp RX9 16 9 2 true (.array .int) := ⟨(RX9, TX9, 37), rfl, by decide, ab_gw_of 698 (by decide +kernel) (by decide +kernel), rfl, by decide +kernel, fun _ => rfl⟩
theorem fl_X9_19 : ab_fl RX9 19 9 3 := ⟨(RX9, TX9, 37), rfl, by decide, ab_gw_of 699 (by decide +kernel) (by decide +kernel)⟩
theorem fp_X9_19 : ab_fp RX9 19 9 3 true (.array .int) := ⟨(RX9, TX9, 37), rfl, by decide, ab_gw_of 699 (by decide +kernel) (by decide +kernel), rfl, by decide +kernel, fun _ => rfl⟩
theorem fl_X9_22 : ab_fl RX9 22 9 4 := ⟨(RX9, TX9, 37), rfl, by decide, ab_gw_of 700 (by decide +kernel) (by decide +kernel)⟩
theorem fp_X9_22 : ab_fp RX9 22 9 4 true (.array .int) := ⟨(RX9, TX9, 37), rfl, by decide, ab_gw_of 700 (by decide +kernel) (by decide +kernel), rfl, by decide +kernel, fun _ => rfl⟩
theorem fl_X9_25 : ab_fl RX9 25 9 5 := ⟨(RX9, TX9, 37), rfl, by decide, ab_gw_of 701 (by decide +kernel) (by decide +kernel)⟩
theorem fp_X9_25 : ab_fp RX9 25 9 5 true (.array .int) := ⟨(RX9, TX9, 37), rfl, by decide, ab_gw_of 701 (by decide +kernel) (by decide +kernel), rfl, by decide +kernel, fun _ => rfl⟩
theorem fl_X9_28 : ab_fl RX9 28 9 6 := ⟨(RX9, TX9, 37), rfl, by decide, ab_gw_of 702 (by decide +kernel) (by decide +kernel)⟩
theorem fp_X9_28 : ab_fp RX9 28 9 6 true (.array .int) := ⟨(RX9, TX9, 37), rfl, by decide, ab_gw_of 702 (by decide +kernel) (by decide +kernel), rfl, by decide +kernel, fun _ => rfl⟩
theorem fl_X9_31 : ab_fl RX9 31 9 7 := ⟨(RX9, TX9, 37), rfl, by decide, ab_gw_of 703 (by decide +kernel) (by decide +kernel)⟩
theorem fp_X9_31 : ab_fp RX9 31 9 7 true (.array .int) := ⟨(RX9, TX9, 37), rfl, by decide, ab_gw_of 703 (by decide +kernel) (by decide +kernel), rfl, by decide +kernel, fun _ => rfl⟩
theorem fl_X9_89 : ab_fl RX9 89 9 8 := ⟨(RX9, TX9, 37), rfl, by decide, ab_gw_of 704 (by decide +kernel) (by decide +kernel)⟩
theorem fp_X9_89 : ab_fp RX9 89 9 8 false .int := ⟨(RX9, TX9, 37), rfl, by decide, ab_gw_of 704 (by decide +kernel) (by decide +kernel), rfl, by decide +kernel, fun h => by cases h⟩
theorem fl_X9_101 : ab_fl RX9 101 9 9 := ⟨(RX9, TX9, 37), rfl, by decide, ab_gw_of 705 (by decide +kernel) (by decide +kernel)⟩
theorem fp_X9_101 : ab_fp RX9 101 9 9 false .int := ⟨(RX9, TX9, 37), rfl, by decide, ab_gw_of 705 (by decide +kernel) (by decide +kernel), rfl, by decide +kernel, fun h => by cases h⟩
theorem fl_X9_34 : ab_fl RX9 34 9 10 := ⟨(RX9, TX9, 37), rfl, by decide, ab_gw_of 706 (by decide +kernel) (by decide +kernel)⟩
theorem fp_X9_34 : ab_fp RX9 34 9 10 true (.array .int) := ⟨(RX9, TX9, 37), rfl, by decide, ab_gw_of 706 (by decide +kernel) (by decide +kernel), rfl, by decide +kernel, fun _ => rfl⟩
theorem fl_X9_37 : ab_fl RX9 37 9 11 := ⟨(RX9, TX9, 37), rfl, by decide, ab_gw_of 707 (by decide +kernel) (by decide +kernel)⟩
theorem fp_X9_37 : ab_fp RX9 37 9 11 true (.array .int) := ⟨(RX9, TX9, 37), rfl, by decide, ab_gw_of 707 (by decide +kernel) (by decide +kernel), rfl, by decide +kernel, fun _ => rfl⟩
theorem fl_X9_206 : ab_fl RX9 206 9 12 := ⟨(RX9, TX9, 37), rfl, by decide, ab_gw_of 708 (by decide +kernel) (by decide +kernel)⟩
theorem fp_X9_206 : ab_fp RX9 206 9 12 false .int := ⟨(RX9, TX9, 37), rfl, by decide, ab_gw_of 708 (by decide +kernel) (by decide +kernel), rfl, by decide +kernel, fun h => by cases h⟩
theorem fl_X9_40 : ab_fl RX9 40 9 13 := ⟨(RX9, TX9, 37), rfl, by decide, ab_gw_of 709 (by decide +kernel) (by decide +kernel)⟩
theorem fp_X9_40 : ab_fp RX9 40 9 13 true (.array .int) := ⟨(RX9, TX9, 37), rfl, by decide, ab_gw_of 709 (by decide +kernel) (by decide +kernel), rfl, by decide +kernel, fun _ => rfl⟩
theorem fl_X9_43 : ab_fl RX9 43 9 14 := ⟨(RX9, TX9, 37), rfl, by decide, ab_gw_of 710 (by decide +kernel) (by decide +kernel)⟩
theorem fp_X9_43 : ab_fp RX9 43 9 14 true (.array .int) := ⟨(RX9, TX9, 37), rfl, by decide, ab_gw_of 710 (by decide +kernel) (by decide +kernel), rfl, by decide +kernel, fun _ => rfl⟩
theorem fl_X9_234 : ab_fl RX9 234 9 15 := ⟨(RX9, TX9, 37), rfl, by decide, ab_gw_of 711 (by decide +kernel) (by decide +kernel)⟩
theorem fp_X9_234 : ab_fp RX9 234 9 15 false .int := ⟨(RX9, TX9, 37), rfl, by decide, ab_gw_of 711 (by decide +kernel) (by decide +kernel), rfl, by decide +kernel, fun h => by cases h⟩
theorem fl_X9_46 : ab_fl RX9 46 9 16 := ⟨(RX9, TX9, 37), rfl, by decide, ab_gw_of 712 (by decide +kernel) (by decide +kernel)⟩
theorem fp_X9_46 : ab_fp RX9 46 9 16 true (.array .int) := ⟨(RX9, TX9, 37), rfl, by decide, ab_gw_of 712 (by decide +kernel) (by decide +kernel), rfl, by decide +kernel, fun _ => rfl⟩
theorem fl_X9_49 : ab_fl RX9 49 9 17 := ⟨(RX9, TX9, 37), rfl, by decide, ab_gw_of 713 (by decide +kernel) (by decide +kernel)⟩
theorem fp_X9_49 : ab_fp RX9 49 9 17 true (.array .int) := ⟨(RX9, TX9, 37), rfl, by decide, ab_gw_of 713 (by decide +kernel) (by decide +kernel), rfl, by decide +kernel, fun _ => rfl⟩
theorem fl_X9_52 : ab_fl RX9 52 9 18 := ⟨(RX9, TX9, 37), rfl, by decide, ab_gw_of 714 (by decide +kernel) (by decide +kernel)⟩
theorem fp_X9_52 : ab_fp RX9 52 9 18 true (.array .int) := ⟨(RX9, TX9, 37), rfl, by decide, ab_gw_of 714 (by decide +kernel) (by decide +kernel), rfl, by decide +kernel, fun _ => rfl⟩
theorem fl_X9_55 : ab_fl RX9 55 9 19 := ⟨(RX9, TX9, 37), rfl, by decide, ab_gw_of 715 (by decide +kernel) (by decide +kernel)⟩
theorem fp_X9_55 : ab_fp RX9 55 9 19 true (.array .int) := ⟨(RX9, TX9, 37), rfl, by decide, ab_gw_of 715 (by decide +kernel) (by decide +kernel), rfl, by decide +kernel, fun _ => rfl⟩
theorem fl_X9_58 : ab_fl RX9 58 9 20 := ⟨(RX9, TX9, 37), rfl, by decide, ab_gw_of 716 (by decide +kernel) (by decide +kernel)⟩
theorem fp_X9_58 : ab_fp RX9 58 9 20 true (.array .int) := ⟨(RX9, TX9, 37), rfl, by decide, ab_gw_of 716 (by decide +kernel) (by decide +kernel), rfl, by decide +kernel, fun _ => rfl⟩
theorem fl_X9_61 : ab_fl RX9 61 9 21 := ⟨(RX9, TX9, 37), rfl, by decide, ab_gw_of 717 (by decide +kernel) (by decide +kernel)⟩
theorem fp_X9_61 : ab_fp RX9 61 9 21 true (.array .int) := ⟨(RX9, TX9, 37), rfl, by decide, ab_gw_of 717 (by decide +kernel) (by decide +kernel), rfl, by decide +kernel, fun _ => rfl⟩
theorem fl_X9_64 : ab_fl RX9 64 9 22 := ⟨(RX9, TX9, 37), rfl, by decide, ab_gw_of 718 (by decide +kernel) (by decide +kernel)⟩
theorem fp_X9_64 : ab_fp RX9 64 9 22 true (.array .int) := ⟨(RX9, TX9, 37), rfl, by decide, ab_gw_of 718 (by decide +kernel) (by decide +kernel), rfl, by decide +kernel, fun _ => rfl⟩
theorem fl_X9_104 : ab_fl RX9 104 9 23 := ⟨(RX9, TX9, 37), rfl, by decide, ab_gw_of 719 (by decide +kernel) (by decide +kernel)⟩
theorem fp_X9_104 : ab_fp RX9 104 9 23 false .int := ⟨(RX9, TX9, 37), rfl, by decide, ab_gw_of 719 (by decide +kernel) (by decide +kernel), rfl, by decide +kernel, fun h => by cases h⟩
theorem fl_X9_67 : ab_fl RX9 67 9 24 := ⟨(RX9, TX9, 37), rfl, by decide, ab_gw_of 720 (by decide +kernel) (by decide +kernel)⟩
theorem fp_X9_67 : ab_fp RX9 67 9 24 true (.array .int) := ⟨(RX9, TX9, 37), rfl, by decide, ab_gw_of 720 (by decide +kernel) (by decide +kernel), rfl, by decide +kernel, fun _ => rfl⟩
theorem fl_X9_130 : ab_fl RX9 130 9 25 := ⟨(RX9, TX9, 37), rfl, by decide, ab_gw_of 721 (by decide +kernel) (by decide +kernel)⟩
theorem fp_X9_130 : ab_fp RX9 130 9 25 false .int := ⟨(RX9, TX9, 37), rfl, by decide, ab_gw_of 721 (by decide +kernel) (by decide +kernel), rfl, by decide +kernel, fun h => by cases h⟩
theorem fl_X9_162 : ab_fl RX9 162 9 26 := ⟨(RX9, TX9, 37), rfl, by decide, ab_gw_of 722 (by decide +kernel) (by decide +kernel)⟩
theorem fp_X9_162 : ab_fp RX9 162 9 26 false .int := ⟨(RX9, TX9, 37), rfl, by decide, ab_gw_of 722 (by decide +kernel) (by decide +kernel), rfl, by decide +kernel, fun h => by cases h⟩
theorem fl_X9_165 : ab_fl RX9 165 9 27 := ⟨(RX9, TX9, 37), rfl, by decide, ab_gw_of 723 (by decide +kernel) (by decide +kernel)⟩
theorem fp_X9_165 : ab_fp RX9 165 9 27 false .int := ⟨(RX9, TX9, 37), rfl, by decide, ab_gw_of 723 (by decide +kernel) (by decide +kernel), rfl, by decide +kernel, fun h => by cases h⟩
theorem fl_X9_70 : ab_fl RX9 70 9 28 := ⟨(RX9, TX9, 37), rfl, by decide, ab_gw_of 724 (by decide +kernel) (by decide +kernel)⟩
theorem fp_X9_70 : ab_fp RX9 70 9 28 true (.array .int) := ⟨(RX9, TX9, 37), rfl, by decide, ab_gw_of 724 (by decide +kernel) (by decide +kernel), rfl, by decide +kernel, fun _ => rfl⟩
theorem fl_X9_73 : ab_fl RX9 73 9 29 := ⟨(RX9, TX9, 37), rfl, by decide, ab_gw_of 725 (by decide +kernel) (by decide +kernel)⟩
theorem fp_X9_73 : ab_fp RX9 73 9 29 true (.array .int) := ⟨(RX9, TX9, 37), rfl, by decide, ab_gw_of 725 (by decide +kernel) (by decide +kernel), rfl, by decide +kernel, fun _ => rfl⟩
theorem fl_X9_76 : ab_fl RX9 76 9 30 := ⟨(RX9, TX9, 37), rfl, by decide, ab_gw_of 726 (by decide +kernel) (by decide +kernel)⟩
theorem fp_X9_76 : ab_fp RX9 76 9 30 true (.array .int) := ⟨(RX9, TX9, 37), rfl, by decide, ab_gw_of 726 (by decide +kernel) (by decide +kernel), rfl, by decide +kernel, fun _ => rfl⟩
theorem fl_X9_215 : ab_fl RX9 215 9 31 := ⟨(RX9, TX9, 37), rfl, by decide, ab_gw_of 727 (by decide +kernel) (by decide +kernel)⟩
theorem fp_X9_215 : ab_fp RX9 215 9 31 false .int := ⟨(RX9, TX9, 37), rfl, by decide, ab_gw_of 727 (by decide +kernel) (by decide +kernel), rfl, by decide +kernel, fun h => by cases h⟩
theorem fl_X9_79 : ab_fl RX9 79 9 32 := ⟨(RX9, TX9, 37), rfl, by decide, ab_gw_of 728 (by decide +kernel) (by decide +kernel)⟩
theorem fp_X9_79 : ab_fp RX9 79 9 32 true (.array .int) := ⟨(RX9, TX9, 37), rfl, by decide, ab_gw_of 728 (by decide +kernel) (by decide +kernel), rfl, by decide +kernel, fun _ => rfl⟩
theorem fl_X9_82 : ab_fl RX9 82 9 33 := ⟨(RX9, TX9, 37), rfl, by decide, ab_gw_of 729 (by decide +kernel) (by decide +kernel)⟩
theorem fp_X9_82 : ab_fp RX9 82 9 33 true (.array .int) := ⟨(RX9, TX9, 37), rfl, by decide, ab_gw_of 729 (by decide +kernel) (by decide +kernel), rfl, by decide +kernel, fun _ => rfl⟩
theorem fl_X9_85 : ab_fl RX9 85 9 34 := ⟨(RX9, TX9, 37), rfl, by decide, ab_gw_of 730 (by decide +kernel) (by decide +kernel)⟩
theorem fp_X9_85 : ab_fp RX9 85 9 34 true (.array .boolean) := ⟨(RX9, TX9, 37), rfl, by decide, ab_gw_of 730 (by decide +kernel) (by decide +kernel), rfl, by decide +kernel, fun _ => rfl⟩
theorem fl_X9_266 : ab_fl RX9 266 9 35 := ⟨(RX9, TX9, 37), rfl, by decide, ab_gw_of 731 (by decide +kernel) (by decide +kernel)⟩
theorem fp_X9_266 : ab_fp RX9 266 9 35 false .int := ⟨(RX9, TX9, 37), rfl, by decide, ab_gw_of 731 (by decide +kernel) (by decide +kernel), rfl, by decide +kernel, fun h => by cases h⟩
theorem fl_X9_262 : ab_fl RX9 262 9 36 := ⟨(RX9, TX9, 37), rfl, by decide, ab_gw_of 732 (by decide +kernel) (by decide +kernel)⟩
theorem fp_X9_262 : ab_fp RX9 262 9 36 false .boolean := ⟨(RX9, TX9, 37), rfl, by decide, ab_gw_of 732 (by decide +kernel) (by decide +kernel), rfl, by decide +kernel, fun h => by cases h⟩
theorem mi_L_9 : ab_mi RL 9 YX8_init 0 := ⟨ab_gw_of 59 (by decide +kernel) (by decide +kernel), ab_gw_of 60 (by decide +kernel) (by decide +kernel), rfl, rfl, mw_X8_init⟩
theorem wo_X8_1 : Cond.methodLink RX8 1 objectInit ∈ ab_gw := ab_gw_of 62 (by decide +kernel) (by decide +kernel)
theorem mi_X8_9 : ab_mi RX8 9 YX2_init 0 := ⟨ab_gw_of 67 (by decide +kernel) (by decide +kernel), ab_gw_of 68 (by decide +kernel) (by decide +kernel), rfl, rfl, mw_X2_init⟩
theorem wo_X2_3 : Cond.methodLink RX2 3 objectInit ∈ ab_gw := ab_gw_of 70 (by decide +kernel) (by decide +kernel)
theorem mi_X8_18 : ab_mi RX8 18 YX6_init 0 := ⟨ab_gw_of 82 (by decide +kernel) (by decide +kernel), ab_gw_of 83 (by decide +kernel) (by decide +kernel), rfl, rfl, mw_X6_init⟩
theorem wo_X6_1 : Cond.methodLink RX6 1 objectInit ∈ ab_gw := ab_gw_of 85 (by decide +kernel) (by decide +kernel)
theorem mi_X6_9 : ab_mi RX6 9 YX0_init 0 := ⟨ab_gw_of 88 (by decide +kernel) (by decide +kernel), ab_gw_of 89 (by decide +kernel) (by decide +kernel), rfl, rfl, mw_X0_init⟩
theorem wo_X0_3 : Cond.methodLink RX0 3 objectInit ∈ ab_gw := ab_gw_of 91 (by decide +kernel) (by decide +kernel)
theorem ms_X0_33 : ab_ms RX0 33 YJ7_fill_53178 2 := ⟨ab_gw_of 94 (by decide +kernel) (by decide +kernel), ab_gw_of 95 (by decide +kernel) (by decide +kernel), mw_J7_fill_53178⟩
theorem mi_X0_39 : ab_mi RX0 39 YX5_init 0 := ⟨ab_gw_of 98 (by decide +kernel) (by decide +kernel), ab_gw_of 99 (by decide +kernel) (by decide +kernel), rfl, rfl, mw_X5_init⟩
theorem wo_X5_3 : Cond.methodLink RX5 3 objectInit ∈ ab_gw := ab_gw_of 101 (by decide +kernel) (by decide +kernel)
theorem mi_X6_18 : ab_mi RX6 18 YX3_init 0 := ⟨ab_gw_of 157 (by decide +kernel) (by decide +kernel), ab_gw_of 158 (by decide +kernel) (by decide +kernel), rfl, rfl, mw_X3_init⟩
theorem wo_X3_3 : Cond.methodLink RX3 3 objectInit ∈ ab_gw := ab_gw_of 160 (by decide +kernel) (by decide +kernel)
theorem mi_X8_33 : ab_mi RX8 33 YX0_init 0 := ⟨ab_gw_of 193 (by decide +kernel) (by decide +kernel), ab_gw_of 89 (by decide +kernel) (by decide +kernel), rfl, rfl, mw_X0_init⟩
theorem mi_X8_40 : ab_mi RX8 40 YX1_init 0 := ⟨ab_gw_of 196 (by decide +kernel) (by decide +kernel), ab_gw_of 197 (by decide +kernel) (by decide +kernel), rfl, rfl, mw_X1_init⟩
theorem wo_X1_3 : Cond.methodLink RX1 3 objectInit ∈ ab_gw := ab_gw_of 199 (by decide +kernel) (by decide +kernel)
theorem mi_X1_11 : ab_mi RX1 11 YX3_init 0 := ⟨ab_gw_of 201 (by decide +kernel) (by decide +kernel), ab_gw_of 158 (by decide +kernel) (by decide +kernel), rfl, rfl, mw_X3_init⟩
theorem mi_X8_47 : ab_mi RX8 47 YX4_init 0 := ⟨ab_gw_of 218 (by decide +kernel) (by decide +kernel), ab_gw_of 219 (by decide +kernel) (by decide +kernel), rfl, rfl, mw_X4_init⟩
theorem wo_X4_3 : Cond.methodLink RX4 3 objectInit ∈ ab_gw := ab_gw_of 221 (by decide +kernel) (by decide +kernel)
theorem mi_X4_17 : ab_mi RX4 17 YX0_init 0 := ⟨ab_gw_of 224 (by decide +kernel) (by decide +kernel), ab_gw_of 89 (by decide +kernel) (by decide +kernel), rfl, rfl, mw_X0_init⟩
theorem mi_X8_54 : ab_mi RX8 54 YX7_init 0 := ⟨ab_gw_of 257 (by decide +kernel) (by decide +kernel), ab_gw_of 258 (by decide +kernel) (by decide +kernel), rfl, rfl, mw_X7_init⟩
theorem wo_X7_3 : Cond.methodLink RX7 3 objectInit ∈ ab_gw := ab_gw_of 260 (by decide +kernel) (by decide +kernel)
theorem mv_L_13 : ab_mv RL 13 YX8_monk 3 := ⟨ab_gw_of 301 (by decide +kernel) (by decide +kernel), ab_gw_of 302 (by decide +kernel) (by decide +kernel), ab_gw_of 303 (by decide +kernel) (by decide +kernel), mw_X8_monk⟩
theorem ms_X8_59 : ab_ms RX8 59 YX8_isIn 3 := ⟨ab_gw_of 305 (by decide +kernel) (by decide +kernel), ab_gw_of 306 (by decide +kernel) (by decide +kernel), mw_X8_isIn⟩
theorem mv_L_18 : ab_mv RL 18 YX8_wear 1 := ⟨ab_gw_of 308 (by decide +kernel) (by decide +kernel), ab_gw_of 309 (by decide +kernel) (by decide +kernel), ab_gw_of 310 (by decide +kernel) (by decide +kernel), mw_X8_wear⟩
theorem mv_L_23 : ab_mv RL 23 YX8_say 1 := ⟨ab_gw_of 312 (by decide +kernel) (by decide +kernel), ab_gw_of 313 (by decide +kernel) (by decide +kernel), ab_gw_of 314 (by decide +kernel) (by decide +kernel), mw_X8_say⟩
theorem mv_X8_77 : ab_mv RX8 77 YX2_put 1 := ⟨ab_gw_of 316 (by decide +kernel) (by decide +kernel), ab_gw_of 317 (by decide +kernel) (by decide +kernel), ab_gw_of 318 (by decide +kernel) (by decide +kernel), mw_X2_put⟩
theorem mv_L_27 : ab_mv RL 27 YX8_wipe 0 := ⟨ab_gw_of 320 (by decide +kernel) (by decide +kernel), ab_gw_of 321 (by decide +kernel) (by decide +kernel), ab_gw_of 322 (by decide +kernel) (by decide +kernel), mw_X8_wipe⟩
theorem mv_X8_84 : ab_mv RX8 84 YX2_clear 0 := ⟨ab_gw_of 324 (by decide +kernel) (by decide +kernel), ab_gw_of 325 (by decide +kernel) (by decide +kernel), ab_gw_of 326 (by decide +kernel) (by decide +kernel), mw_X2_clear⟩
theorem mv_L_32 : ab_mv RL 32 YX8_fault 0 := ⟨ab_gw_of 328 (by decide +kernel) (by decide +kernel), ab_gw_of 329 (by decide +kernel) (by decide +kernel), ab_gw_of 330 (by decide +kernel) (by decide +kernel), mw_X8_fault⟩
theorem mv_X8_88 : ab_mv RX8 88 YX2_firstFault 0 := ⟨ab_gw_of 332 (by decide +kernel) (by decide +kernel), ab_gw_of 333 (by decide +kernel) (by decide +kernel), ab_gw_of 334 (by decide +kernel) (by decide +kernel), mw_X2_firstFault⟩
theorem ms_X2_19 : ab_ms RX2 19 YX2_behind 2 := ⟨ab_gw_of 336 (by decide +kernel) (by decide +kernel), ab_gw_of 337 (by decide +kernel) (by decide +kernel), mw_X2_behind⟩
theorem mv_L_36 : ab_mv RL 36 YX8_judge 1 := ⟨ab_gw_of 340 (by decide +kernel) (by decide +kernel), ab_gw_of 341 (by decide +kernel) (by decide +kernel), ab_gw_of 342 (by decide +kernel) (by decide +kernel), mw_X8_judge⟩
theorem mv_X8_91 : ab_mv RX8 91 YX8_tryText 0 := ⟨ab_gw_of 344 (by decide +kernel) (by decide +kernel), ab_gw_of 346 (by decide +kernel) (by decide +kernel), ab_gw_of 0 (by decide +kernel) (by decide +kernel), mw_X8_tryText⟩
theorem mv_X8_101 : ab_mv RX8 101 YX0_become 1 := ⟨ab_gw_of 348 (by decide +kernel) (by decide +kernel), ab_gw_of 349 (by decide +kernel) (by decide +kernel), ab_gw_of 350 (by decide +kernel) (by decide +kernel), mw_X0_become⟩
theorem wa_X0_44 : Cond.methodLink RX0 44 arraycopyName ∈ ab_gw := ab_gw_of 352 (by decide +kernel) (by decide +kernel)
theorem mv_X0_50 : ab_mv RX0 50 YX5_become 1 := ⟨ab_gw_of 355 (by decide +kernel) (by decide +kernel), ab_gw_of 356 (by decide +kernel) (by decide +kernel), ab_gw_of 357 (by decide +kernel) (by decide +kernel), mw_X5_become⟩
theorem wa_X5_25 : Cond.methodLink RX5 25 arraycopyName ∈ ab_gw := ab_gw_of 359 (by decide +kernel) (by decide +kernel)
theorem mv_X8_228 : ab_mv RX8 228 YX2_follow 1 := ⟨ab_gw_of 360 (by decide +kernel) (by decide +kernel), ab_gw_of 361 (by decide +kernel) (by decide +kernel), ab_gw_of 362 (by decide +kernel) (by decide +kernel), mw_X2_follow⟩
theorem mv_X2_27 : ab_mv RX2 27 YX2_doPart 3 := ⟨ab_gw_of 364 (by decide +kernel) (by decide +kernel), ab_gw_of 366 (by decide +kernel) (by decide +kernel), ab_gw_of 1 (by decide +kernel) (by decide +kernel), mw_X2_doPart⟩
theorem mv_X2_31 : ab_mv RX2 31 YX0_passWeek 0 := ⟨ab_gw_of 368 (by decide +kernel) (by decide +kernel), ab_gw_of 369 (by decide +kernel) (by decide +kernel), ab_gw_of 370 (by decide +kernel) (by decide +kernel), mw_X0_passWeek⟩
theorem mv_X0_65 : ab_mv RX0 65 YX5_lose 2 := ⟨ab_gw_of 372 (by decide +kernel) (by decide +kernel), ab_gw_of 373 (by decide +kernel) (by decide +kernel), ab_gw_of 374 (by decide +kernel) (by decide +kernel), mw_X5_lose⟩
theorem mv_X5_35 : ab_mv RX5 35 YX5_dropOldest 1 := ⟨ab_gw_of 376 (by decide +kernel) (by decide +kernel), ab_gw_of 378 (by decide +kernel) (by decide +kernel), ab_gw_of 2 (by decide +kernel) (by decide +kernel), mw_X5_dropOldest⟩
theorem mv_X2_36 : ab_mv RX2 36 YX0_sin 2 := ⟨ab_gw_of 380 (by decide +kernel) (by decide +kernel), ab_gw_of 381 (by decide +kernel) (by decide +kernel), ab_gw_of 382 (by decide +kernel) (by decide +kernel), mw_X0_sin⟩
theorem mv_X2_39 : ab_mv RX2 39 YX0_pray 2 := ⟨ab_gw_of 384 (by decide +kernel) (by decide +kernel), ab_gw_of 385 (by decide +kernel) (by decide +kernel), ab_gw_of 386 (by decide +kernel) (by decide +kernel), mw_X0_pray⟩
theorem mv_X2_42 : ab_mv RX2 42 YX0_weave 2 := ⟨ab_gw_of 388 (by decide +kernel) (by decide +kernel), ab_gw_of 389 (by decide +kernel) (by decide +kernel), ab_gw_of 390 (by decide +kernel) (by decide +kernel), mw_X0_weave⟩
theorem mv_X0_57 : ab_mv RX0 57 YX5_hasRoom 0 := ⟨ab_gw_of 392 (by decide +kernel) (by decide +kernel), ab_gw_of 393 (by decide +kernel) (by decide +kernel), ab_gw_of 394 (by decide +kernel) (by decide +kernel), mw_X5_hasRoom⟩
theorem mv_X0_61 : ab_mv RX0 61 YX5_add 3 := ⟨ab_gw_of 396 (by decide +kernel) (by decide +kernel), ab_gw_of 397 (by decide +kernel) (by decide +kernel), ab_gw_of 398 (by decide +kernel) (by decide +kernel), mw_X5_add⟩
theorem mv_X5_31 : ab_mv RX5 31 YX5_hasRoom 0 := ⟨ab_gw_of 400 (by decide +kernel) (by decide +kernel), ab_gw_of 393 (by decide +kernel) (by decide +kernel), ab_gw_of 394 (by decide +kernel) (by decide +kernel), mw_X5_hasRoom⟩
theorem ms_X8_94 : ab_ms RX8 94 YX2_why 1 := ⟨ab_gw_of 401 (by decide +kernel) (by decide +kernel), ab_gw_of 402 (by decide +kernel) (by decide +kernel), mw_X2_why⟩
theorem ms_X8_98 : ab_ms RX8 98 YX2_parts 1 := ⟨ab_gw_of 404 (by decide +kernel) (by decide +kernel), ab_gw_of 405 (by decide +kernel) (by decide +kernel), mw_X2_parts⟩
theorem mv_L_40 : ab_mv RL 40 YX8_done 0 := ⟨ab_gw_of 407 (by decide +kernel) (by decide +kernel), ab_gw_of 408 (by decide +kernel) (by decide +kernel), ab_gw_of 409 (by decide +kernel) (by decide +kernel), mw_X8_done⟩
theorem mv_L_44 : ab_mv RL 44 YX8_lock 3 := ⟨ab_gw_of 411 (by decide +kernel) (by decide +kernel), ab_gw_of 412 (by decide +kernel) (by decide +kernel), ab_gw_of 413 (by decide +kernel) (by decide +kernel), mw_X8_lock⟩
theorem mv_L_48 : ab_mv RL 48 YX8_power 1 := ⟨ab_gw_of 415 (by decide +kernel) (by decide +kernel), ab_gw_of 416 (by decide +kernel) (by decide +kernel), ab_gw_of 417 (by decide +kernel) (by decide +kernel), mw_X8_power⟩
theorem mv_X8_123 : ab_mv RX8 123 YX5_powerLess 2 := ⟨ab_gw_of 419 (by decide +kernel) (by decide +kernel), ab_gw_of 420 (by decide +kernel) (by decide +kernel), ab_gw_of 421 (by decide +kernel) (by decide +kernel), mw_X5_powerLess⟩
theorem ms_X5_39 : ab_ms RX5 39 YJ9_min_7cf53 2 := ⟨ab_gw_of 423 (by decide +kernel) (by decide +kernel), ab_gw_of 424 (by decide +kernel) (by decide +kernel), mw_J9_min_7cf53⟩
theorem mv_L_52 : ab_mv RL 52 YX8_bears 0 := ⟨ab_gw_of 426 (by decide +kernel) (by decide +kernel), ab_gw_of 427 (by decide +kernel) (by decide +kernel), ab_gw_of 428 (by decide +kernel) (by decide +kernel), mw_X8_bears⟩
theorem mv_X8_127 : ab_mv RX8 127 YX0_bearsLess 1 := ⟨ab_gw_of 430 (by decide +kernel) (by decide +kernel), ab_gw_of 431 (by decide +kernel) (by decide +kernel), ab_gw_of 432 (by decide +kernel) (by decide +kernel), mw_X0_bearsLess⟩
theorem mv_X0_85 : ab_mv RX0 85 YX5_powerLess 2 := ⟨ab_gw_of 434 (by decide +kernel) (by decide +kernel), ab_gw_of 420 (by decide +kernel) (by decide +kernel), ab_gw_of 421 (by decide +kernel) (by decide +kernel), mw_X5_powerLess⟩
theorem ms_X8_232 : ab_ms RX8 232 YJ9_max_7cf53 2 := ⟨ab_gw_of 438 (by decide +kernel) (by decide +kernel), ab_gw_of 439 (by decide +kernel) (by decide +kernel), mw_J9_max_7cf53⟩
theorem mv_L_56 : ab_mv RL 56 YX8_broken 1 := ⟨ab_gw_of 441 (by decide +kernel) (by decide +kernel), ab_gw_of 442 (by decide +kernel) (by decide +kernel), ab_gw_of 443 (by decide +kernel) (by decide +kernel), mw_X8_broken⟩
theorem mv_X8_131 : ab_mv RX8 131 YX0_brokenUnder 1 := ⟨ab_gw_of 446 (by decide +kernel) (by decide +kernel), ab_gw_of 447 (by decide +kernel) (by decide +kernel), ab_gw_of 448 (by decide +kernel) (by decide +kernel), mw_X0_brokenUnder⟩
theorem mv_X0_93 : ab_mv RX0 93 YX0_breaking 2 := ⟨ab_gw_of 450 (by decide +kernel) (by decide +kernel), ab_gw_of 452 (by decide +kernel) (by decide +kernel), ab_gw_of 3 (by decide +kernel) (by decide +kernel), mw_X0_breaking⟩
theorem ms_X0_96 : ab_ms RX0 96 YJ6_bitCount_0f7a4 1 := ⟨ab_gw_of 454 (by decide +kernel) (by decide +kernel), ab_gw_of 455 (by decide +kernel) (by decide +kernel), mw_J6_bitCount_0f7a4⟩
theorem mv_L_60 : ab_mv RL 60 YX8_share 2 := ⟨ab_gw_of 460 (by decide +kernel) (by decide +kernel), ab_gw_of 461 (by decide +kernel) (by decide +kernel), ab_gw_of 462 (by decide +kernel) (by decide +kernel), mw_X8_share⟩
theorem mv_X8_138 : ab_mv RX8 138 YX0_powerOf 1 := ⟨ab_gw_of 466 (by decide +kernel) (by decide +kernel), ab_gw_of 467 (by decide +kernel) (by decide +kernel), ab_gw_of 468 (by decide +kernel) (by decide +kernel), mw_X0_powerOf⟩
theorem mv_X0_105 : ab_mv RX0 105 YX0_inchesOf 1 := ⟨ab_gw_of 470 (by decide +kernel) (by decide +kernel), ab_gw_of 471 (by decide +kernel) (by decide +kernel), ab_gw_of 472 (by decide +kernel) (by decide +kernel), mw_X0_inchesOf⟩
theorem mv_X0_102 : ab_mv RX0 102 YX5_lengthOf 1 := ⟨ab_gw_of 474 (by decide +kernel) (by decide +kernel), ab_gw_of 475 (by decide +kernel) (by decide +kernel), ab_gw_of 476 (by decide +kernel) (by decide +kernel), mw_X5_lengthOf⟩
theorem ms_X8_143 : ab_ms RX8 143 YX8_commonDivisor 2 := ⟨ab_gw_of 479 (by decide +kernel) (by decide +kernel), ab_gw_of 480 (by decide +kernel) (by decide +kernel), mw_X8_commonDivisor⟩
theorem mv_L_65 : ab_mv RL 65 YX8_led 2 := ⟨ab_gw_of 482 (by decide +kernel) (by decide +kernel), ab_gw_of 483 (by decide +kernel) (by decide +kernel), ab_gw_of 484 (by decide +kernel) (by decide +kernel), mw_X8_led⟩
theorem mv_X8_147 : ab_mv RX8 147 YX0_inchesOf 1 := ⟨ab_gw_of 486 (by decide +kernel) (by decide +kernel), ab_gw_of 471 (by decide +kernel) (by decide +kernel), ab_gw_of 472 (by decide +kernel) (by decide +kernel), mw_X0_inchesOf⟩
theorem mv_L_70 : ab_mv RL 70 YX8_load 2 := ⟨ab_gw_of 487 (by decide +kernel) (by decide +kernel), ab_gw_of 488 (by decide +kernel) (by decide +kernel), ab_gw_of 489 (by decide +kernel) (by decide +kernel), mw_X8_load⟩
theorem mv_X8_157 : ab_mv RX8 157 YX3_put 2 := ⟨ab_gw_of 491 (by decide +kernel) (by decide +kernel), ab_gw_of 492 (by decide +kernel) (by decide +kernel), ab_gw_of 493 (by decide +kernel) (by decide +kernel), mw_X3_put⟩
theorem mv_L_74 : ab_mv RL 74 YX8_drop 0 := ⟨ab_gw_of 495 (by decide +kernel) (by decide +kernel), ab_gw_of 496 (by decide +kernel) (by decide +kernel), ab_gw_of 497 (by decide +kernel) (by decide +kernel), mw_X8_drop⟩
theorem mv_X8_163 : ab_mv RX8 163 YX3_clear 0 := ⟨ab_gw_of 499 (by decide +kernel) (by decide +kernel), ab_gw_of 500 (by decide +kernel) (by decide +kernel), ab_gw_of 501 (by decide +kernel) (by decide +kernel), mw_X3_clear⟩
theorem mv_L_78 : ab_mv RL 78 YX8_best 1 := ⟨ab_gw_of 503 (by decide +kernel) (by decide +kernel), ab_gw_of 504 (by decide +kernel) (by decide +kernel), ab_gw_of 505 (by decide +kernel) (by decide +kernel), mw_X8_best⟩
theorem mv_X8_164 : ab_mv RX8 164 YX1_reckon 2 := ⟨ab_gw_of 507 (by decide +kernel) (by decide +kernel), ab_gw_of 508 (by decide +kernel) (by decide +kernel), ab_gw_of 509 (by decide +kernel) (by decide +kernel), mw_X1_reckon⟩
theorem mv_X1_28 : ab_mv RX1 28 YX3_become 1 := ⟨ab_gw_of 511 (by decide +kernel) (by decide +kernel), ab_gw_of 512 (by decide +kernel) (by decide +kernel), ab_gw_of 513 (by decide +kernel) (by decide +kernel), mw_X3_become⟩
theorem wa_X3_22 : Cond.methodLink RX3 22 arraycopyName ∈ ab_gw := ab_gw_of 515 (by decide +kernel) (by decide +kernel)
theorem mv_X1_36 : ab_mv RX1 36 YX0_bearsLess 1 := ⟨ab_gw_of 516 (by decide +kernel) (by decide +kernel), ab_gw_of 431 (by decide +kernel) (by decide +kernel), ab_gw_of 432 (by decide +kernel) (by decide +kernel), mw_X0_bearsLess⟩
theorem ms_X1_42 : ab_ms RX1 42 YJ6_bitCount_0f7a4 1 := ⟨ab_gw_of 517 (by decide +kernel) (by decide +kernel), ab_gw_of 455 (by decide +kernel) (by decide +kernel), mw_J6_bitCount_0f7a4⟩
theorem mv_X1_47 : ab_mv RX1 47 YX1_mostFrom 2 := ⟨ab_gw_of 518 (by decide +kernel) (by decide +kernel), ab_gw_of 520 (by decide +kernel) (by decide +kernel), ab_gw_of 4 (by decide +kernel) (by decide +kernel), mw_X1_mostFrom⟩
theorem mv_X1_54 : ab_mv RX1 54 YX1_worthBy 3 := ⟨ab_gw_of 522 (by decide +kernel) (by decide +kernel), ab_gw_of 524 (by decide +kernel) (by decide +kernel), ab_gw_of 5 (by decide +kernel) (by decide +kernel), mw_X1_worthBy⟩
theorem mv_X1_66 : ab_mv RX1 66 YX1_crosses 2 := ⟨ab_gw_of 526 (by decide +kernel) (by decide +kernel), ab_gw_of 528 (by decide +kernel) (by decide +kernel), ab_gw_of 6 (by decide +kernel) (by decide +kernel), mw_X1_crosses⟩
theorem ms_X1_58 : ab_ms RX1 58 YJ9_max_7cf53 2 := ⟨ab_gw_of 530 (by decide +kernel) (by decide +kernel), ab_gw_of 439 (by decide +kernel) (by decide +kernel), mw_J9_max_7cf53⟩
theorem mv_X1_51 : ab_mv RX1 51 YX1_findOrder 0 := ⟨ab_gw_of 531 (by decide +kernel) (by decide +kernel), ab_gw_of 533 (by decide +kernel) (by decide +kernel), ab_gw_of 7 (by decide +kernel) (by decide +kernel), mw_X1_findOrder⟩
theorem mv_X1_73 : ab_mv RX1 73 YX1_firstBest 2 := ⟨ab_gw_of 535 (by decide +kernel) (by decide +kernel), ab_gw_of 537 (by decide +kernel) (by decide +kernel), ab_gw_of 8 (by decide +kernel) (by decide +kernel), mw_X1_firstBest⟩
theorem mv_X8_168 : ab_mv RX8 168 YX1_most 0 := ⟨ab_gw_of 539 (by decide +kernel) (by decide +kernel), ab_gw_of 540 (by decide +kernel) (by decide +kernel), ab_gw_of 541 (by decide +kernel) (by decide +kernel), mw_X1_most⟩
theorem mv_X8_171 : ab_mv RX8 171 YX1_turn 1 := ⟨ab_gw_of 543 (by decide +kernel) (by decide +kernel), ab_gw_of 544 (by decide +kernel) (by decide +kernel), ab_gw_of 545 (by decide +kernel) (by decide +kernel), mw_X1_turn⟩
theorem mv_L_82 : ab_mv RL 82 YX8_renewed 3 := ⟨ab_gw_of 547 (by decide +kernel) (by decide +kernel), ab_gw_of 548 (by decide +kernel) (by decide +kernel), ab_gw_of 549 (by decide +kernel) (by decide +kernel), mw_X8_renewed⟩
theorem mv_X8_174 : ab_mv RX8 174 YX4_fewestInches 3 := ⟨ab_gw_of 551 (by decide +kernel) (by decide +kernel), ab_gw_of 552 (by decide +kernel) (by decide +kernel), ab_gw_of 553 (by decide +kernel) (by decide +kernel), mw_X4_fewestInches⟩
theorem mv_X4_46 : ab_mv RX4 46 YX0_become 1 := ⟨ab_gw_of 555 (by decide +kernel) (by decide +kernel), ab_gw_of 349 (by decide +kernel) (by decide +kernel), ab_gw_of 350 (by decide +kernel) (by decide +kernel), mw_X0_become⟩
theorem mv_X4_50 : ab_mv RX4 50 YX4_sortByBasket 1 := ⟨ab_gw_of 556 (by decide +kernel) (by decide +kernel), ab_gw_of 558 (by decide +kernel) (by decide +kernel), ab_gw_of 9 (by decide +kernel) (by decide +kernel), mw_X4_sortByBasket⟩
theorem mv_X4_57 : ab_mv RX4 57 YX0_powerInBasket 1 := ⟨ab_gw_of 560 (by decide +kernel) (by decide +kernel), ab_gw_of 561 (by decide +kernel) (by decide +kernel), ab_gw_of 562 (by decide +kernel) (by decide +kernel), mw_X0_powerInBasket⟩
theorem mv_X4_53 : ab_mv RX4 53 YX4_tryFrom 2 := ⟨ab_gw_of 564 (by decide +kernel) (by decide +kernel), ab_gw_of 566 (by decide +kernel) (by decide +kernel), ab_gw_of 10 (by decide +kernel) (by decide +kernel), mw_X4_tryFrom⟩
theorem wa_X4_61 : Cond.methodLink RX4 61 arraycopyName ∈ ab_gw := ab_gw_of 568 (by decide +kernel) (by decide +kernel)
theorem mv_X4_67 : ab_mv RX4 67 YX4_isHopeless 1 := ⟨ab_gw_of 569 (by decide +kernel) (by decide +kernel), ab_gw_of 571 (by decide +kernel) (by decide +kernel), ab_gw_of 11 (by decide +kernel) (by decide +kernel), mw_X4_isHopeless⟩
theorem mv_X4_118 : ab_mv RX4 118 YX5_powerLess 2 := ⟨ab_gw_of 573 (by decide +kernel) (by decide +kernel), ab_gw_of 420 (by decide +kernel) (by decide +kernel), ab_gw_of 421 (by decide +kernel) (by decide +kernel), mw_X5_powerLess⟩
theorem mv_X4_71 : ab_mv RX4 71 YX4_foresee 1 := ⟨ab_gw_of 574 (by decide +kernel) (by decide +kernel), ab_gw_of 576 (by decide +kernel) (by decide +kernel), ab_gw_of 12 (by decide +kernel) (by decide +kernel), mw_X4_foresee⟩
theorem mv_X4_122 : ab_mv RX4 122 YX5_length 0 := ⟨ab_gw_of 578 (by decide +kernel) (by decide +kernel), ab_gw_of 579 (by decide +kernel) (by decide +kernel), ab_gw_of 580 (by decide +kernel) (by decide +kernel), mw_X5_length⟩
theorem ms_X4_97 : ab_ms RX4 97 YJ9_max_7cf53 2 := ⟨ab_gw_of 582 (by decide +kernel) (by decide +kernel), ab_gw_of 439 (by decide +kernel) (by decide +kernel), mw_J9_max_7cf53⟩
theorem mv_X4_75 : ab_mv RX4 75 YX4_tryStep 4 := ⟨ab_gw_of 583 (by decide +kernel) (by decide +kernel), ab_gw_of 585 (by decide +kernel) (by decide +kernel), ab_gw_of 13 (by decide +kernel) (by decide +kernel), mw_X4_tryStep⟩
theorem mv_X4_82 : ab_mv RX4 82 YX4_holdsBehind 3 := ⟨ab_gw_of 587 (by decide +kernel) (by decide +kernel), ab_gw_of 589 (by decide +kernel) (by decide +kernel), ab_gw_of 14 (by decide +kernel) (by decide +kernel), mw_X4_holdsBehind⟩
theorem mv_X4_109 : ab_mv RX4 109 YX5_hasRoom 0 := ⟨ab_gw_of 592 (by decide +kernel) (by decide +kernel), ab_gw_of 393 (by decide +kernel) (by decide +kernel), ab_gw_of 394 (by decide +kernel) (by decide +kernel), mw_X5_hasRoom⟩
theorem mv_X4_86 : ab_mv RX4 86 YX0_weave 2 := ⟨ab_gw_of 593 (by decide +kernel) (by decide +kernel), ab_gw_of 389 (by decide +kernel) (by decide +kernel), ab_gw_of 390 (by decide +kernel) (by decide +kernel), mw_X0_weave⟩
theorem mv_X4_90 : ab_mv RX4 90 YX0_passWeek 0 := ⟨ab_gw_of 594 (by decide +kernel) (by decide +kernel), ab_gw_of 369 (by decide +kernel) (by decide +kernel), ab_gw_of 370 (by decide +kernel) (by decide +kernel), mw_X0_passWeek⟩
theorem mv_X8_178 : ab_mv RX8 178 YX4_wovenAhead 1 := ⟨ab_gw_of 595 (by decide +kernel) (by decide +kernel), ab_gw_of 596 (by decide +kernel) (by decide +kernel), ab_gw_of 597 (by decide +kernel) (by decide +kernel), mw_X4_wovenAhead⟩
theorem mv_L_86 : ab_mv RL 86 YX8_soon 4 := ⟨ab_gw_of 599 (by decide +kernel) (by decide +kernel), ab_gw_of 600 (by decide +kernel) (by decide +kernel), ab_gw_of 601 (by decide +kernel) (by decide +kernel), mw_X8_soon⟩
theorem mv_X8_181 : ab_mv RX8 181 YX0_giveAll 3 := ⟨ab_gw_of 603 (by decide +kernel) (by decide +kernel), ab_gw_of 604 (by decide +kernel) (by decide +kernel), ab_gw_of 605 (by decide +kernel) (by decide +kernel), mw_X0_giveAll⟩
theorem ms_X0_69 : ab_ms RX0 69 YJ9_min_7cf53 2 := ⟨ab_gw_of 607 (by decide +kernel) (by decide +kernel), ab_gw_of 424 (by decide +kernel) (by decide +kernel), mw_J9_min_7cf53⟩
theorem mv_X0_75 : ab_mv RX0 75 YX0_weave 2 := ⟨ab_gw_of 608 (by decide +kernel) (by decide +kernel), ab_gw_of 389 (by decide +kernel) (by decide +kernel), ab_gw_of 390 (by decide +kernel) (by decide +kernel), mw_X0_weave⟩
theorem mv_X8_185 : ab_mv RX8 185 YX0_passWeek 0 := ⟨ab_gw_of 609 (by decide +kernel) (by decide +kernel), ab_gw_of 369 (by decide +kernel) (by decide +kernel), ab_gw_of 370 (by decide +kernel) (by decide +kernel), mw_X0_passWeek⟩
theorem mv_L_91 : ab_mv RL 91 YX8_weighed 2 := ⟨ab_gw_of 610 (by decide +kernel) (by decide +kernel), ab_gw_of 611 (by decide +kernel) (by decide +kernel), ab_gw_of 612 (by decide +kernel) (by decide +kernel), mw_X8_weighed⟩
theorem mv_L_95 : ab_mv RL 95 YX8_forget 0 := ⟨ab_gw_of 614 (by decide +kernel) (by decide +kernel), ab_gw_of 615 (by decide +kernel) (by decide +kernel), ab_gw_of 616 (by decide +kernel) (by decide +kernel), mw_X8_forget⟩
theorem mv_L_99 : ab_mv RL 99 YX8_canBe 1 := ⟨ab_gw_of 618 (by decide +kernel) (by decide +kernel), ab_gw_of 619 (by decide +kernel) (by decide +kernel), ab_gw_of 620 (by decide +kernel) (by decide +kernel), mw_X8_canBe⟩
theorem mv_X8_191 : ab_mv RX8 191 YX7_find 2 := ⟨ab_gw_of 622 (by decide +kernel) (by decide +kernel), ab_gw_of 623 (by decide +kernel) (by decide +kernel), ab_gw_of 624 (by decide +kernel) (by decide +kernel), mw_X7_find⟩
theorem ms_X7_21 : ab_ms RX7 21 YJ6_numberOfTrailingZeros_0f7a4 1 := ⟨ab_gw_of 626 (by decide +kernel) (by decide +kernel), ab_gw_of 627 (by decide +kernel) (by decide +kernel), mw_J6_numberOfTrailingZeros_0f7a4⟩
theorem mv_X7_31 : ab_mv RX7 31 YX7_fits 2 := ⟨ab_gw_of 630 (by decide +kernel) (by decide +kernel), ab_gw_of 632 (by decide +kernel) (by decide +kernel), ab_gw_of 15 (by decide +kernel) (by decide +kernel), mw_X7_fits⟩
theorem mv_L_103 : ab_mv RL 103 YX8_sure 1 := ⟨ab_gw_of 634 (by decide +kernel) (by decide +kernel), ab_gw_of 635 (by decide +kernel) (by decide +kernel), ab_gw_of 636 (by decide +kernel) (by decide +kernel), mw_X8_sure⟩
theorem mv_X8_199 : ab_mv RX8 199 YX7_inEach 0 := ⟨ab_gw_of 638 (by decide +kernel) (by decide +kernel), ab_gw_of 639 (by decide +kernel) (by decide +kernel), ab_gw_of 640 (by decide +kernel) (by decide +kernel), mw_X7_inEach⟩
theorem mv_X8_202 : ab_mv RX8 202 YX7_inNone 0 := ⟨ab_gw_of 642 (by decide +kernel) (by decide +kernel), ab_gw_of 643 (by decide +kernel) (by decide +kernel), ab_gw_of 644 (by decide +kernel) (by decide +kernel), mw_X7_inNone⟩
theorem mv_X8_205 : ab_mv RX8 205 YX7_bestToAsk 0 := ⟨ab_gw_of 646 (by decide +kernel) (by decide +kernel), ab_gw_of 647 (by decide +kernel) (by decide +kernel), ab_gw_of 648 (by decide +kernel) (by decide +kernel), mw_X7_bestToAsk⟩
theorem mv_X7_44 : ab_mv RX7 44 YX7_mostAlike 1 := ⟨ab_gw_of 650 (by decide +kernel) (by decide +kernel), ab_gw_of 652 (by decide +kernel) (by decide +kernel), ab_gw_of 16 (by decide +kernel) (by decide +kernel), mw_X7_mostAlike⟩
theorem ms_X7_47 : ab_ms RX7 47 YJ9_max_7cf53 2 := ⟨ab_gw_of 654 (by decide +kernel) (by decide +kernel), ab_gw_of 439 (by decide +kernel) (by decide +kernel), mw_J9_max_7cf53⟩
theorem mv_L_107 : ab_mv RL 107 YX8_year 3 := ⟨ab_gw_of 655 (by decide +kernel) (by decide +kernel), ab_gw_of 656 (by decide +kernel) (by decide +kernel), ab_gw_of 657 (by decide +kernel) (by decide +kernel), mw_X8_year⟩
theorem mv_X8_211 : ab_mv RX8 211 YX0_drawDeeds 1 := ⟨ab_gw_of 660 (by decide +kernel) (by decide +kernel), ab_gw_of 661 (by decide +kernel) (by decide +kernel), ab_gw_of 662 (by decide +kernel) (by decide +kernel), mw_X0_drawDeeds⟩
theorem mv_X0_79 : ab_mv RX0 79 YX0_sin 2 := ⟨ab_gw_of 665 (by decide +kernel) (by decide +kernel), ab_gw_of 381 (by decide +kernel) (by decide +kernel), ab_gw_of 382 (by decide +kernel) (by decide +kernel), mw_X0_sin⟩
theorem mv_X0_82 : ab_mv RX0 82 YX0_pray 2 := ⟨ab_gw_of 666 (by decide +kernel) (by decide +kernel), ab_gw_of 385 (by decide +kernel) (by decide +kernel), ab_gw_of 386 (by decide +kernel) (by decide +kernel), mw_X0_pray⟩
theorem ms_X8_214 : ab_ms RX8 214 YJ9_min_7cf53 2 := ⟨ab_gw_of 667 (by decide +kernel) (by decide +kernel), ab_gw_of 424 (by decide +kernel) (by decide +kernel), mw_J9_min_7cf53⟩
theorem mv_L_111 : ab_mv RL 111 YX8_image 1 := ⟨ab_gw_of 668 (by decide +kernel) (by decide +kernel), ab_gw_of 669 (by decide +kernel) (by decide +kernel), ab_gw_of 670 (by decide +kernel) (by decide +kernel), mw_X8_image⟩
theorem mv_X8_219 : ab_mv RX8 219 YX6_become 1 := ⟨ab_gw_of 672 (by decide +kernel) (by decide +kernel), ab_gw_of 673 (by decide +kernel) (by decide +kernel), ab_gw_of 674 (by decide +kernel) (by decide +kernel), mw_X6_become⟩
theorem mv_X6_26 : ab_mv RX6 26 YX0_become 1 := ⟨ab_gw_of 676 (by decide +kernel) (by decide +kernel), ab_gw_of 349 (by decide +kernel) (by decide +kernel), ab_gw_of 350 (by decide +kernel) (by decide +kernel), mw_X0_become⟩
theorem mv_X6_30 : ab_mv RX6 30 YX3_become 1 := ⟨ab_gw_of 677 (by decide +kernel) (by decide +kernel), ab_gw_of 512 (by decide +kernel) (by decide +kernel), ab_gw_of 513 (by decide +kernel) (by decide +kernel), mw_X3_become⟩
theorem mv_L_115 : ab_mv RL 115 YX8_restore 1 := ⟨ab_gw_of 678 (by decide +kernel) (by decide +kernel), ab_gw_of 679 (by decide +kernel) (by decide +kernel), ab_gw_of 680 (by decide +kernel) (by decide +kernel), mw_X8_restore⟩
theorem mv_L_119 : ab_mv RL 119 YX8_told 1 := ⟨ab_gw_of 682 (by decide +kernel) (by decide +kernel), ab_gw_of 683 (by decide +kernel) (by decide +kernel), ab_gw_of 684 (by decide +kernel) (by decide +kernel), mw_X8_told⟩
theorem mv_X8_222 : ab_mv RX8 222 YX8_toldOfOne 1 := ⟨ab_gw_of 686 (by decide +kernel) (by decide +kernel), ab_gw_of 688 (by decide +kernel) (by decide +kernel), ab_gw_of 17 (by decide +kernel) (by decide +kernel), mw_X8_toldOfOne⟩
theorem mi_L_12 : ab_mi RL 12 YX9_init 0 := ⟨ab_gw_of 692 (by decide +kernel) (by decide +kernel), ab_gw_of 693 (by decide +kernel) (by decide +kernel), rfl, rfl, mw_X9_init⟩
theorem wo_X9_1 : Cond.methodLink RX9 1 objectInit ∈ ab_gw := ab_gw_of 695 (by decide +kernel) (by decide +kernel)
theorem mv_L_17 : ab_mv RL 17 YX9_monk 3 := ⟨ab_gw_of 808 (by decide +kernel) (by decide +kernel), ab_gw_of 809 (by decide +kernel) (by decide +kernel), ab_gw_of 810 (by decide +kernel) (by decide +kernel), mw_X9_monk⟩
theorem ms_X9_118 : ab_ms RX9 118 YX9_isMonk 1 := ⟨ab_gw_of 812 (by decide +kernel) (by decide +kernel), ab_gw_of 813 (by decide +kernel) (by decide +kernel), mw_X9_isMonk⟩
theorem ms_X9_95 : ab_ms RX9 95 YX9_in 3 := ⟨ab_gw_of 816 (by decide +kernel) (by decide +kernel), ab_gw_of 817 (by decide +kernel) (by decide +kernel), mw_X9_in⟩
theorem mv_L_22 : ab_mv RL 22 YX9_wear 1 := ⟨ab_gw_of 821 (by decide +kernel) (by decide +kernel), ab_gw_of 822 (by decide +kernel) (by decide +kernel), ab_gw_of 823 (by decide +kernel) (by decide +kernel), mw_X9_wear⟩
theorem mv_L_26 : ab_mv RL 26 YX9_say 1 := ⟨ab_gw_of 825 (by decide +kernel) (by decide +kernel), ab_gw_of 826 (by decide +kernel) (by decide +kernel), ab_gw_of 827 (by decide +kernel) (by decide +kernel), mw_X9_say⟩
theorem mv_L_31 : ab_mv RL 31 YX9_wipe 0 := ⟨ab_gw_of 831 (by decide +kernel) (by decide +kernel), ab_gw_of 832 (by decide +kernel) (by decide +kernel), ab_gw_of 833 (by decide +kernel) (by decide +kernel), mw_X9_wipe⟩
theorem mv_L_35 : ab_mv RL 35 YX9_fault 0 := ⟨ab_gw_of 835 (by decide +kernel) (by decide +kernel), ab_gw_of 836 (by decide +kernel) (by decide +kernel), ab_gw_of 837 (by decide +kernel) (by decide +kernel), mw_X9_fault⟩
theorem mv_L_39 : ab_mv RL 39 YX9_judge 1 := ⟨ab_gw_of 845 (by decide +kernel) (by decide +kernel), ab_gw_of 846 (by decide +kernel) (by decide +kernel), ab_gw_of 847 (by decide +kernel) (by decide +kernel), mw_X9_judge⟩
theorem mv_X9_171 : ab_mv RX9 171 YX9_fault 0 := ⟨ab_gw_of 849 (by decide +kernel) (by decide +kernel), ab_gw_of 836 (by decide +kernel) (by decide +kernel), ab_gw_of 837 (by decide +kernel) (by decide +kernel), mw_X9_fault⟩
theorem mv_X9_175 : ab_mv RX9 175 YX9_goText 0 := ⟨ab_gw_of 850 (by decide +kernel) (by decide +kernel), ab_gw_of 852 (by decide +kernel) (by decide +kernel), ab_gw_of 18 (by decide +kernel) (by decide +kernel), mw_X9_goText⟩
theorem mv_X9_159 : ab_mv RX9 159 YX9_layNow 0 := ⟨ab_gw_of 854 (by decide +kernel) (by decide +kernel), ab_gw_of 856 (by decide +kernel) (by decide +kernel), ab_gw_of 19 (by decide +kernel) (by decide +kernel), mw_X9_layNow⟩
theorem mv_X9_168 : ab_mv RX9 168 YX9_does 1 := ⟨ab_gw_of 858 (by decide +kernel) (by decide +kernel), ab_gw_of 860 (by decide +kernel) (by decide +kernel), ab_gw_of 20 (by decide +kernel) (by decide +kernel), mw_X9_does⟩
theorem mv_X9_145 : ab_mv RX9 145 YX9_goWeek 0 := ⟨ab_gw_of 862 (by decide +kernel) (by decide +kernel), ab_gw_of 864 (by decide +kernel) (by decide +kernel), ab_gw_of 21 (by decide +kernel) (by decide +kernel), mw_X9_goWeek⟩
theorem mv_X9_111 : ab_mv RX9 111 YX9_lose 1 := ⟨ab_gw_of 866 (by decide +kernel) (by decide +kernel), ab_gw_of 868 (by decide +kernel) (by decide +kernel), ab_gw_of 22 (by decide +kernel) (by decide +kernel), mw_X9_lose⟩
theorem mv_X9_107 : ab_mv RX9 107 YX9_dropFirst 1 := ⟨ab_gw_of 870 (by decide +kernel) (by decide +kernel), ab_gw_of 872 (by decide +kernel) (by decide +kernel), ab_gw_of 23 (by decide +kernel) (by decide +kernel), mw_X9_dropFirst⟩
theorem mv_X9_148 : ab_mv RX9 148 YX9_whyNoMore 2 := ⟨ab_gw_of 874 (by decide +kernel) (by decide +kernel), ab_gw_of 876 (by decide +kernel) (by decide +kernel), ab_gw_of 24 (by decide +kernel) (by decide +kernel), mw_X9_whyNoMore⟩
theorem mv_X9_152 : ab_mv RX9 152 YX9_whyNoLock 2 := ⟨ab_gw_of 878 (by decide +kernel) (by decide +kernel), ab_gw_of 880 (by decide +kernel) (by decide +kernel), ab_gw_of 25 (by decide +kernel) (by decide +kernel), mw_X9_whyNoLock⟩
theorem mv_X9_155 : ab_mv RX9 155 YX9_weave 2 := ⟨ab_gw_of 882 (by decide +kernel) (by decide +kernel), ab_gw_of 884 (by decide +kernel) (by decide +kernel), ab_gw_of 26 (by decide +kernel) (by decide +kernel), mw_X9_weave⟩
theorem mv_L_43 : ab_mv RL 43 YX9_done 0 := ⟨ab_gw_of 886 (by decide +kernel) (by decide +kernel), ab_gw_of 887 (by decide +kernel) (by decide +kernel), ab_gw_of 888 (by decide +kernel) (by decide +kernel), mw_X9_done⟩
theorem mv_X9_179 : ab_mv RX9 179 YX9_keepTried 0 := ⟨ab_gw_of 890 (by decide +kernel) (by decide +kernel), ab_gw_of 892 (by decide +kernel) (by decide +kernel), ab_gw_of 27 (by decide +kernel) (by decide +kernel), mw_X9_keepTried⟩
theorem mv_L_47 : ab_mv RL 47 YX9_lock 3 := ⟨ab_gw_of 894 (by decide +kernel) (by decide +kernel), ab_gw_of 895 (by decide +kernel) (by decide +kernel), ab_gw_of 896 (by decide +kernel) (by decide +kernel), mw_X9_lock⟩
theorem ms_X9_182 : ab_ms RX9 182 YX9_isRope 1 := ⟨ab_gw_of 898 (by decide +kernel) (by decide +kernel), ab_gw_of 899 (by decide +kernel) (by decide +kernel), mw_X9_isRope⟩
theorem mv_L_51 : ab_mv RL 51 YX9_power 1 := ⟨ab_gw_of 902 (by decide +kernel) (by decide +kernel), ab_gw_of 903 (by decide +kernel) (by decide +kernel), ab_gw_of 904 (by decide +kernel) (by decide +kernel), mw_X9_power⟩
theorem mv_X9_114 : ab_mv RX9 114 YX9_powerOf 1 := ⟨ab_gw_of 906 (by decide +kernel) (by decide +kernel), ab_gw_of 908 (by decide +kernel) (by decide +kernel), ab_gw_of 28 (by decide +kernel) (by decide +kernel), mw_X9_powerOf⟩
theorem mv_L_55 : ab_mv RL 55 YX9_bears 0 := ⟨ab_gw_of 910 (by decide +kernel) (by decide +kernel), ab_gw_of 911 (by decide +kernel) (by decide +kernel), ab_gw_of 912 (by decide +kernel) (by decide +kernel), mw_X9_bears⟩
theorem mv_X9_185 : ab_mv RX9 185 YX9_borne 0 := ⟨ab_gw_of 914 (by decide +kernel) (by decide +kernel), ab_gw_of 916 (by decide +kernel) (by decide +kernel), ab_gw_of 29 (by decide +kernel) (by decide +kernel), mw_X9_borne⟩
theorem mv_L_59 : ab_mv RL 59 YX9_broken 1 := ⟨ab_gw_of 918 (by decide +kernel) (by decide +kernel), ab_gw_of 919 (by decide +kernel) (by decide +kernel), ab_gw_of 920 (by decide +kernel) (by decide +kernel), mw_X9_broken⟩
theorem ms_X9_190 : ab_ms RX9 190 YX9_ones 1 := ⟨ab_gw_of 923 (by decide +kernel) (by decide +kernel), ab_gw_of 924 (by decide +kernel) (by decide +kernel), mw_X9_ones⟩
theorem mv_L_64 : ab_mv RL 64 YX9_share 2 := ⟨ab_gw_of 926 (by decide +kernel) (by decide +kernel), ab_gw_of 927 (by decide +kernel) (by decide +kernel), ab_gw_of 928 (by decide +kernel) (by decide +kernel), mw_X9_share⟩
theorem mv_X9_197 : ab_mv RX9 197 YX9_inchesOf 2 := ⟨ab_gw_of 932 (by decide +kernel) (by decide +kernel), ab_gw_of 934 (by decide +kernel) (by decide +kernel), ab_gw_of 30 (by decide +kernel) (by decide +kernel), mw_X9_inchesOf⟩
theorem mv_L_69 : ab_mv RL 69 YX9_led 2 := ⟨ab_gw_of 937 (by decide +kernel) (by decide +kernel), ab_gw_of 938 (by decide +kernel) (by decide +kernel), ab_gw_of 939 (by decide +kernel) (by decide +kernel), mw_X9_led⟩
theorem mv_L_73 : ab_mv RL 73 YX9_load 2 := ⟨ab_gw_of 941 (by decide +kernel) (by decide +kernel), ab_gw_of 942 (by decide +kernel) (by decide +kernel), ab_gw_of 943 (by decide +kernel) (by decide +kernel), mw_X9_load⟩
theorem mv_L_77 : ab_mv RL 77 YX9_drop 0 := ⟨ab_gw_of 947 (by decide +kernel) (by decide +kernel), ab_gw_of 948 (by decide +kernel) (by decide +kernel), ab_gw_of 949 (by decide +kernel) (by decide +kernel), mw_X9_drop⟩
theorem mv_L_81 : ab_mv RL 81 YX9_best 1 := ⟨ab_gw_of 951 (by decide +kernel) (by decide +kernel), ab_gw_of 952 (by decide +kernel) (by decide +kernel), ab_gw_of 953 (by decide +kernel) (by decide +kernel), mw_X9_best⟩
theorem mv_X9_209 : ab_mv RX9 209 YX9_layOrder 1 := ⟨ab_gw_of 955 (by decide +kernel) (by decide +kernel), ab_gw_of 957 (by decide +kernel) (by decide +kernel), ab_gw_of 31 (by decide +kernel) (by decide +kernel), mw_X9_layOrder⟩
theorem mv_X9_212 : ab_mv RX9 212 YX9_worthOfOrder 0 := ⟨ab_gw_of 959 (by decide +kernel) (by decide +kernel), ab_gw_of 961 (by decide +kernel) (by decide +kernel), ab_gw_of 32 (by decide +kernel) (by decide +kernel), mw_X9_worthOfOrder⟩
theorem mv_L_85 : ab_mv RL 85 YX9_renewed 3 := ⟨ab_gw_of 963 (by decide +kernel) (by decide +kernel), ab_gw_of 964 (by decide +kernel) (by decide +kernel), ab_gw_of 965 (by decide +kernel) (by decide +kernel), mw_X9_renewed⟩
theorem mv_X9_222 : ab_mv RX9 222 YX9_badWeek 3 := ⟨ab_gw_of 969 (by decide +kernel) (by decide +kernel), ab_gw_of 971 (by decide +kernel) (by decide +kernel), ab_gw_of 33 (by decide +kernel) (by decide +kernel), mw_X9_badWeek⟩
theorem mv_L_90 : ab_mv RL 90 YX9_soon 4 := ⟨ab_gw_of 973 (by decide +kernel) (by decide +kernel), ab_gw_of 974 (by decide +kernel) (by decide +kernel), ab_gw_of 975 (by decide +kernel) (by decide +kernel), mw_X9_soon⟩
theorem mv_X9_228 : ab_mv RX9 228 YX9_sinAll 3 := ⟨ab_gw_of 978 (by decide +kernel) (by decide +kernel), ab_gw_of 980 (by decide +kernel) (by decide +kernel), ab_gw_of 34 (by decide +kernel) (by decide +kernel), mw_X9_sinAll⟩
theorem mv_L_94 : ab_mv RL 94 YX9_weighed 2 := ⟨ab_gw_of 982 (by decide +kernel) (by decide +kernel), ab_gw_of 983 (by decide +kernel) (by decide +kernel), ab_gw_of 984 (by decide +kernel) (by decide +kernel), mw_X9_weighed⟩
theorem mv_L_98 : ab_mv RL 98 YX9_forget 0 := ⟨ab_gw_of 987 (by decide +kernel) (by decide +kernel), ab_gw_of 988 (by decide +kernel) (by decide +kernel), ab_gw_of 989 (by decide +kernel) (by decide +kernel), mw_X9_forget⟩
theorem mv_L_102 : ab_mv RL 102 YX9_canBe 1 := ⟨ab_gw_of 991 (by decide +kernel) (by decide +kernel), ab_gw_of 992 (by decide +kernel) (by decide +kernel), ab_gw_of 993 (by decide +kernel) (by decide +kernel), mw_X9_canBe⟩
theorem mv_X9_240 : ab_mv RX9 240 YX9_fits 1 := ⟨ab_gw_of 995 (by decide +kernel) (by decide +kernel), ab_gw_of 997 (by decide +kernel) (by decide +kernel), ab_gw_of 35 (by decide +kernel) (by decide +kernel), mw_X9_fits⟩
theorem mv_X9_237 : ab_mv RX9 237 YX9_weightOf 2 := ⟨ab_gw_of 999 (by decide +kernel) (by decide +kernel), ab_gw_of 1001 (by decide +kernel) (by decide +kernel), ab_gw_of 36 (by decide +kernel) (by decide +kernel), mw_X9_weightOf⟩
theorem mv_L_106 : ab_mv RL 106 YX9_sure 1 := ⟨ab_gw_of 1003 (by decide +kernel) (by decide +kernel), ab_gw_of 1004 (by decide +kernel) (by decide +kernel), ab_gw_of 1005 (by decide +kernel) (by decide +kernel), mw_X9_sure⟩
theorem mv_X9_248 : ab_mv RX9 248 YX9_ask 0 := ⟨ab_gw_of 1008 (by decide +kernel) (by decide +kernel), ab_gw_of 1010 (by decide +kernel) (by decide +kernel), ab_gw_of 37 (by decide +kernel) (by decide +kernel), mw_X9_ask⟩
theorem mv_X9_243 : ab_mv RX9 243 YX9_alikeBy 1 := ⟨ab_gw_of 1012 (by decide +kernel) (by decide +kernel), ab_gw_of 1014 (by decide +kernel) (by decide +kernel), ab_gw_of 38 (by decide +kernel) (by decide +kernel), mw_X9_alikeBy⟩
theorem mv_L_110 : ab_mv RL 110 YX9_year 3 := ⟨ab_gw_of 1016 (by decide +kernel) (by decide +kernel), ab_gw_of 1017 (by decide +kernel) (by decide +kernel), ab_gw_of 1018 (by decide +kernel) (by decide +kernel), mw_X9_year⟩
theorem mv_X9_259 : ab_mv RX9 259 YX9_doesBy 2 := ⟨ab_gw_of 1024 (by decide +kernel) (by decide +kernel), ab_gw_of 1026 (by decide +kernel) (by decide +kernel), ab_gw_of 39 (by decide +kernel) (by decide +kernel), mw_X9_doesBy⟩
theorem mv_L_114 : ab_mv RL 114 YX9_image 1 := ⟨ab_gw_of 1028 (by decide +kernel) (by decide +kernel), ab_gw_of 1029 (by decide +kernel) (by decide +kernel), ab_gw_of 1030 (by decide +kernel) (by decide +kernel), mw_X9_image⟩
theorem mv_X9_272 : ab_mv RX9 272 YX9_passAll 0 := ⟨ab_gw_of 1032 (by decide +kernel) (by decide +kernel), ab_gw_of 1034 (by decide +kernel) (by decide +kernel), ab_gw_of 40 (by decide +kernel) (by decide +kernel), mw_X9_passAll⟩
theorem mv_X9_269 : ab_mv RX9 269 YX9_pass 1 := ⟨ab_gw_of 1036 (by decide +kernel) (by decide +kernel), ab_gw_of 1038 (by decide +kernel) (by decide +kernel), ab_gw_of 41 (by decide +kernel) (by decide +kernel), mw_X9_pass⟩
theorem mv_L_118 : ab_mv RL 118 YX9_restore 1 := ⟨ab_gw_of 1040 (by decide +kernel) (by decide +kernel), ab_gw_of 1041 (by decide +kernel) (by decide +kernel), ab_gw_of 1042 (by decide +kernel) (by decide +kernel), mw_X9_restore⟩
theorem mv_L_122 : ab_mv RL 122 YX9_told 1 := ⟨ab_gw_of 1044 (by decide +kernel) (by decide +kernel), ab_gw_of 1045 (by decide +kernel) (by decide +kernel), ab_gw_of 1046 (by decide +kernel) (by decide +kernel), mw_X9_told⟩
theorem mn_X2_23 : ab_msn RX2 23 YX8_isIn 3 RX8 := ⟨ab_nest0, ab_gw_of 306 (by decide +kernel) (by decide +kernel), mw_X8_isIn⟩
theorem mnw_X2_23 : Cond.methodLinkNest RX2 23 yX8_isIn RX8 ∈ lw_tbl := List.mem_of_getElem? (i := 339) (by decide +kernel)
theorem mn_X0_89 : ab_msn RX0 89 YX8_greatestLoad 1 RX8 := ⟨ab_nest1, ab_gw_of 436 (by decide +kernel) (by decide +kernel), mw_X8_greatestLoad⟩
theorem mnw_X0_89 : Cond.methodLinkNest RX0 89 yX8_greatestLoad RX8 ∈ lw_tbl := List.mem_of_getElem? (i := 435) (by decide +kernel)
theorem mn_X4_93 : ab_msn RX4 93 YX8_greatestLoad 1 RX8 := ⟨ab_nest2, ab_gw_of 436 (by decide +kernel) (by decide +kernel), mw_X8_greatestLoad⟩
theorem mnw_X4_93 : Cond.methodLinkNest RX4 93 yX8_greatestLoad RX8 ∈ lw_tbl := List.mem_of_getElem? (i := 591) (by decide +kernel)
theorem wl_L_7 : Cond.classLink RL 7 RX8 ∈ ab_gw := ab_gw_of 57 (by decide +kernel) (by decide +kernel)
theorem wl_X8_7 : Cond.classLink RX8 7 RX2 ∈ ab_gw := ab_gw_of 65 (by decide +kernel) (by decide +kernel)
theorem wl_X8_16 : Cond.classLink RX8 16 RX6 ∈ ab_gw := ab_gw_of 80 (by decide +kernel) (by decide +kernel)
theorem wl_X6_7 : Cond.classLink RX6 7 RX0 ∈ ab_gw := ab_gw_of 86 (by decide +kernel) (by decide +kernel)
theorem wl_X0_24 : Cond.classLink RX0 24 RX5 ∈ ab_gw := ab_gw_of 92 (by decide +kernel) (by decide +kernel)
theorem wl_X6_16 : Cond.classLink RX6 16 RX3 ∈ ab_gw := ab_gw_of 155 (by decide +kernel) (by decide +kernel)
theorem wl_X8_31 : Cond.classLink RX8 31 RX0 ∈ ab_gw := ab_gw_of 192 (by decide +kernel) (by decide +kernel)
theorem wl_X8_38 : Cond.classLink RX8 38 RX1 ∈ ab_gw := ab_gw_of 194 (by decide +kernel) (by decide +kernel)
theorem wl_X1_9 : Cond.classLink RX1 9 RX3 ∈ ab_gw := ab_gw_of 200 (by decide +kernel) (by decide +kernel)
theorem wl_X8_45 : Cond.classLink RX8 45 RX4 ∈ ab_gw := ab_gw_of 216 (by decide +kernel) (by decide +kernel)
theorem wl_X4_9 : Cond.classLink RX4 9 RX0 ∈ ab_gw := ab_gw_of 222 (by decide +kernel) (by decide +kernel)
theorem wl_X4_18 : Cond.classLink RX4 18 "[[I" ∈ ab_gw := ab_gw_of 225 (by decide +kernel) (by decide +kernel)
theorem wl_X8_52 : Cond.classLink RX8 52 RX7 ∈ ab_gw := ab_gw_of 255 (by decide +kernel) (by decide +kernel)
theorem wl_L_10 : Cond.classLink RL 10 RX9 ∈ ab_gw := ab_gw_of 690 (by decide +kernel) (by decide +kernel)
theorem wc_X8_130 : Cond.constant RX8 130 (99999) ∈ ab_gw := ab_gw_of 445 (by decide +kernel) (by decide +kernel)
theorem wc_J6_265 : Cond.constant RJ6 265 (1431655765) ∈ ab_gw := ab_gw_of 457 (by decide +kernel) (by decide +kernel)
theorem wc_J6_266 : Cond.constant RJ6 266 (858993459) ∈ ab_gw := ab_gw_of 458 (by decide +kernel) (by decide +kernel)
theorem wc_J6_267 : Cond.constant RJ6 267 (252645135) ∈ ab_gw := ab_gw_of 459 (by decide +kernel) (by decide +kernel)
theorem wc_X8_134 : Cond.constantLong RX8 134 (-1000000000000000001) ∈ ab_gw := ab_gw_of 464 (by decide +kernel) (by decide +kernel)
theorem wc_X8_136 : Cond.constantLong RX8 136 (-1000000000000000002) ∈ ab_gw := ab_gw_of 465 (by decide +kernel) (by decide +kernel)
theorem wc_X8_141 : Cond.constantLong RX8 141 (-1000000000000000003) ∈ ab_gw := ab_gw_of 478 (by decide +kernel) (by decide +kernel)
theorem wc_J6_264 : Cond.constant RJ6 264 (65536) ∈ ab_gw := ab_gw_of 629 (by decide +kernel) (by decide +kernel)
theorem wc_X8_210 : Cond.constant RX8 210 (2147483647) ∈ ab_gw := ab_gw_of 659 (by decide +kernel) (by decide +kernel)
theorem wc_X0_78 : Cond.constant RX0 78 (65537) ∈ ab_gw := ab_gw_of 664 (by decide +kernel) (by decide +kernel)
theorem wc_X9_93 : Cond.constantLong RX9 93 (5) ∈ ab_gw := ab_gw_of 815 (by decide +kernel) (by decide +kernel)
theorem wc_X9_122 : Cond.constantLong RX9 122 (40) ∈ ab_gw := ab_gw_of 819 (by decide +kernel) (by decide +kernel)
theorem wc_X9_124 : Cond.constantLong RX9 124 (9) ∈ ab_gw := ab_gw_of 820 (by decide +kernel) (by decide +kernel)
theorem wc_X9_126 : Cond.constantLong RX9 126 (33) ∈ ab_gw := ab_gw_of 829 (by decide +kernel) (by decide +kernel)
theorem wc_X9_128 : Cond.constantLong RX9 128 (126) ∈ ab_gw := ab_gw_of 830 (by decide +kernel) (by decide +kernel)
theorem wc_X9_133 : Cond.constantLong RX9 133 (65) ∈ ab_gw := ab_gw_of 839 (by decide +kernel) (by decide +kernel)
theorem wc_X9_135 : Cond.constantLong RX9 135 (70) ∈ ab_gw := ab_gw_of 840 (by decide +kernel) (by decide +kernel)
theorem wc_X9_137 : Cond.constantLong RX9 137 (48) ∈ ab_gw := ab_gw_of 841 (by decide +kernel) (by decide +kernel)
theorem wc_X9_139 : Cond.constantLong RX9 139 (51) ∈ ab_gw := ab_gw_of 842 (by decide +kernel) (by decide +kernel)
theorem wc_X9_141 : Cond.constantLong RX9 141 (49) ∈ ab_gw := ab_gw_of 843 (by decide +kernel) (by decide +kernel)
theorem wc_X9_143 : Cond.constantLong RX9 143 (57) ∈ ab_gw := ab_gw_of 844 (by decide +kernel) (by decide +kernel)
theorem wc_X9_99 : Cond.constantLong RX9 99 (3) ∈ ab_gw := ab_gw_of 901 (by decide +kernel) (by decide +kernel)
theorem wc_X9_188 : Cond.constantLong RX9 188 (99999) ∈ ab_gw := ab_gw_of 922 (by decide +kernel) (by decide +kernel)
theorem wc_X9_193 : Cond.constantLong RX9 193 (-1000000000000000001) ∈ ab_gw := ab_gw_of 930 (by decide +kernel) (by decide +kernel)
theorem wc_X9_195 : Cond.constantLong RX9 195 (-1000000000000000002) ∈ ab_gw := ab_gw_of 931 (by decide +kernel) (by decide +kernel)
theorem wc_X9_200 : Cond.constantLong RX9 200 (-1000000000000000003) ∈ ab_gw := ab_gw_of 936 (by decide +kernel) (by decide +kernel)
theorem wc_X9_202 : Cond.constantLong RX9 202 (9999) ∈ ab_gw := ab_gw_of 945 (by decide +kernel) (by decide +kernel)
theorem wc_X9_204 : Cond.constantLong RX9 204 (99) ∈ ab_gw := ab_gw_of 946 (by decide +kernel) (by decide +kernel)
theorem wc_X9_218 : Cond.constantLong RX9 218 (4) ∈ ab_gw := ab_gw_of 967 (by decide +kernel) (by decide +kernel)
theorem wc_X9_220 : Cond.constantLong RX9 220 (-1) ∈ ab_gw := ab_gw_of 968 (by decide +kernel) (by decide +kernel)
theorem wc_X9_226 : Cond.constantLong RX9 226 (63) ∈ ab_gw := ab_gw_of 977 (by decide +kernel) (by decide +kernel)
theorem wc_X9_232 : Cond.constantLong RX9 232 (240) ∈ ab_gw := ab_gw_of 986 (by decide +kernel) (by decide +kernel)
theorem wc_X9_246 : Cond.constantLong RX9 246 (2) ∈ ab_gw := ab_gw_of 1007 (by decide +kernel) (by decide +kernel)
theorem wc_X9_251 : Cond.constantLong RX9 251 (60) ∈ ab_gw := ab_gw_of 1020 (by decide +kernel) (by decide +kernel)
theorem wc_X9_253 : Cond.constantLong RX9 253 (75) ∈ ab_gw := ab_gw_of 1021 (by decide +kernel) (by decide +kernel)
theorem wc_X9_255 : Cond.constantLong RX9 255 (74) ∈ ab_gw := ab_gw_of 1022 (by decide +kernel) (by decide +kernel)
theorem wc_X9_257 : Cond.constantLong RX9 257 (65537) ∈ ab_gw := ab_gw_of 1023 (by decide +kernel) (by decide +kernel)
theorem wc_X9_275 : Cond.constantLong RX9 275 (10) ∈ ab_gw := ab_gw_of 1048 (by decide +kernel) (by decide +kernel)
theorem wc_X9_277 : Cond.constantLong RX9 277 (39) ∈ ab_gw := ab_gw_of 1049 (by decide +kernel) (by decide +kernel)
theorem wc_X9_279 : Cond.constantLong RX9 279 (43) ∈ ab_gw := ab_gw_of 1050 (by decide +kernel) (by decide +kernel)
theorem wi_X8 : Cond.instantiable RX8 8 ∈ ab_gw := ab_gw_of 58 (by decide +kernel) (by decide +kernel)
theorem wi_X2 : Cond.instantiable RX2 2 ∈ ab_gw := ab_gw_of 66 (by decide +kernel) (by decide +kernel)
theorem wi_X6 : Cond.instantiable RX6 3 ∈ ab_gw := ab_gw_of 81 (by decide +kernel) (by decide +kernel)
theorem wi_X0 : Cond.instantiable RX0 8 ∈ ab_gw := ab_gw_of 87 (by decide +kernel) (by decide +kernel)
theorem wi_X5 : Cond.instantiable RX5 4 ∈ ab_gw := ab_gw_of 97 (by decide +kernel) (by decide +kernel)
theorem wi_X3 : Cond.instantiable RX3 3 ∈ ab_gw := ab_gw_of 156 (by decide +kernel) (by decide +kernel)
theorem wi_X1 : Cond.instantiable RX1 4 ∈ ab_gw := ab_gw_of 195 (by decide +kernel) (by decide +kernel)
theorem wi_X4 : Cond.instantiable RX4 9 ∈ ab_gw := ab_gw_of 217 (by decide +kernel) (by decide +kernel)
theorem wi_X7 : Cond.instantiable RX7 4 ∈ ab_gw := ab_gw_of 256 (by decide +kernel) (by decide +kernel)
theorem wi_X9 : Cond.instantiable RX9 37 ∈ ab_gw := ab_gw_of 691 (by decide +kernel) (by decide +kernel)
theorem wn_L : Cond.initialized RL ∈ ab_gw := ab_gw_of 42 (by decide +kernel) (by decide +kernel)
theorem wn_X8 : Cond.initialized RX8 ∈ ab_gw := ab_gw_of 43 (by decide +kernel) (by decide +kernel)
theorem wn_X2 : Cond.initialized RX2 ∈ ab_gw := ab_gw_of 44 (by decide +kernel) (by decide +kernel)
theorem wn_X6 : Cond.initialized RX6 ∈ ab_gw := ab_gw_of 45 (by decide +kernel) (by decide +kernel)
theorem wn_X0 : Cond.initialized RX0 ∈ ab_gw := ab_gw_of 46 (by decide +kernel) (by decide +kernel)
theorem wn_J7 : Cond.initialized RJ7 ∈ ab_gw := ab_gw_of 47 (by decide +kernel) (by decide +kernel)
theorem wn_X5 : Cond.initialized RX5 ∈ ab_gw := ab_gw_of 48 (by decide +kernel) (by decide +kernel)
theorem wn_X3 : Cond.initialized RX3 ∈ ab_gw := ab_gw_of 49 (by decide +kernel) (by decide +kernel)
theorem wn_X1 : Cond.initialized RX1 ∈ ab_gw := ab_gw_of 50 (by decide +kernel) (by decide +kernel)
theorem wn_X4 : Cond.initialized RX4 ∈ ab_gw := ab_gw_of 51 (by decide +kernel) (by decide +kernel)
theorem wn_X7 : Cond.initialized RX7 ∈ ab_gw := ab_gw_of 52 (by decide +kernel) (by decide +kernel)
theorem wn_X9 : Cond.initialized RX9 ∈ ab_gw := ab_gw_of 53 (by decide +kernel) (by decide +kernel)
theorem wn_J10 : Cond.initialized RJ10 ∈ ab_gw := ab_gw_of 54 (by decide +kernel) (by decide +kernel)
theorem wn_J9 : Cond.initialized RJ9 ∈ ab_gw := ab_gw_of 55 (by decide +kernel) (by decide +kernel)
theorem wn_J6 : Cond.initialized RJ6 ∈ ab_gw := ab_gw_of 56 (by decide +kernel) (by decide +kernel)
theorem w_native : Cond.native arraycopyName ∈ ab_gw := ab_gw_of 354 (by decide +kernel) (by decide +kernel)
theorem w_acstat : Cond.static arraycopyName ∈ ab_gw := ab_gw_of 353 (by decide +kernel) (by decide +kernel)
theorem w_sysini : Cond.initialized "java/lang/System" ∈ ab_gw := ab_gw_of 54 (by decide +kernel) (by decide +kernel)
theorem w_objinst : Cond.instanceMethod objectInit ∈ ab_gw := ab_gw_of 63 (by decide +kernel) (by decide +kernel)
theorem w_objcode : Cond.code objectInit ⟨#[0xb1]⟩ 1 none ∈ ab_gw := ab_gw_of 64 (by decide +kernel) (by decide +kernel)
theorem w_arr_int : Cond.arrayClass .int ∈ ab_gw := ab_gw_of 79 (by decide +kernel) (by decide +kernel)
theorem w_arr_boolean : Cond.arrayClass .boolean ∈ ab_gw := ab_gw_of 215 (by decide +kernel) (by decide +kernel)
end
section
/-! THE MEMORY BEHIND THE CONSTRUCTORS: a fixed shape, its numbers a function of cell and place; cell 0 is the script, its length stands at (-1, 0) -/
abbrev ab_S : Type := Int → Int → Int
def iv (x : Int) : Value := .int (Int32.ofInt x)
def rf (k : Int) : Value := .ref k.toNat
def lgv (x : Int) : Value := .long (Int64.ofInt x)
def ab_shp : List (Nat × Nat) := [(8, 8), (2, 2), (10, 60), (6, 3), (0, 8), (10, 6), (10, 6), (10, 6), (10, 6), (12, 4), (10, 4), (5, 4), (10, 8), (10, 8), (10, 8), (5, 4), (10, 8), (10, 8), (10, 8), (5, 4), (10, 8), (10, 8), (10, 8), (5, 4), (10, 8), (10, 8), (10, 8), (3, 3), (10, 6), (10, 6), (3, 3), (10, 6), (10, 6), (13, 2), (6, 3), (0, 8), (10, 6), (10, 6), (10, 6), (10, 6), (12, 4), (10, 4), (5, 4), (10, 8), (10, 8), (10, 8), (5, 4), (10, 8), (10, 8), (10, 8), (5, 4), (10, 8), (10, 8), (10, 8), (5, 4), (10, 8), (10, 8), (10, 8), (3, 3), (10, 6), (10, 6), (3, 3), (10, 6), (10, 6), (6, 3), (0, 8), (10, 6), (10, 6), (10, 6), (10, 6), (12, 4), (10, 4), (5, 4), (10, 8), (10, 8), (10, 8), (5, 4), (10, 8), (10, 8), (10, 8), (5, 4), (10, 8), (10, 8), (10, 8), (5, 4), (10, 8), (10, 8), (10, 8), (3, 3), (10, 6), (10, 6), (3, 3), (10, 6), (10, 6), (11, 2), (0, 8), (10, 6), (10, 6), (10, 6), (10, 6), (12, 4), (10, 4), (5, 4), (10, 8), (10, 8), (10, 8), (5, 4), (10, 8), (10, 8), (10, 8), (5, 4), (10, 8), (10, 8), (10, 8), (5, 4), (10, 8), (10, 8), (10, 8), (1, 4), (3, 3), (10, 6), (10, 6), (10, 7), (10, 448), (10, 6), (4, 9), (14, 5), (0, 8), (10, 6), (10, 6), (10, 6), (10, 6), (12, 4), (10, 4), (5, 4), (10, 8), (10, 8), (10, 8), (5, 4), (10, 8), (10, 8), (10, 8), (5, 4), (10, 8), (10, 8), (10, 8), (5, 4), (10, 8), (10, 8), (10, 8), (0, 8), (10, 6), (10, 6), (10, 6), (10, 6), (12, 4), (10, 4), (5, 4), (10, 8), (10, 8), (10, 8), (5, 4), (10, 8), (10, 8), (10, 8), (5, 4), (10, 8), (10, 8), (10, 8), (5, 4), (10, 8), (10, 8), (10, 8), (0, 8), (10, 6), (10, 6), (10, 6), (10, 6), (12, 4), (10, 4), (5, 4), (10, 8), (10, 8), (10, 8), (5, 4), (10, 8), (10, 8), (10, 8), (5, 4), (10, 8), (10, 8), (10, 8), (5, 4), (10, 8), (10, 8), (10, 8), (0, 8), (10, 6), (10, 6), (10, 6), (10, 6), (12, 4), (10, 4), (5, 4), (10, 8), (10, 8), (10, 8), (5, 4), (10, 8), (10, 8), (10, 8), (5, 4), (10, 8), (10, 8), (10, 8), (5, 4), (10, 8), (10, 8), (10, 8), (0, 8), (10, 6), (10, 6), (10, 6), (10, 6), (12, 4), (10, 4), (5, 4), (10, 8), (10, 8), (10, 8), (5, 4), (10, 8), (10, 8), (10, 8), (5, 4), (10, 8), (10, 8), (10, 8), (5, 4), (10, 8), (10, 8), (10, 8), (15, 4), (10, 4), (10, 4), (10, 4), (10, 4), (15, 4), (10, 4), (10, 4), (10, 4), (10, 4), (10, 6), (10, 4), (10, 4), (7, 4), (10, 64), (10, 241), (10, 64), (9, 37), (10, 6), (10, 6), (10, 6), (10, 6), (10, 32), (10, 32), (10, 32), (10, 4), (10, 6), (10, 6), (10, 6), (10, 6), (10, 6), (10, 6), (10, 6), (10, 32), (10, 32), (10, 32), (10, 4), (10, 60), (10, 6), (10, 4), (10, 4), (10, 241), (10, 360), (11, 2)]
def ab_tg (kd i : Nat) : Option Nat := match kd with
  | 0 => (match i with | 0 => some 1 | 1 => some 2 | 2 => some 3 | 3 => some 4 | 4 => some 5 | 5 => some 6 | _ => none)
  | 1 => (match i with | 0 => some 4 | 1 => some 5 | 2 => some 6 | 3 => some 1 | _ => none)
  | 2 => (match i with | 0 => some 1 | _ => none)
  | 3 => (match i with | 0 => some 1 | 1 => some 2 | _ => none)
  | 4 => (match i with | 0 => some 1 | 1 => some 117 | 2 => some 122 | 3 => some 127 | 4 => some 128 | 5 => some 129 | _ => none)
  | 5 => (match i with | 0 => some 1 | 1 => some 2 | 2 => some 3 | _ => none)
  | 6 => (match i with | 0 => some 1 | 1 => some 24 | 2 => some 27 | _ => none)
  | 7 => (match i with | 0 => some 1 | 1 => some 2 | 2 => some 3 | _ => none)
  | 8 => (match i with | 0 => some 1 | 1 => some 3 | 2 => some 33 | 3 => some 94 | 4 => some 95 | 5 => some 118 | 6 => some 125 | 7 => some 255 | _ => none)
  | 9 => (match i with | 0 => some 1 | 1 => some 2 | 2 => some 3 | 3 => some 4 | 4 => some 5 | 5 => some 6 | 6 => some 7 | 7 => some 8 | 10 => some 9 | 11 => some 10 | 13 => some 11 | 14 => some 12 | 16 => some 13 | 17 => some 14 | 18 => some 15 | 19 => some 16 | 20 => some 17 | 21 => some 18 | 22 => some 19 | 24 => some 20 | 28 => some 21 | 29 => some 22 | 30 => some 23 | 32 => some 24 | 33 => some 25 | 34 => some 26 | _ => none)
  | 12 => some (2 + 4 * i)
  | 13 => some (1 + 30 * i)
  | 14 => some (1 + 23 * i)
  | 15 => some (1 + i)
  | _ => none
def ab_sv (σ : ab_S) (k kd i : Nat) : Value := match ab_tg kd i with
  | some δ => .ref (k + δ)
  | none => iv (σ k i)
def ab_cel (σ : ab_S) (k : Nat) (q : Nat × Nat) : ab_C := (q.1, (List.range q.2).map (fun i => ab_sv σ k q.1 i))
def ab_scr (σ : ab_S) : ab_C := (16, (List.range (σ (-1) 0).toNat).map (fun i : Nat => iv (σ 0 (i : Int))))
def ab_mk (σ : ab_S) : ab_M := ab_scr σ :: ab_shp.mapIdx (fun j q => ab_cel σ (j + 1) q)
/-- the cell k is of a kind and of a size -/
def kd_ (k : Int) (kd n : Nat) : Prop := 0 < k ∧ ab_shp[k.toNat - 1]? = some (kd, n)
theorem ab_mk_get {σ : ab_S} {k : Int} {kd n : Nat} (h : kd_ k kd n) : (ab_mk σ)[k.toNat]? = some (kd, (List.range n).map (fun i => ab_sv σ k.toNat kd i)) := by
  obtain ⟨h0, h1⟩ := h
  have e : k.toNat = (k.toNat - 1) + 1 := by omega
  unfold ab_mk
  rw [e, List.getElem?_cons_succ, List.getElem?_mapIdx, h1]
  rfl
theorem ab_mk_len (σ : ab_S) : (ab_mk σ).length = 1 + ab_shp.length := by
  unfold ab_mk
  rw [List.length_cons, List.length_mapIdx, Nat.add_comm]
def up (σ : ab_S) (k i v : Int) : ab_S := fun k' i' => if k' = k ∧ i' = i then v else σ k' i'
theorem up_same (σ : ab_S) (k i v : Int) : up σ k i v k i = v := if_pos ⟨rfl, rfl⟩
theorem up_ne {σ : ab_S} {k i v k' i' : Int} (h : ¬ (k' = k ∧ i' = i)) : up σ k i v k' i' = σ k' i' := if_neg h
/-- a number put into a place -/
theorem ab_mk_up {σ : ab_S} {k : Int} {kd n i : Nat} {x : Int} (h : kd_ k kd n) (hi : i < n) (ht : ab_tg kd i = none) : (ab_mk σ).set k.toNat (kd, ((List.range n).map (fun i => ab_sv σ k.toNat kd i)).set i (iv x)) = ab_mk (up σ k i x) := by
  obtain ⟨h0, h1⟩ := h
  have hk1 : k.toNat - 1 < ab_shp.length := (List.getElem?_eq_some_iff.mp h1).1
  have hkk : ((k.toNat : Nat) : Int) = k := by omega
  apply List.ext_getElem?
  intro j
  rw [List.getElem?_set]
  by_cases e : k.toNat = j
  · subst e
    rw [if_pos rfl, if_pos (by rw [ab_mk_len]; omega)]
    rw [ab_mk_get ⟨h0, h1⟩]
    refine congrArg some (congrArg (Prod.mk kd) ?_)
    apply List.ext_getElem?
    intro q
    rw [List.getElem?_set, List.length_map, List.length_range, List.getElem?_map, List.getElem?_map]
    by_cases eq : i = q
    · subst eq
      rw [if_pos rfl, if_pos hi, List.getElem?_range hi]
      show some (iv x) = some (ab_sv (up σ k i x) k.toNat kd i)
      unfold ab_sv
      rw [ht]
      show some (iv x) = some (iv (up σ k i x (k.toNat : Int) i))
      rw [hkk, up_same]
    · rw [if_neg eq]
      by_cases hq : q < n
      · rw [List.getElem?_range hq]
        show some (ab_sv σ k.toNat kd q) = some (ab_sv (up σ k i x) k.toNat kd q)
        unfold ab_sv
        cases ab_tg kd q with
        | some δ => rfl
        | none =>
          show some (iv (σ (k.toNat : Int) q)) = some (iv (up σ k i x (k.toNat : Int) q))
          rw [up_ne (by omega)]
      · rw [List.getElem?_eq_none (by rw [List.length_range]; omega)]
        rfl
  · rw [if_neg e]
    unfold ab_mk
    cases j with
    | zero =>
      show some (ab_scr σ) = some (ab_scr (up σ k i x))
      unfold ab_scr
      rw [up_ne (k' := -1) (by omega)]
      refine congrArg some (congrArg (Prod.mk 16) ?_)
      apply List.map_congr_left
      intro q hq
      rw [up_ne (k' := 0) (by omega)]
    | succ j =>
      rw [List.getElem?_cons_succ, List.getElem?_cons_succ, List.getElem?_mapIdx, List.getElem?_mapIdx]
      cases ab_shp[j]? with
      | none => rfl
      | some q =>
        show some (ab_cel σ (j + 1) q) = some (ab_cel (up σ k i x) (j + 1) q)
        unfold ab_cel
        refine congrArg some (congrArg (Prod.mk q.1) ?_)
        apply List.map_congr_left
        intro z hz
        unfold ab_sv
        cases ab_tg q.1 z with
        | some δ => rfl
        | none =>
          show iv (σ ((j + 1 : Nat) : Int) z) = iv (up σ k i x ((j + 1 : Nat) : Int) z)
          rw [up_ne (by omega)]
def R2 (Y : ab_Y) (d : Nat) (σ : ab_S) (pc : Nat) (ls : List (Option Value)) (st : List Value) (Q : ab_S → Option Value → Prop) : Prop := ab_Run Y d 0 0 (ab_mk σ) pc ls st (fun M r => ∃ σ', M = ab_mk σ' ∧ Q σ' r)
def C2 (Y : ab_Y) (d : Nat) (σ : ab_S) (av : List Value) (Q : ab_S → Option Value → Prop) : Prop := ab_Call Y d 0 0 (ab_mk σ) av (fun M r => ∃ σ', M = ab_mk σ' ∧ Q σ' r)
/-- what a method answers: an int, a long, nothing -/
def PI (Q : ab_S → Int → Prop) : ab_S → Option Value → Prop := fun σ r => ∃ z, r = some (iv z) ∧ Q σ z
def PL (Q : ab_S → Int → Prop) : ab_S → Option Value → Prop := fun σ r => ∃ z, r = some (lgv z) ∧ Q σ z
def PV (Q : ab_S → Prop) : ab_S → Option Value → Prop := fun σ r => r = none ∧ Q σ
theorem C2.of {Y : ab_Y} {d : Nat} {σ : ab_S} {av : List Value} {Q : ab_S → Option Value → Prop} (hy : plainName Y.1.cls = true) (hn : (ab_args av).length ≤ Y.2.2.1) (h : R2 Y d σ 0 (ab_pad Y.2.2.1 (ab_args av)) [] Q) : C2 Y d σ av Q := ab_Call.of hy hn h
theorem R2.mono {Y : ab_Y} {d pc : Nat} {σ : ab_S} {ls : List (Option Value)} {st : List Value} {Q Q' : ab_S → Option Value → Prop} (h : R2 Y d σ pc ls st Q) (hq : ∀ σ' r, Q σ' r → Q' σ' r) : R2 Y d σ pc ls st Q' := ab_Run.mono h (fun M r ⟨σ', e, q⟩ => ⟨σ', e, hq _ _ q⟩)
theorem iv_inj_lt {x y : Int} (h1 : -2147483648 ≤ x) (h2 : x ≤ 2147483647) (h3 : -2147483648 ≤ y) (h4 : y ≤ 2147483647) : Int32.ofInt x < Int32.ofInt y ↔ x < y := by
  rw [Int32.lt_iff_toInt_lt, Int32.toInt_ofInt, Int32.toInt_ofInt]
  have e1 : x.bmod Int32.size = x := Int.bmod_eq_of_le (by show -(4294967296/2 : Int) ≤ x; omega) (by show x < (4294967296 + 1)/2; omega)
  have e2 : y.bmod Int32.size = y := Int.bmod_eq_of_le (by show -(4294967296/2 : Int) ≤ y; omega) (by show y < (4294967296 + 1)/2; omega)
  rw [e1, e2]
theorem iv_inj_le {x y : Int} (h1 : -2147483648 ≤ x) (h2 : x ≤ 2147483647) (h3 : -2147483648 ≤ y) (h4 : y ≤ 2147483647) : Int32.ofInt x ≤ Int32.ofInt y ↔ x ≤ y := by
  rw [Int32.le_iff_toInt_le, Int32.toInt_ofInt, Int32.toInt_ofInt]
  have e1 : x.bmod Int32.size = x := Int.bmod_eq_of_le (by show -(4294967296/2 : Int) ≤ x; omega) (by show x < (4294967296 + 1)/2; omega)
  have e2 : y.bmod Int32.size = y := Int.bmod_eq_of_le (by show -(4294967296/2 : Int) ≤ y; omega) (by show y < (4294967296 + 1)/2; omega)
  rw [e1, e2]
theorem iv_toInt {x : Int} (h1 : -2147483648 ≤ x) (h2 : x ≤ 2147483647) : (Int32.ofInt x).toInt = x := by
  rw [Int32.toInt_ofInt]
  exact Int.bmod_eq_of_le (by show -(4294967296/2 : Int) ≤ x; omega) (by show x < (4294967296 + 1)/2; omega)
theorem iv_inj_eq {x y : Int} (h1 : -2147483648 ≤ x) (h2 : x ≤ 2147483647) (h3 : -2147483648 ≤ y) (h4 : y ≤ 2147483647) : Int32.ofInt x = Int32.ofInt y ↔ x = y := by
  rw [← Int32.toInt_inj, iv_toInt h1 h2, iv_toInt h3 h4]
theorem iv_ix {x : Int} {n : Nat} (h1 : 0 ≤ x) (h2 : x < n) (hn : n < 2147483648) : ab_ix (Int32.ofInt x) n x.toNat := by
  refine ⟨?_, ?_, by omega⟩
  · have : ¬ Int32.ofInt x < Int32.ofInt 0 := by
      rw [iv_inj_lt (by omega) (by omega) (by omega) (by omega)]
      omega
    exact this
  · show (Int32.ofInt x).toInt.toNat = x.toNat
    rw [iv_toInt (by omega) (by omega)]
theorem lgv_toInt {x : Int} (h1 : -9223372036854775808 ≤ x) (h2 : x ≤ 9223372036854775807) : (Int64.ofInt x).toInt = x := by
  rw [Int64.toInt_ofInt]
  exact Int.bmod_eq_of_le (by show -(18446744073709551616/2 : Int) ≤ x; omega) (by show x < (18446744073709551616 + 1)/2; omega)
def ban (x y : Int) : Int := (Int32.ofInt x &&& Int32.ofInt y).toInt
def bor (x y : Int) : Int := (Int32.ofInt x ||| Int32.ofInt y).toInt
def bxo (x y : Int) : Int := (Int32.ofInt x ^^^ Int32.ofInt y).toInt
def bsl (x y : Int) : Int := (Int32.ofInt x <<< (Int32.ofInt y &&& 31)).toInt
def bsr (x y : Int) : Int := (Int32.ofInt x >>> (Int32.ofInt y &&& 31)).toInt
def bus (x y : Int) : Int := ((Int32.ofInt x).toUInt32 >>> ((Int32.ofInt y).toUInt32 &&& Int32.toUInt32 31)).toInt32.toInt
theorem ofInt_toInt32 (z : Int32) : Int32.ofInt z.toInt = z := Int32.ofInt_toInt z
theorem r_iconst {Y : ab_Y} {d : Nat} {σ : ab_S} {pc : Nat} {ls : List (Option Value)} {st : List Value} {Q : ab_S → Option Value → Prop} {z : Int} (hd : decode Y.2.1 pc = .ok (.iconst z, 1))  (kk : R2 Y d σ (pc + 1) ls (iv z :: st) Q)  : R2 Y d σ pc ls (st) Q := ab_iconst hd kk
theorem r_bipush {Y : ab_Y} {d : Nat} {σ : ab_S} {pc : Nat} {ls : List (Option Value)} {st : List Value} {Q : ab_S → Option Value → Prop} {z : Int} (hd : decode Y.2.1 pc = .ok (.bipush z, 2))  (kk : R2 Y d σ (pc + 2) ls (iv z :: st) Q) (hv : (Int8.ofInt z).toInt32 = Int32.ofInt z := by decide) : R2 Y d σ pc ls (st) Q := ab_bipush hd hv kk
theorem r_sipush {Y : ab_Y} {d : Nat} {σ : ab_S} {pc : Nat} {ls : List (Option Value)} {st : List Value} {Q : ab_S → Option Value → Prop} {z : Int} (hd : decode Y.2.1 pc = .ok (.sipush z, 3))  (kk : R2 Y d σ (pc + 3) ls (iv z :: st) Q) (hv : (Int16.ofInt z).toInt32 = Int32.ofInt z := by decide) : R2 Y d σ pc ls (st) Q := ab_sipush hd hv kk
theorem r_lconst {Y : ab_Y} {d : Nat} {σ : ab_S} {pc : Nat} {ls : List (Option Value)} {st : List Value} {Q : ab_S → Option Value → Prop} {z : Fin 2} {v : Int} (hd : decode Y.2.1 pc = .ok (.lconst z, 1)) (hv : Int64.ofNat (z : Nat) = Int64.ofInt v) (kk : R2 Y d σ (pc + 1) ls (lgv v :: st) Q)  : R2 Y d σ pc ls (st) Q := ab_lconst hd hv kk
theorem r_iadd {Y : ab_Y} {d : Nat} {σ : ab_S} {pc : Nat} {ls : List (Option Value)} {st : List Value} {Q : ab_S → Option Value → Prop} {x y : Int} (hd : decode Y.2.1 pc = .ok (.iadd, 1)) (kk : R2 Y d σ (pc + 1) ls (iv (x + y) :: st) Q) : R2 Y d σ pc ls (iv y :: iv x :: st) Q := by
  unfold iv at kk
  rw [Int32.ofInt_add] at kk
  exact ab_iadd hd kk
theorem r_isub {Y : ab_Y} {d : Nat} {σ : ab_S} {pc : Nat} {ls : List (Option Value)} {st : List Value} {Q : ab_S → Option Value → Prop} {x y : Int} (hd : decode Y.2.1 pc = .ok (.isub, 1)) (kk : R2 Y d σ (pc + 1) ls (iv (x - y) :: st) Q) : R2 Y d σ pc ls (iv y :: iv x :: st) Q := by
  unfold iv at kk
  rw [Int32.ofInt_sub] at kk
  exact ab_isub hd kk
theorem r_imul {Y : ab_Y} {d : Nat} {σ : ab_S} {pc : Nat} {ls : List (Option Value)} {st : List Value} {Q : ab_S → Option Value → Prop} {x y : Int} (hd : decode Y.2.1 pc = .ok (.imul, 1)) (kk : R2 Y d σ (pc + 1) ls (iv (x * y) :: st) Q) : R2 Y d σ pc ls (iv y :: iv x :: st) Q := by
  unfold iv at kk
  rw [Int32.ofInt_mul] at kk
  exact ab_imul hd kk
theorem r_iand {Y : ab_Y} {d : Nat} {σ : ab_S} {pc : Nat} {ls : List (Option Value)} {st : List Value} {Q : ab_S → Option Value → Prop} {x y : Int} (hd : decode Y.2.1 pc = .ok (.iand, 1)) (kk : R2 Y d σ (pc + 1) ls (iv (ban x y) :: st) Q) : R2 Y d σ pc ls (iv y :: iv x :: st) Q := by
  unfold iv ban at kk
  rw [ofInt_toInt32] at kk
  exact ab_iand hd kk
theorem r_ior {Y : ab_Y} {d : Nat} {σ : ab_S} {pc : Nat} {ls : List (Option Value)} {st : List Value} {Q : ab_S → Option Value → Prop} {x y : Int} (hd : decode Y.2.1 pc = .ok (.ior, 1)) (kk : R2 Y d σ (pc + 1) ls (iv (bor x y) :: st) Q) : R2 Y d σ pc ls (iv y :: iv x :: st) Q := by
  unfold iv bor at kk
  rw [ofInt_toInt32] at kk
  exact ab_ior hd kk
theorem r_ixor {Y : ab_Y} {d : Nat} {σ : ab_S} {pc : Nat} {ls : List (Option Value)} {st : List Value} {Q : ab_S → Option Value → Prop} {x y : Int} (hd : decode Y.2.1 pc = .ok (.ixor, 1)) (kk : R2 Y d σ (pc + 1) ls (iv (bxo x y) :: st) Q) : R2 Y d σ pc ls (iv y :: iv x :: st) Q := by
  unfold iv bxo at kk
  rw [ofInt_toInt32] at kk
  exact ab_ixor hd kk
theorem r_ishl {Y : ab_Y} {d : Nat} {σ : ab_S} {pc : Nat} {ls : List (Option Value)} {st : List Value} {Q : ab_S → Option Value → Prop} {x y : Int} (hd : decode Y.2.1 pc = .ok (.ishl, 1)) (kk : R2 Y d σ (pc + 1) ls (iv (bsl x y) :: st) Q) : R2 Y d σ pc ls (iv y :: iv x :: st) Q := by
  unfold iv bsl at kk
  rw [ofInt_toInt32] at kk
  exact ab_ishl hd kk
theorem r_ishr {Y : ab_Y} {d : Nat} {σ : ab_S} {pc : Nat} {ls : List (Option Value)} {st : List Value} {Q : ab_S → Option Value → Prop} {x y : Int} (hd : decode Y.2.1 pc = .ok (.ishr, 1)) (kk : R2 Y d σ (pc + 1) ls (iv (bsr x y) :: st) Q) : R2 Y d σ pc ls (iv y :: iv x :: st) Q := by
  unfold iv bsr at kk
  rw [ofInt_toInt32] at kk
  exact ab_ishr hd kk
theorem r_iushr {Y : ab_Y} {d : Nat} {σ : ab_S} {pc : Nat} {ls : List (Option Value)} {st : List Value} {Q : ab_S → Option Value → Prop} {x y : Int} (hd : decode Y.2.1 pc = .ok (.iushr, 1)) (kk : R2 Y d σ (pc + 1) ls (iv (bus x y) :: st) Q) : R2 Y d σ pc ls (iv y :: iv x :: st) Q := by
  unfold iv bus at kk
  rw [ofInt_toInt32] at kk
  exact ab_iushr hd rfl kk
theorem iv_ne0 {y : Int} (h1 : -2147483648 ≤ y) (h2 : y ≤ 2147483647) (h : y ≠ 0) : ¬ Int32.ofInt y = 0 := by
  have : ¬ Int32.ofInt y = Int32.ofInt 0 := by
    rw [iv_inj_eq h1 h2 (by omega) (by omega)]
    exact h
  exact this
theorem r_idiv {Y : ab_Y} {d : Nat} {σ : ab_S} {pc : Nat} {ls : List (Option Value)} {st : List Value} {Q : ab_S → Option Value → Prop} {x y : Int} (hd : decode Y.2.1 pc = .ok (.idiv, 1)) (kk : R2 Y d σ (pc + 1) ls (iv (x / y) :: st) Q) (h1 : 0 ≤ x := by omega) (h2 : x ≤ 2147483647 := by omega) (h3 : 0 < y := by omega) (h4 : y ≤ 2147483647 := by omega) : R2 Y d σ pc ls (iv y :: iv x :: st) Q := by
  have e : Int32.ofInt x / Int32.ofInt y = Int32.ofInt (x / y) := by
    rw [← Int32.toInt_inj, Int32.toInt_div, iv_toInt (by omega) h2, iv_toInt (by omega) h4, Int.tdiv_eq_ediv_of_nonneg h1]
    have h5 : 0 ≤ x / y := Int.ediv_nonneg h1 (by omega)
    have h6 : x / y ≤ x := Int.ediv_le_self y h1
    rw [iv_toInt (by omega) (by omega)]
    exact Int.bmod_eq_of_le (by show -(4294967296/2 : Int) ≤ _; omega) (by show _ < (4294967296 + 1)/2; omega)
  unfold iv at kk
  rw [← e] at kk
  exact ab_idiv hd (iv_ne0 (by omega) h4 (by omega)) kk
theorem r_irem {Y : ab_Y} {d : Nat} {σ : ab_S} {pc : Nat} {ls : List (Option Value)} {st : List Value} {Q : ab_S → Option Value → Prop} {x y : Int} (hd : decode Y.2.1 pc = .ok (.irem, 1)) (kk : R2 Y d σ (pc + 1) ls (iv (x.tmod y) :: st) Q) (h1 : -2147483648 ≤ x := by omega) (h2 : x ≤ 2147483647 := by omega) (h3 : 0 < y := by omega) (h4 : y ≤ 2147483647 := by omega) : R2 Y d σ pc ls (iv y :: iv x :: st) Q := by
  have e : Int32.ofInt x - Int32.ofInt x / Int32.ofInt y * Int32.ofInt y = Int32.ofInt (x.tmod y) := by
    rw [← Int32.toInt_inj, rem_toInt, iv_toInt h1 h2, iv_toInt (by omega) h4]
    have h5 := tmod_bounds (a := x) h3
    rw [iv_toInt (by omega) (by omega)]
  unfold iv at kk
  rw [← e] at kk
  exact ab_irem hd (iv_ne0 (by omega) h4 (by omega)) kk
theorem r_ladd {Y : ab_Y} {d : Nat} {σ : ab_S} {pc : Nat} {ls : List (Option Value)} {st : List Value} {Q : ab_S → Option Value → Prop} {x y : Int} (hd : decode Y.2.1 pc = .ok (.ladd, 1)) (kk : R2 Y d σ (pc + 1) ls (lgv (x + y) :: st) Q) : R2 Y d σ pc ls (lgv y :: lgv x :: st) Q := by
  unfold lgv at kk
  rw [Int64.ofInt_add] at kk
  exact ab_ladd hd kk
theorem r_lmul {Y : ab_Y} {d : Nat} {σ : ab_S} {pc : Nat} {ls : List (Option Value)} {st : List Value} {Q : ab_S → Option Value → Prop} {x y : Int} (hd : decode Y.2.1 pc = .ok (.lmul, 1)) (kk : R2 Y d σ (pc + 1) ls (lgv (x * y) :: st) Q) : R2 Y d σ pc ls (lgv y :: lgv x :: st) Q := by
  unfold lgv at kk
  rw [Int64.ofInt_mul] at kk
  exact ab_lmul hd kk
theorem lgv_ne0 {y : Int} (h1 : 0 < y) (h2 : y ≤ 9223372036854775807) : ¬ Int64.ofInt y = 0 := by
  intro h
  have h3 := congrArg Int64.toInt h
  rw [lgv_toInt (by omega) h2] at h3
  have h4 : (0 : Int64).toInt = 0 := by decide
  omega
theorem r_ldiv {Y : ab_Y} {d : Nat} {σ : ab_S} {pc : Nat} {ls : List (Option Value)} {st : List Value} {Q : ab_S → Option Value → Prop} {x y : Int} (hd : decode Y.2.1 pc = .ok (.ldiv, 1)) (kk : R2 Y d σ (pc + 1) ls (lgv (x / y) :: st) Q) (h1 : 0 ≤ x := by omega) (h2 : x ≤ 9223372036854775807 := by omega) (h3 : 0 < y := by omega) (h4 : y ≤ 9223372036854775807 := by omega) : R2 Y d σ pc ls (lgv y :: lgv x :: st) Q := by
  have e : Int64.ofInt x / Int64.ofInt y = Int64.ofInt (x / y) := by
    rw [← Int64.toInt_inj, Int64.toInt_div, lgv_toInt (by omega) h2, lgv_toInt (by omega) h4, Int.tdiv_eq_ediv_of_nonneg h1]
    have h5 : 0 ≤ x / y := Int.ediv_nonneg h1 (by omega)
    have h6 : x / y ≤ x := Int.ediv_le_self y h1
    rw [lgv_toInt (by omega) (by omega)]
    exact Int.bmod_eq_of_le (by show -(18446744073709551616/2 : Int) ≤ _; omega) (by show _ < (18446744073709551616 + 1)/2; omega)
  unfold lgv at kk
  rw [← e] at kk
  exact ab_ldiv hd (lgv_ne0 h3 h4) kk
theorem r_lrem {Y : ab_Y} {d : Nat} {σ : ab_S} {pc : Nat} {ls : List (Option Value)} {st : List Value} {Q : ab_S → Option Value → Prop} {x y : Int} (hd : decode Y.2.1 pc = .ok (.lrem, 1)) (kk : R2 Y d σ (pc + 1) ls (lgv (x % y) :: st) Q) (h1 : 0 ≤ x := by omega) (h2 : x ≤ 9223372036854775807 := by omega) (h3 : 0 < y := by omega) (h4 : y ≤ 9223372036854775807 := by omega) : R2 Y d σ pc ls (lgv y :: lgv x :: st) Q := by
  have h5 : 0 ≤ x / y := Int.ediv_nonneg h1 (by omega)
  have h6 : x / y ≤ x := Int.ediv_le_self y h1
  have e0 : Int64.ofInt x / Int64.ofInt y = Int64.ofInt (x / y) := by
    rw [← Int64.toInt_inj, Int64.toInt_div, lgv_toInt (by omega) h2, lgv_toInt (by omega) h4, Int.tdiv_eq_ediv_of_nonneg h1]
    rw [lgv_toInt (by omega) (by omega)]
    exact Int.bmod_eq_of_le (by show -(18446744073709551616/2 : Int) ≤ _; omega) (by show _ < (18446744073709551616 + 1)/2; omega)
  have e : Int64.ofInt x - Int64.ofInt x / Int64.ofInt y * Int64.ofInt y = Int64.ofInt (x % y) := by
    rw [e0, ← Int64.ofInt_mul, ← Int64.ofInt_sub, Int.emod_def, Int.mul_comm]
  unfold lgv at kk
  rw [← e] at kk
  exact ab_lrem hd (lgv_ne0 h3 h4) kk
theorem r_i2l {Y : ab_Y} {d : Nat} {σ : ab_S} {pc : Nat} {ls : List (Option Value)} {st : List Value} {Q : ab_S → Option Value → Prop} {x : Int} (hd : decode Y.2.1 pc = .ok (.i2l, 1)) (kk : R2 Y d σ (pc + 1) ls (lgv x :: st) Q) (h1 : -2147483648 ≤ x := by omega) (h2 : x ≤ 2147483647 := by omega) : R2 Y d σ pc ls (iv x :: st) Q := by
  refine ab_i2l hd ?_ kk
  rw [← Int64.toInt_inj, Int32.toInt_toInt64, iv_toInt h1 h2, lgv_toInt (by omega) (by omega)]
theorem r_l2i {Y : ab_Y} {d : Nat} {σ : ab_S} {pc : Nat} {ls : List (Option Value)} {st : List Value} {Q : ab_S → Option Value → Prop} {x : Int} (hd : decode Y.2.1 pc = .ok (.l2i, 1)) (kk : R2 Y d σ (pc + 1) ls (iv x :: st) Q) (h1 : -2147483648 ≤ x := by omega) (h2 : x ≤ 2147483647 := by omega) : R2 Y d σ pc ls (lgv x :: st) Q := by
  refine ab_l2i hd ?_ kk
  rw [← Int32.toInt_inj, Int64.toInt_toInt32, lgv_toInt (by omega) (by omega), iv_toInt h1 h2]
  exact Int.bmod_eq_of_le (by show -(4294967296/2 : Int) ≤ _; omega) (by show _ < (4294967296 + 1)/2; omega)
/-- what lcmp says -/
def lcm (x y : Int) : Int := if y < x then 1 else if x = y then 0 else -1
theorem r_lcmp {Y : ab_Y} {d : Nat} {σ : ab_S} {pc : Nat} {ls : List (Option Value)} {st : List Value} {Q : ab_S → Option Value → Prop} {x y : Int} (hd : decode Y.2.1 pc = .ok (.lcmp, 1)) (kk : R2 Y d σ (pc + 1) ls (iv (lcm x y) :: st) Q) (h1 : -9223372036854775808 ≤ x := by omega) (h2 : x ≤ 9223372036854775807 := by omega) (h3 : -9223372036854775808 ≤ y := by omega) (h4 : y ≤ 9223372036854775807 := by omega) : R2 Y d σ pc ls (lgv y :: lgv x :: st) Q := by
  have e : lg_cmp (Int64.ofInt x) (Int64.ofInt y) = Int32.ofInt (lcm x y) := by
    unfold lg_cmp lcm
    have a1 : Int64.ofInt x > Int64.ofInt y ↔ y < x := by
      rw [gt_iff_lt, Int64.lt_iff_toInt_lt, lgv_toInt h1 h2, lgv_toInt h3 h4]
    have a2 : Int64.ofInt x = Int64.ofInt y ↔ x = y := by
      rw [← Int64.toInt_inj, lgv_toInt h1 h2, lgv_toInt h3 h4]
    by_cases c1 : y < x
    · rw [if_pos (a1.mpr c1), if_pos c1]; rfl
    · rw [if_neg (fun h => c1 (a1.mp h)), if_neg c1]
      by_cases c2 : x = y
      · rw [if_pos (a2.mpr c2), if_pos c2]; rfl
      · rw [if_neg (fun h => c2 (a2.mp h)), if_neg c2]; rfl
  unfold iv at kk
  rw [← e] at kk
  exact ab_lcmp hd kk
theorem r_dup {Y : ab_Y} {d : Nat} {σ : ab_S} {pc : Nat} {ls : List (Option Value)} {st : List Value} {Q : ab_S → Option Value → Prop} {v : Value} (hd : decode Y.2.1 pc = .ok (.dup, 1))  (kk : R2 Y d σ (pc + 1) ls (v :: v :: st) Q) (hv : v.category = 1 := by rfl) : R2 Y d σ pc ls (v :: st) Q := ab_dup hd hv kk
theorem r_pop {Y : ab_Y} {d : Nat} {σ : ab_S} {pc : Nat} {ls : List (Option Value)} {st : List Value} {Q : ab_S → Option Value → Prop} {v : Value} (hd : decode Y.2.1 pc = .ok (.pop, 1))  (kk : R2 Y d σ (pc + 1) ls (st) Q) (hv : v.category = 1 := by rfl) : R2 Y d σ pc ls (v :: st) Q := ab_pop hd hv kk
theorem r_dup2 {Y : ab_Y} {d : Nat} {σ : ab_S} {pc : Nat} {ls : List (Option Value)} {st : List Value} {Q : ab_S → Option Value → Prop} {v w : Value} (hd : decode Y.2.1 pc = .ok (.dup2, 1))  (kk : R2 Y d σ (pc + 1) ls (v :: w :: v :: w :: st) Q) (hv : v.category = 1 := by rfl) (hw : w.category = 1 := by rfl) : R2 Y d σ pc ls (v :: w :: st) Q := ab_dup2 hd hv hw kk
theorem r_iload {Y : ab_Y} {d : Nat} {σ : ab_S} {pc : Nat} {ls : List (Option Value)} {st : List Value} {Q : ab_S → Option Value → Prop} {i : Nat} {x : Int} (hd : decode Y.2.1 pc = .ok (.iload i, 2)) (hl : ls[i]? = some (some (iv x))) (kk : R2 Y d σ (pc + 2) ls (iv x :: st) Q)  : R2 Y d σ pc ls (st) Q := ab_iload hd hl kk
theorem r_iload_n {Y : ab_Y} {d : Nat} {σ : ab_S} {pc : Nat} {ls : List (Option Value)} {st : List Value} {Q : ab_S → Option Value → Prop} {q : Fin 4} {x : Int} (hd : decode Y.2.1 pc = .ok (.iload_n q, 1)) (hl : ls[(q : Nat)]? = some (some (iv x))) (kk : R2 Y d σ (pc + 1) ls (iv x :: st) Q)  : R2 Y d σ pc ls (st) Q := ab_iload_n hd hl kk
theorem r_lload {Y : ab_Y} {d : Nat} {σ : ab_S} {pc : Nat} {ls : List (Option Value)} {st : List Value} {Q : ab_S → Option Value → Prop} {i : Nat} {x : Int} (hd : decode Y.2.1 pc = .ok (.lload i, 2)) (hl : ls[i]? = some (some (lgv x))) (kk : R2 Y d σ (pc + 2) ls (lgv x :: st) Q)  : R2 Y d σ pc ls (st) Q := ab_lload hd hl kk
theorem r_lload_n {Y : ab_Y} {d : Nat} {σ : ab_S} {pc : Nat} {ls : List (Option Value)} {st : List Value} {Q : ab_S → Option Value → Prop} {q : Fin 4} {x : Int} (hd : decode Y.2.1 pc = .ok (.lload_n q, 1)) (hl : ls[(q : Nat)]? = some (some (lgv x))) (kk : R2 Y d σ (pc + 1) ls (lgv x :: st) Q)  : R2 Y d σ pc ls (st) Q := ab_lload_n hd hl kk
theorem r_aload {Y : ab_Y} {d : Nat} {σ : ab_S} {pc : Nat} {ls : List (Option Value)} {st : List Value} {Q : ab_S → Option Value → Prop} {i : Nat} {x : Int} (hd : decode Y.2.1 pc = .ok (.aload i, 2)) (hl : ls[i]? = some (some (rf x))) (kk : R2 Y d σ (pc + 2) ls (rf x :: st) Q)  : R2 Y d σ pc ls (st) Q := ab_aload hd hl kk
theorem r_aload_n {Y : ab_Y} {d : Nat} {σ : ab_S} {pc : Nat} {ls : List (Option Value)} {st : List Value} {Q : ab_S → Option Value → Prop} {q : Fin 4} {x : Int} (hd : decode Y.2.1 pc = .ok (.aload_n q, 1)) (hl : ls[(q : Nat)]? = some (some (rf x))) (kk : R2 Y d σ (pc + 1) ls (rf x :: st) Q)  : R2 Y d σ pc ls (st) Q := ab_aload_n hd hl kk
theorem r_istore {Y : ab_Y} {d : Nat} {σ : ab_S} {pc : Nat} {ls : List (Option Value)} {st : List Value} {Q : ab_S → Option Value → Prop} {i : Nat} {x : Int} (hd : decode Y.2.1 pc = .ok (.istore i, 2)) (kk : R2 Y d σ (pc + 2) (ls.set i (some (iv x))) st Q) (hn : i < Y.2.2.1 := by decide) (hk : ab_kill ls i = ls := by rfl) : R2 Y d σ pc ls (iv x :: st) Q := by
  refine ab_istore hd hn ?_
  unfold ab_set
  rw [hk]
  exact kk
theorem r_istore_n {Y : ab_Y} {d : Nat} {σ : ab_S} {pc : Nat} {ls : List (Option Value)} {st : List Value} {Q : ab_S → Option Value → Prop} {q : Fin 4} {x : Int} (hd : decode Y.2.1 pc = .ok (.istore_n q, 1)) (kk : R2 Y d σ (pc + 1) (ls.set (q : Nat) (some (iv x))) st Q) (hn : (q : Nat) < Y.2.2.1 := by decide) (hk : ab_kill ls (q : Nat) = ls := by rfl) : R2 Y d σ pc ls (iv x :: st) Q := by
  refine ab_istore_n hd hn ?_
  unfold ab_set
  rw [hk]
  exact kk
theorem r_astore {Y : ab_Y} {d : Nat} {σ : ab_S} {pc : Nat} {ls : List (Option Value)} {st : List Value} {Q : ab_S → Option Value → Prop} {i : Nat} {x : Int} (hd : decode Y.2.1 pc = .ok (.astore i, 2)) (kk : R2 Y d σ (pc + 2) (ls.set i (some (rf x))) st Q) (hn : i < Y.2.2.1 := by decide) (hk : ab_kill ls i = ls := by rfl) : R2 Y d σ pc ls (rf x :: st) Q := by
  refine ab_astore hd hn ?_
  unfold ab_set
  rw [hk]
  exact kk
theorem r_astore_n {Y : ab_Y} {d : Nat} {σ : ab_S} {pc : Nat} {ls : List (Option Value)} {st : List Value} {Q : ab_S → Option Value → Prop} {q : Fin 4} {x : Int} (hd : decode Y.2.1 pc = .ok (.astore_n q, 1)) (kk : R2 Y d σ (pc + 1) (ls.set (q : Nat) (some (rf x))) st Q) (hn : (q : Nat) < Y.2.2.1 := by decide) (hk : ab_kill ls (q : Nat) = ls := by rfl) : R2 Y d σ pc ls (rf x :: st) Q := by
  refine ab_astore_n hd hn ?_
  unfold ab_set
  rw [hk]
  exact kk
theorem r_lstore {Y : ab_Y} {d : Nat} {σ : ab_S} {pc : Nat} {ls : List (Option Value)} {st : List Value} {Q : ab_S → Option Value → Prop} {i : Nat} {x : Int} (hd : decode Y.2.1 pc = .ok (.lstore i, 2)) (kk : R2 Y d σ (pc + 2) ((ls.set i (some (lgv x))).set (i + 1) none) st Q) (hn : i + 1 < Y.2.2.1 := by decide) (hk : ab_kill ls i = ls := by rfl) : R2 Y d σ pc ls (lgv x :: st) Q := by
  refine ab_lstore hd hn ?_
  unfold ab_set2
  rw [hk]
  exact kk
theorem r_lstore_n {Y : ab_Y} {d : Nat} {σ : ab_S} {pc : Nat} {ls : List (Option Value)} {st : List Value} {Q : ab_S → Option Value → Prop} {q : Fin 4} {x : Int} (hd : decode Y.2.1 pc = .ok (.lstore_n q, 1)) (kk : R2 Y d σ (pc + 1) ((ls.set (q : Nat) (some (lgv x))).set ((q : Nat) + 1) none) st Q) (hn : (q : Nat) + 1 < Y.2.2.1 := by decide) (hk : ab_kill ls (q : Nat) = ls := by rfl) : R2 Y d σ pc ls (lgv x :: st) Q := by
  refine ab_lstore_n hd hn ?_
  unfold ab_set2
  rw [hk]
  exact kk
theorem r_iinc {Y : ab_Y} {d : Nat} {σ : ab_S} {pc : Nat} {ls : List (Option Value)} {st : List Value} {Q : ab_S → Option Value → Prop} {i : Nat} {z x : Int} (hd : decode Y.2.1 pc = .ok (.iinc i z, 3)) (hl : ls[i]? = some (some (iv x))) (kk : R2 Y d σ (pc + 3) (ls.set i (some (iv (x + z)))) st Q) (hn : i < Y.2.2.1 := by decide) (hk : ab_kill ls i = ls := by rfl) : R2 Y d σ pc ls st Q := by
  refine ab_iinc hd hl hn ?_
  unfold ab_set
  rw [hk, ← Int32.ofInt_add]
  exact kk
theorem r_icmp_eq {Y : ab_Y} {d : Nat} {σ : ab_S} {pc : Nat} {ls : List (Option Value)} {st : List Value} {Q : ab_S → Option Value → Prop} {x y : Int} {off : Int} {tgt : Nat} (hd : decode Y.2.1 pc = .ok (.if_icmp .eq off, 3)) (ht : (pc : Int) + off = (tgt : Int)) (kt : x = y → R2 Y d σ tgt ls st Q) (kf : ¬ x = y → R2 Y d σ (pc + 3) ls st Q) (h1 : -2147483648 ≤ x := by omega) (h2 : x ≤ 2147483647 := by omega) (h3 : -2147483648 ≤ y := by omega) (h4 : y ≤ 2147483647 := by omega) : R2 Y d σ pc ls (iv y :: iv x :: st) Q := ab_icmp_eq hd ht (fun h => kt ((iv_inj_eq (h1) (h2) (h3) (h4)).mp h)) (fun h => kf (fun h9 => h ((iv_inj_eq (h1) (h2) (h3) (h4)).mpr h9)))
theorem r_if_eq {Y : ab_Y} {d : Nat} {σ : ab_S} {pc : Nat} {ls : List (Option Value)} {st : List Value} {Q : ab_S → Option Value → Prop} {x : Int} {off : Int} {tgt : Nat} (hd : decode Y.2.1 pc = .ok (.ifCond .eq off, 3)) (ht : (pc : Int) + off = (tgt : Int)) (kt : x = 0 → R2 Y d σ tgt ls st Q) (kf : ¬ x = 0 → R2 Y d σ (pc + 3) ls st Q) (h1 : -2147483648 ≤ x := by omega) (h2 : x ≤ 2147483647 := by omega) : R2 Y d σ pc ls (iv x :: st) Q := ab_if_eq hd ht (fun h => kt ((iv_inj_eq (y := 0) (h1) (h2) (by omega) (by omega)).mp h)) (fun h => kf (fun h9 => h ((iv_inj_eq (y := 0) (h1) (h2) (by omega) (by omega)).mpr h9)))
theorem r_icmp_ne {Y : ab_Y} {d : Nat} {σ : ab_S} {pc : Nat} {ls : List (Option Value)} {st : List Value} {Q : ab_S → Option Value → Prop} {x y : Int} {off : Int} {tgt : Nat} (hd : decode Y.2.1 pc = .ok (.if_icmp .ne off, 3)) (ht : (pc : Int) + off = (tgt : Int)) (kt : ¬ x = y → R2 Y d σ tgt ls st Q) (kf : x = y → R2 Y d σ (pc + 3) ls st Q) (h1 : -2147483648 ≤ x := by omega) (h2 : x ≤ 2147483647 := by omega) (h3 : -2147483648 ≤ y := by omega) (h4 : y ≤ 2147483647 := by omega) : R2 Y d σ pc ls (iv y :: iv x :: st) Q := ab_icmp_ne hd ht (fun h => kt (fun h9 => h ((iv_inj_eq (h1) (h2) (h3) (h4)).mpr h9))) (fun h => kf ((iv_inj_eq (h1) (h2) (h3) (h4)).mp h))
theorem r_if_ne {Y : ab_Y} {d : Nat} {σ : ab_S} {pc : Nat} {ls : List (Option Value)} {st : List Value} {Q : ab_S → Option Value → Prop} {x : Int} {off : Int} {tgt : Nat} (hd : decode Y.2.1 pc = .ok (.ifCond .ne off, 3)) (ht : (pc : Int) + off = (tgt : Int)) (kt : ¬ x = 0 → R2 Y d σ tgt ls st Q) (kf : x = 0 → R2 Y d σ (pc + 3) ls st Q) (h1 : -2147483648 ≤ x := by omega) (h2 : x ≤ 2147483647 := by omega) : R2 Y d σ pc ls (iv x :: st) Q := ab_if_ne hd ht (fun h => kt (fun h9 => h ((iv_inj_eq (y := 0) (h1) (h2) (by omega) (by omega)).mpr h9))) (fun h => kf ((iv_inj_eq (y := 0) (h1) (h2) (by omega) (by omega)).mp h))
theorem r_icmp_lt {Y : ab_Y} {d : Nat} {σ : ab_S} {pc : Nat} {ls : List (Option Value)} {st : List Value} {Q : ab_S → Option Value → Prop} {x y : Int} {off : Int} {tgt : Nat} (hd : decode Y.2.1 pc = .ok (.if_icmp .lt off, 3)) (ht : (pc : Int) + off = (tgt : Int)) (kt : x < y → R2 Y d σ tgt ls st Q) (kf : ¬ x < y → R2 Y d σ (pc + 3) ls st Q) (h1 : -2147483648 ≤ x := by omega) (h2 : x ≤ 2147483647 := by omega) (h3 : -2147483648 ≤ y := by omega) (h4 : y ≤ 2147483647 := by omega) : R2 Y d σ pc ls (iv y :: iv x :: st) Q := ab_icmp_lt hd ht (fun h => kt ((iv_inj_lt (h1) (h2) (h3) (h4)).mp h)) (fun h => kf (fun h9 => h ((iv_inj_lt (h1) (h2) (h3) (h4)).mpr h9)))
theorem r_if_lt {Y : ab_Y} {d : Nat} {σ : ab_S} {pc : Nat} {ls : List (Option Value)} {st : List Value} {Q : ab_S → Option Value → Prop} {x : Int} {off : Int} {tgt : Nat} (hd : decode Y.2.1 pc = .ok (.ifCond .lt off, 3)) (ht : (pc : Int) + off = (tgt : Int)) (kt : x < 0 → R2 Y d σ tgt ls st Q) (kf : ¬ x < 0 → R2 Y d σ (pc + 3) ls st Q) (h1 : -2147483648 ≤ x := by omega) (h2 : x ≤ 2147483647 := by omega) : R2 Y d σ pc ls (iv x :: st) Q := ab_if_lt hd ht (fun h => kt ((iv_inj_lt (y := 0) (h1) (h2) (by omega) (by omega)).mp h)) (fun h => kf (fun h9 => h ((iv_inj_lt (y := 0) (h1) (h2) (by omega) (by omega)).mpr h9)))
theorem r_icmp_ge {Y : ab_Y} {d : Nat} {σ : ab_S} {pc : Nat} {ls : List (Option Value)} {st : List Value} {Q : ab_S → Option Value → Prop} {x y : Int} {off : Int} {tgt : Nat} (hd : decode Y.2.1 pc = .ok (.if_icmp .ge off, 3)) (ht : (pc : Int) + off = (tgt : Int)) (kt : y ≤ x → R2 Y d σ tgt ls st Q) (kf : ¬ y ≤ x → R2 Y d σ (pc + 3) ls st Q) (h1 : -2147483648 ≤ x := by omega) (h2 : x ≤ 2147483647 := by omega) (h3 : -2147483648 ≤ y := by omega) (h4 : y ≤ 2147483647 := by omega) : R2 Y d σ pc ls (iv y :: iv x :: st) Q := ab_icmp_ge hd ht (fun h => kt ((iv_inj_le (h3) (h4) (h1) (h2)).mp h)) (fun h => kf (fun h9 => h ((iv_inj_le (h3) (h4) (h1) (h2)).mpr h9)))
theorem r_if_ge {Y : ab_Y} {d : Nat} {σ : ab_S} {pc : Nat} {ls : List (Option Value)} {st : List Value} {Q : ab_S → Option Value → Prop} {x : Int} {off : Int} {tgt : Nat} (hd : decode Y.2.1 pc = .ok (.ifCond .ge off, 3)) (ht : (pc : Int) + off = (tgt : Int)) (kt : 0 ≤ x → R2 Y d σ tgt ls st Q) (kf : ¬ 0 ≤ x → R2 Y d σ (pc + 3) ls st Q) (h1 : -2147483648 ≤ x := by omega) (h2 : x ≤ 2147483647 := by omega) : R2 Y d σ pc ls (iv x :: st) Q := ab_if_ge hd ht (fun h => kt ((iv_inj_le (x := 0) (by omega) (by omega) (h1) (h2)).mp h)) (fun h => kf (fun h9 => h ((iv_inj_le (x := 0) (by omega) (by omega) (h1) (h2)).mpr h9)))
theorem r_icmp_gt {Y : ab_Y} {d : Nat} {σ : ab_S} {pc : Nat} {ls : List (Option Value)} {st : List Value} {Q : ab_S → Option Value → Prop} {x y : Int} {off : Int} {tgt : Nat} (hd : decode Y.2.1 pc = .ok (.if_icmp .gt off, 3)) (ht : (pc : Int) + off = (tgt : Int)) (kt : y < x → R2 Y d σ tgt ls st Q) (kf : ¬ y < x → R2 Y d σ (pc + 3) ls st Q) (h1 : -2147483648 ≤ x := by omega) (h2 : x ≤ 2147483647 := by omega) (h3 : -2147483648 ≤ y := by omega) (h4 : y ≤ 2147483647 := by omega) : R2 Y d σ pc ls (iv y :: iv x :: st) Q := ab_icmp_gt hd ht (fun h => kt ((iv_inj_lt (h3) (h4) (h1) (h2)).mp h)) (fun h => kf (fun h9 => h ((iv_inj_lt (h3) (h4) (h1) (h2)).mpr h9)))
theorem r_if_gt {Y : ab_Y} {d : Nat} {σ : ab_S} {pc : Nat} {ls : List (Option Value)} {st : List Value} {Q : ab_S → Option Value → Prop} {x : Int} {off : Int} {tgt : Nat} (hd : decode Y.2.1 pc = .ok (.ifCond .gt off, 3)) (ht : (pc : Int) + off = (tgt : Int)) (kt : 0 < x → R2 Y d σ tgt ls st Q) (kf : ¬ 0 < x → R2 Y d σ (pc + 3) ls st Q) (h1 : -2147483648 ≤ x := by omega) (h2 : x ≤ 2147483647 := by omega) : R2 Y d σ pc ls (iv x :: st) Q := ab_if_gt hd ht (fun h => kt ((iv_inj_lt (x := 0) (by omega) (by omega) (h1) (h2)).mp h)) (fun h => kf (fun h9 => h ((iv_inj_lt (x := 0) (by omega) (by omega) (h1) (h2)).mpr h9)))
theorem r_icmp_le {Y : ab_Y} {d : Nat} {σ : ab_S} {pc : Nat} {ls : List (Option Value)} {st : List Value} {Q : ab_S → Option Value → Prop} {x y : Int} {off : Int} {tgt : Nat} (hd : decode Y.2.1 pc = .ok (.if_icmp .le off, 3)) (ht : (pc : Int) + off = (tgt : Int)) (kt : x ≤ y → R2 Y d σ tgt ls st Q) (kf : ¬ x ≤ y → R2 Y d σ (pc + 3) ls st Q) (h1 : -2147483648 ≤ x := by omega) (h2 : x ≤ 2147483647 := by omega) (h3 : -2147483648 ≤ y := by omega) (h4 : y ≤ 2147483647 := by omega) : R2 Y d σ pc ls (iv y :: iv x :: st) Q := ab_icmp_le hd ht (fun h => kt ((iv_inj_le (h1) (h2) (h3) (h4)).mp h)) (fun h => kf (fun h9 => h ((iv_inj_le (h1) (h2) (h3) (h4)).mpr h9)))
theorem r_if_le {Y : ab_Y} {d : Nat} {σ : ab_S} {pc : Nat} {ls : List (Option Value)} {st : List Value} {Q : ab_S → Option Value → Prop} {x : Int} {off : Int} {tgt : Nat} (hd : decode Y.2.1 pc = .ok (.ifCond .le off, 3)) (ht : (pc : Int) + off = (tgt : Int)) (kt : x ≤ 0 → R2 Y d σ tgt ls st Q) (kf : ¬ x ≤ 0 → R2 Y d σ (pc + 3) ls st Q) (h1 : -2147483648 ≤ x := by omega) (h2 : x ≤ 2147483647 := by omega) : R2 Y d σ pc ls (iv x :: st) Q := ab_if_le hd ht (fun h => kt ((iv_inj_le (y := 0) (h1) (h2) (by omega) (by omega)).mp h)) (fun h => kf (fun h9 => h ((iv_inj_le (y := 0) (h1) (h2) (by omega) (by omega)).mpr h9)))
theorem r_goto {Y : ab_Y} {d : Nat} {σ : ab_S} {pc : Nat} {ls : List (Option Value)} {st : List Value} {Q : ab_S → Option Value → Prop} {off : Int} {tgt : Nat} (hd : decode Y.2.1 pc = .ok (.goto off, 3)) (ht : (pc : Int) + off = (tgt : Int)) (kk : R2 Y d σ tgt ls st Q) : R2 Y d σ pc ls st Q := ab_goto hd ht kk
theorem r_same {Y : ab_Y} {d : Nat} {σ : ab_S} {pc : Nat} {ls : List (Option Value)} {st : List Value} {Q : ab_S → Option Value → Prop} {x y : Int} {off : Int} {tgt : Nat} (hd : decode Y.2.1 pc = .ok (.if_icmp .eq off, 3)) (ht : (pc : Int) + off = (tgt : Int)) (h : x = y) (kt : R2 Y d σ tgt ls st Q) : R2 Y d σ pc ls (iv y :: iv x :: st) Q := ab_icmp_eq hd ht (fun _ => kt) (fun h9 => absurd (by rw [h]) h9)
theorem r_lookup {Y : ab_Y} {d : Nat} {σ : ab_S} {pc : Nat} {ls : List (Option Value)} {st : List Value} {Q : ab_S → Option Value → Prop} {dflt : Int} {ps : Array (Int × Int)} {len : Nat} {x off : Int} {tgt : Nat} (hd : decode Y.2.1 pc = .ok (.lookupswitch dflt ps, len)) (hp : (ps.toList.zip (ps.toList.drop 1)).all (fun (a, next) => a.1 < next.1) = true) (ho : Op.lookupswitch.offset ps.toList dflt x = off) (ht : (pc : Int) + off = (tgt : Int)) (kk : R2 Y d σ tgt ls st Q) (h1 : -2147483648 ≤ x := by omega) (h2 : x ≤ 2147483647 := by omega) : R2 Y d σ pc ls (iv x :: st) Q := ab_lookup hd hp (by rw [iv_toInt h1 h2]; exact ho) ht kk
theorem r_tableOut {Y : ab_Y} {d : Nat} {σ : ab_S} {pc : Nat} {ls : List (Option Value)} {st : List Value} {Q : ab_S → Option Value → Prop} {dflt lo hi : Int} {offs : Array Int} {len : Nat} {x : Int} {tgt : Nat} (hd : decode Y.2.1 pc = .ok (.tableswitch dflt lo hi offs, len)) (h : x < lo ∨ hi < x) (ht : (pc : Int) + dflt = (tgt : Int)) (kk : R2 Y d σ tgt ls st Q) (h1 : -2147483648 ≤ x := by omega) (h2 : x ≤ 2147483647 := by omega) : R2 Y d σ pc ls (iv x :: st) Q := ab_tableOut hd (by rw [iv_toInt h1 h2]; exact h) ht kk
theorem r_tableIn {Y : ab_Y} {d : Nat} {σ : ab_S} {pc : Nat} {ls : List (Option Value)} {st : List Value} {Q : ab_S → Option Value → Prop} {dflt lo hi : Int} {offs : Array Int} {len : Nat} {x off : Int} {tgt : Nat} (hd : decode Y.2.1 pc = .ok (.tableswitch dflt lo hi offs, len)) (ha : ¬ x < lo) (hb : ¬ hi < x) (ho : offs[(x - lo).toNat]? = some off) (ht : (pc : Int) + off = (tgt : Int)) (kk : R2 Y d σ tgt ls st Q) (h1 : -2147483648 ≤ x := by omega) (h2 : x ≤ 2147483647 := by omega) : R2 Y d σ pc ls (iv x :: st) Q := ab_tableIn hd (by rw [iv_toInt h1 h2]; exact ha) (by rw [iv_toInt h1 h2]; exact hb) (by rw [iv_toInt h1 h2]; exact ho) ht kk
theorem r_ldc {Y : ab_Y} {d : Nat} {σ : ab_S} {pc : Nat} {ls : List (Option Value)} {st : List Value} {Q : ab_S → Option Value → Prop} {i : Nat} {v : Int32} {z : Int} (hw : Cond.constant Y.1.cls i v ∈ ab_gw) (hd : decode Y.2.1 pc = .ok (.ldc i, 2)) (hv : v = Int32.ofInt z) (kk : R2 Y d σ (pc + 2) ls (iv z :: st) Q) : R2 Y d σ pc ls st Q := ab_ldc hw hd (by rw [hv]; exact kk)
theorem r_ldcw {Y : ab_Y} {d : Nat} {σ : ab_S} {pc : Nat} {ls : List (Option Value)} {st : List Value} {Q : ab_S → Option Value → Prop} {i : Nat} {v : Int32} {z : Int} (hw : Cond.constant Y.1.cls i v ∈ ab_gw) (hd : decode Y.2.1 pc = .ok (.ldc_w i, 3)) (hv : v = Int32.ofInt z) (kk : R2 Y d σ (pc + 3) ls (iv z :: st) Q) : R2 Y d σ pc ls st Q := ab_ldcw hw hd (by rw [hv]; exact kk)
theorem r_ldc2 {Y : ab_Y} {d : Nat} {σ : ab_S} {pc : Nat} {ls : List (Option Value)} {st : List Value} {Q : ab_S → Option Value → Prop} {i : Nat} {v : Int64} {z : Int} (hw : Cond.constantLong Y.1.cls i v ∈ ab_gw) (hd : decode Y.2.1 pc = .ok (.ldc2_w i, 3)) (hv : v = Int64.ofInt z) (kk : R2 Y d σ (pc + 3) ls (lgv z :: st) Q) : R2 Y d σ pc ls st Q := ab_ldc2 hw hd (by rw [hv]; exact kk)
theorem r_ireturn {Y : ab_Y} {d : Nat} {σ : ab_S} {pc : Nat} {ls : List (Option Value)} {Q : ab_S → Int → Prop} {x : Int} (hd : decode Y.2.1 pc = .ok (.ireturn, 1)) (hq : Q σ x) (hy : Y.2.2.2 = some .int := by rfl) : R2 Y d σ pc ls [iv x] (PI Q) := ab_ireturn (st := []) hd hy rfl ⟨σ, rfl, x, rfl, hq⟩
theorem r_zreturn {Y : ab_Y} {d : Nat} {σ : ab_S} {pc : Nat} {ls : List (Option Value)} {Q : ab_S → Int → Prop} {x : Int} (hd : decode Y.2.1 pc = .ok (.ireturn, 1)) (hx : x = 0 ∨ x = 1) (hq : Q σ x) (hy : Y.2.2.2 = some .boolean := by rfl) : R2 Y d σ pc ls [iv x] (PI Q) := ab_ireturn (st := []) hd hy (by rcases hx with rfl | rfl <;> decide) ⟨σ, rfl, x, rfl, hq⟩
theorem r_lreturn {Y : ab_Y} {d : Nat} {σ : ab_S} {pc : Nat} {ls : List (Option Value)} {Q : ab_S → Int → Prop} {x : Int} (hd : decode Y.2.1 pc = .ok (.lreturn, 1)) (hq : Q σ x) (hy : Y.2.2.2 = some .long := by rfl) : R2 Y d σ pc ls [lgv x] (PL Q) := ab_lreturn (st := []) hd hy ⟨σ, rfl, x, rfl, hq⟩
theorem r_return {Y : ab_Y} {d : Nat} {σ : ab_S} {pc : Nat} {ls : List (Option Value)} {Q : ab_S → Prop} (hd : decode Y.2.1 pc = .ok (.return_, 1)) (hq : Q σ) (hy : Y.2.2.2 = none := by rfl) : R2 Y d σ pc ls [] (PV Q) := ab_return (st := []) hd hy ⟨σ, rfl, rfl, hq⟩
end
section
theorem ab_small {k : Int} {kd n : Nat} (h : kd_ k kd n) : n < 1000 := by
  have h9 : ∀ q ∈ ab_shp, q.2 < 1000 := by decide +kernel
  exact h9 _ (List.mem_of_getElem? h.2)
theorem ab_sv_get {σ : ab_S} {k kd n i : Nat} (hi : i < n) : ((List.range n).map (fun i => ab_sv σ k kd i))[i]? = some (ab_sv σ k kd i) := by
  rw [List.getElem?_map, List.getElem?_range hi]
  rfl
theorem ab_sv_int {σ : ab_S} {k : Int} {kd i : Nat} (hk : 0 < k) (ht : ab_tg kd i = none) : ab_sv σ k.toNat kd i = iv (σ k i) := by
  unfold ab_sv
  rw [ht]
  show iv (σ (k.toNat : Int) i) = _
  rw [show ((k.toNat : Nat) : Int) = k by omega]
theorem ab_sv_ref {σ : ab_S} {k : Int} {kd i δ : Nat} (hk : 0 < k) (ht : ab_tg kd i = some δ) : ab_sv σ k.toNat kd i = rf (k + δ) := by
  unfold ab_sv
  rw [ht]
  show Value.ref (k.toNat + δ) = Value.ref (k + δ).toNat
  have e : k.toNat + δ = (k + δ).toNat := by omega
  exact congrArg Value.ref e
theorem ab_tg_arr (i : Nat) : ab_tg 10 i = none := rfl
theorem ab_tg_bool (i : Nat) : ab_tg 11 i = none := rfl
theorem r_getI {Y : ab_Y} {d : Nat} {σ : ab_S} {pc : Nat} {ls : List (Option Value)} {st : List Value} {Q : ab_S → Option Value → Prop} {ci j idx N : Nat} {a jz : Int} (hf : ab_fl Y.1.cls idx ci j) (hd : decode Y.2.1 pc = .ok (.getfield idx, 3)) (kk : R2 Y d σ (pc + 3) ls (iv (σ a jz) :: st) Q) (hk : kd_ a ci N := by assumption) (hj : j < N := by decide) (ht : ab_tg ci j = none := by rfl) (hz : (j : Int) = jz := by rfl) : R2 Y d σ pc ls (rf a :: st) Q := ab_getfield hf hd (ab_mk_get hk) (ab_sv_get hj) (by rw [ab_sv_int hk.1 ht, hz]; exact kk)
theorem r_getR {Y : ab_Y} {d : Nat} {σ : ab_S} {pc : Nat} {ls : List (Option Value)} {st : List Value} {Q : ab_S → Option Value → Prop} {ci j idx N δ : Nat} {a δz : Int} (hf : ab_fl Y.1.cls idx ci j) (hd : decode Y.2.1 pc = .ok (.getfield idx, 3)) (ht : ab_tg ci j = some δ) (hz : (δ : Int) = δz) (kk : R2 Y d σ (pc + 3) ls (rf (a + δz) :: st) Q) (hk : kd_ a ci N := by assumption) (hj : j < N := by decide) : R2 Y d σ pc ls (rf a :: st) Q := ab_getfield hf hd (ab_mk_get hk) (ab_sv_get hj) (by rw [ab_sv_ref hk.1 ht, hz]; exact kk)
theorem r_putI {Y : ab_Y} {d : Nat} {σ : ab_S} {pc : Nat} {ls : List (Option Value)} {st : List Value} {Q : ab_S → Option Value → Prop} {ci j idx N : Nat} {a jz x : Int} (hf : ab_fp Y.1.cls idx ci j false .int) (hd : decode Y.2.1 pc = .ok (.putfield idx, 3)) (kk : R2 Y d (up σ a jz x) (pc + 3) ls st Q) (hk : kd_ a ci N := by assumption) (hj : j < N := by decide) (ht : ab_tg ci j = none := by rfl) (hz : (j : Int) = jz := by rfl) : R2 Y d σ pc ls (iv x :: rf a :: st) Q := by
  refine ab_putfield hf hd (ab_mk_get hk) (by rw [List.length_map, List.length_range]; exact hj) (fun bs b => ⟨rfl, rfl⟩) ?_
  subst hz
  rw [ab_mk_up hk hj ht]
  exact kk
theorem r_putZ {Y : ab_Y} {d : Nat} {σ : ab_S} {pc : Nat} {ls : List (Option Value)} {st : List Value} {Q : ab_S → Option Value → Prop} {ci j idx N : Nat} {a jz x : Int} (hf : ab_fp Y.1.cls idx ci j false .boolean) (hd : decode Y.2.1 pc = .ok (.putfield idx, 3)) (hx : x = 0 ∨ x = 1) (kk : R2 Y d (up σ a jz x) (pc + 3) ls st Q) (hk : kd_ a ci N := by assumption) (hj : j < N := by decide) (ht : ab_tg ci j = none := by rfl) (hz : (j : Int) = jz := by rfl) : R2 Y d σ pc ls (iv x :: rf a :: st) Q := by
  refine ab_putfield hf hd (ab_mk_get hk) (by rw [List.length_map, List.length_range]; exact hj) (fun bs b => ?_) ?_
  · rcases hx with rfl | rfl
    · exact ⟨(by decide : narrow FieldType.boolean (iv 0) = iv 0), (by decide : fits FieldType.boolean (iv 0) = true)⟩
    · exact ⟨(by decide : narrow FieldType.boolean (iv 1) = iv 1), (by decide : fits FieldType.boolean (iv 1) = true)⟩
  · subst hz
    rw [ab_mk_up hk hj ht]
    exact kk
theorem r_iaload {Y : ab_Y} {d : Nat} {σ : ab_S} {pc : Nat} {ls : List (Option Value)} {st : List Value} {Q : ab_S → Option Value → Prop} {N : Nat} {a x : Int} (hd : decode Y.2.1 pc = .ok (.iaload, 1)) (kk : R2 Y d σ (pc + 1) ls (iv (σ a x) :: st) Q) (hk : kd_ a 10 N := by assumption) (h1 : 0 ≤ x := by omega) (h2 : x < (N : Int) := by omega) : R2 Y d σ pc ls (iv x :: rf a :: st) Q := by
  have hs := ab_small hk
  have hi : x.toNat < N := by omega
  refine ab_iaload hd (ab_mk_get hk) (i := x.toNat) (by rw [List.length_map, List.length_range]; exact iv_ix h1 h2 (by omega)) (ab_sv_get hi) ?_
  rw [ab_sv_int hk.1 (ab_tg_arr _), show ((x.toNat : Nat) : Int) = x by omega]
  exact kk
theorem r_baload {Y : ab_Y} {d : Nat} {σ : ab_S} {pc : Nat} {ls : List (Option Value)} {st : List Value} {Q : ab_S → Option Value → Prop} {N : Nat} {a x : Int} (hd : decode Y.2.1 pc = .ok (.baload, 1)) (kk : R2 Y d σ (pc + 1) ls (iv (σ a x) :: st) Q) (hk : kd_ a 11 N := by assumption) (h1 : 0 ≤ x := by omega) (h2 : x < (N : Int) := by omega) : R2 Y d σ pc ls (iv x :: rf a :: st) Q := by
  have hs := ab_small hk
  have hi : x.toNat < N := by omega
  refine ab_baload hd (ab_mk_get hk) (i := x.toNat) (by rw [List.length_map, List.length_range]; exact iv_ix h1 h2 (by omega)) (ab_sv_get hi) ?_
  rw [ab_sv_int hk.1 (ab_tg_bool _), show ((x.toNat : Nat) : Int) = x by omega]
  exact kk
theorem r_iastore {Y : ab_Y} {d : Nat} {σ : ab_S} {pc : Nat} {ls : List (Option Value)} {st : List Value} {Q : ab_S → Option Value → Prop} {N : Nat} {a x y : Int} (hd : decode Y.2.1 pc = .ok (.iastore, 1)) (kk : R2 Y d (up σ a x y) (pc + 1) ls st Q) (hk : kd_ a 10 N := by assumption) (h1 : 0 ≤ x := by omega) (h2 : x < (N : Int) := by omega) : R2 Y d σ pc ls (iv y :: iv x :: rf a :: st) Q := by
  have hs := ab_small hk
  have hi : x.toNat < N := by omega
  refine ab_iastore hd (ab_mk_get hk) (i := x.toNat) (by rw [List.length_map, List.length_range]; exact iv_ix h1 h2 (by omega)) ?_
  have e := ab_mk_up (σ := σ) (x := y) hk hi (ab_tg_arr _)
  rw [show ((x.toNat : Nat) : Int) = x by omega] at e
  have e2 : (ab_mk σ).set a.toNat (10, ((List.range N).map (fun i => ab_sv σ a.toNat 10 i)).set x.toNat (.int (Int32.ofInt y))) = ab_mk (up σ a x y) := e
  rw [e2]
  exact kk
theorem r_bastore {Y : ab_Y} {d : Nat} {σ : ab_S} {pc : Nat} {ls : List (Option Value)} {st : List Value} {Q : ab_S → Option Value → Prop} {N : Nat} {a x y : Int} (hd : decode Y.2.1 pc = .ok (.bastore, 1)) (hy : y = 0 ∨ y = 1) (kk : R2 Y d (up σ a x y) (pc + 1) ls st Q) (hk : kd_ a 11 N := by assumption) (h1 : 0 ≤ x := by omega) (h2 : x < (N : Int) := by omega) : R2 Y d σ pc ls (iv y :: iv x :: rf a :: st) Q := by
  have hs := ab_small hk
  have hi : x.toNat < N := by omega
  refine ab_bastore hd (ab_mk_get hk) (i := x.toNat) (by rw [List.length_map, List.length_range]; exact iv_ix h1 h2 (by omega)) (by rcases hy with rfl | rfl <;> decide) ?_
  have e := ab_mk_up (σ := σ) (x := y) hk hi (ab_tg_bool _)
  rw [show ((x.toNat : Nat) : Int) = x by omega] at e
  have e2 : (ab_mk σ).set a.toNat (11, ((List.range N).map (fun i => ab_sv σ a.toNat 11 i)).set x.toNat (.int (Int32.ofInt y))) = ab_mk (up σ a x y) := e
  rw [e2]
  exact kk
theorem r_aaload {Y : ab_Y} {d : Nat} {σ : ab_S} {pc : Nat} {ls : List (Option Value)} {st : List Value} {Q : ab_S → Option Value → Prop} {N kd δ s : Nat} {a x δz sz : Int} (hd : decode Y.2.1 pc = .ok (.aaload, 1)) (ht : ∀ i, ab_tg kd i = some (δ + s * i)) (hz : (δ : Int) = δz) (hsz : (s : Int) = sz) (kk : R2 Y d σ (pc + 1) ls (rf (a + (δz + sz * x)) :: st) Q) (hk : kd_ a kd N := by assumption) (h12 : 12 ≤ kd := by decide) (h16 : kd < 16 := by decide) (h1 : 0 ≤ x := by omega) (h2 : x < (N : Int) := by omega) : R2 Y d σ pc ls (iv x :: rf a :: st) Q := by
  have hs := ab_small hk
  have hi : x.toNat < N := by omega
  refine ab_aaload hd (ab_mk_get hk) h12 h16 (i := x.toNat) (by rw [List.length_map, List.length_range]; exact iv_ix h1 h2 (by omega)) (ab_sv_get hi) ?_
  rw [ab_sv_ref hk.1 (ht x.toNat)]
  have e : ((δ + s * x.toNat : Nat) : Int) = δz + sz * x := by
    rw [← hz, ← hsz]
    push_cast
    rw [show ((x.toNat : Nat) : Int) = x by omega]
  rw [e]
  exact kk
theorem tg_12 : ∀ i, ab_tg 12 i = some (2 + 4 * i) := fun _ => rfl
theorem tg_13 : ∀ i, ab_tg 13 i = some (1 + 30 * i) := fun _ => rfl
theorem tg_14 : ∀ i, ab_tg 14 i = some (1 + 23 * i) := fun _ => rfl
theorem tg_15 : ∀ i, ab_tg 15 i = some (1 + 1 * i) := fun i => congrArg (fun z => some (1 + z)) (Nat.one_mul i).symm
theorem r_alen {Y : ab_Y} {d : Nat} {σ : ab_S} {pc : Nat} {ls : List (Option Value)} {st : List Value} {Q : ab_S → Option Value → Prop} {N kd : Nat} {a Nz : Int} (hd : decode Y.2.1 pc = .ok (.arraylength, 1)) (hN : (N : Int) = Nz) (kk : R2 Y d σ (pc + 1) ls (iv Nz :: st) Q) (hk : kd_ a kd N := by assumption) (h10 : 10 ≤ kd := by decide) (h16 : kd < 16 := by decide) : R2 Y d σ pc ls (rf a :: st) Q := by
  refine ab_alen hd (ab_mk_get hk) h10 h16 ?_
  rw [List.length_map, List.length_range]
  subst hN
  exact kk
theorem r_slen {Y : ab_Y} {d : Nat} {σ : ab_S} {pc : Nat} {ls : List (Option Value)} {st : List Value} {Q : ab_S → Option Value → Prop} (hd : decode Y.2.1 pc = .ok (.arraylength, 1)) (h0 : 0 ≤ σ (-1) 0) (kk : R2 Y d σ (pc + 1) ls (iv (σ (-1) 0) :: st) Q) : R2 Y d σ pc ls (rf 0 :: st) Q := by
  refine ab_slen (vs := (ab_scr σ).2) hd rfl ?_
  unfold ab_scr
  rw [List.length_map, List.length_range]
  have e : Int32.ofNat (σ (-1) 0).toNat = Int32.ofInt (σ (-1) 0) := by
    rw [← Int32.ofInt_eq_ofNat, show (((σ (-1) 0).toNat : Nat) : Int) = σ (-1) 0 by omega]
  rw [e]
  exact kk
theorem r_sload {Y : ab_Y} {d : Nat} {σ : ab_S} {pc : Nat} {ls : List (Option Value)} {st : List Value} {Q : ab_S → Option Value → Prop} {x : Int} (hd : decode Y.2.1 pc = .ok (.iaload, 1)) (kk : R2 Y d σ (pc + 1) ls (iv (σ 0 x) :: st) Q) (h1 : 0 ≤ x := by omega) (h2 : x < σ (-1) 0 := by omega) (h3 : σ (-1) 0 < 2147483648 := by omega) : R2 Y d σ pc ls (iv x :: rf 0 :: st) Q := by
  refine ab_sload (vs := (ab_scr σ).2) (i := x.toNat) (y := Int32.ofInt (σ 0 x)) hd rfl ?_ ?_ kk
  · unfold ab_scr
    rw [List.length_map, List.length_range]
    exact iv_ix h1 (by omega) (by omega)
  · unfold ab_scr
    rw [List.getElem?_map, List.getElem?_range (by omega)]
    show some (iv (σ 0 ((x.toNat : Nat) : Int))) = _
    rw [show ((x.toNat : Nat) : Int) = x by omega]
    rfl
/-- a stretch of an int array copied into another -/
def cpy (σ : ab_S) (a0 sp a dp m : Int) : ab_S := fun k i => if k = a ∧ dp ≤ i ∧ i < dp + m then σ a0 (sp + (i - dp)) else σ k i
theorem ab_row_ints {σ : ab_S} {k n : Nat} : ab_ints ((List.range n).map (fun i => ab_sv σ k 10 i)) := by
  intro v hv
  obtain ⟨i, -, rfl⟩ := List.mem_map.mp hv
  exact ⟨_, rfl⟩
theorem ab_mk_cpy {σ : ab_S} {a0 a sp dp m : Int} {N0 N : Nat} (h0 : kd_ a0 10 N0) (h : kd_ a 10 N) (h1 : 0 ≤ sp) (h2 : 0 ≤ dp) (h3 : 0 ≤ m) (h4 : sp + m ≤ N0) (h5 : dp + m ≤ N) : (ab_mk σ).set a.toNat (10, ab_cpy ((List.range N0).map (fun i => ab_sv σ a0.toNat 10 i)) ((List.range N).map (fun i => ab_sv σ a.toNat 10 i)) sp.toNat dp.toNat m.toNat) = ab_mk (cpy σ a0 sp a dp m) := by
  have hk1 : a.toNat - 1 < ab_shp.length := (List.getElem?_eq_some_iff.mp h.2).1
  have hp := h.1
  apply List.ext_getElem?
  intro j
  rw [List.getElem?_set]
  by_cases e : a.toNat = j
  · subst e
    rw [if_pos rfl, if_pos (by rw [ab_mk_len]; omega), ab_mk_get h]
    refine congrArg some (congrArg (Prod.mk 10) ?_)
    unfold ab_cpy
    rw [List.length_map, List.length_range]
    apply List.map_congr_left
    intro q hq
    have hqN := List.mem_range.mp hq
    rw [ab_sv_int hp (ab_tg_arr _)]
    unfold cpy
    by_cases c : dp.toNat ≤ q ∧ q < dp.toNat + m.toNat
    · rw [if_pos c, if_pos (by omega), ab_getD (ab_sv_get (by omega)), ab_sv_int h0.1 (ab_tg_arr _)]
      congr 2
      omega
    · rw [if_neg c, if_neg (by omega), ab_getD (ab_sv_get hqN), ab_sv_int hp (ab_tg_arr _)]
  · rw [if_neg e]
    unfold ab_mk
    cases j with
    | zero =>
      show some (ab_scr σ) = some (ab_scr (cpy σ a0 sp a dp m))
      have e1 : cpy σ a0 sp a dp m (-1) 0 = σ (-1) 0 := if_neg (by omega)
      unfold ab_scr
      rw [e1]
      refine congrArg some (congrArg (Prod.mk 16) ?_)
      apply List.map_congr_left
      intro q hq
      have e2 : cpy σ a0 sp a dp m 0 q = σ 0 q := if_neg (by omega)
      rw [e2]
    | succ j =>
      rw [List.getElem?_cons_succ, List.getElem?_cons_succ, List.getElem?_mapIdx, List.getElem?_mapIdx]
      cases ab_shp[j]? with
      | none => rfl
      | some q =>
        show some (ab_cel σ (j + 1) q) = some (ab_cel (cpy σ a0 sp a dp m) (j + 1) q)
        unfold ab_cel
        refine congrArg some (congrArg (Prod.mk q.1) ?_)
        apply List.map_congr_left
        intro z hz
        unfold ab_sv
        cases ab_tg q.1 z with
        | some δ => rfl
        | none =>
          have e2 : cpy σ a0 sp a dp m ((j + 1 : Nat) : Int) z = σ ((j + 1 : Nat) : Int) z := if_neg (by omega)
          show iv (σ ((j + 1 : Nat) : Int) z) = iv (cpy σ a0 sp a dp m ((j + 1 : Nat) : Int) z)
          rw [e2]
theorem iv_nneg {x : Int} (h1 : 0 ≤ x) (h2 : x ≤ 2147483647) : ¬ Int32.ofInt x < 0 := by
  have : ¬ Int32.ofInt x < Int32.ofInt 0 := by
    rw [iv_inj_lt (by omega) (by omega) (by omega) (by omega)]
    omega
  exact this
theorem iv_clamp {x : Int} (h1 : 0 ≤ x) (h2 : x ≤ 2147483647) : (Int32.ofInt x).toNatClampNeg = x.toNat := by
  show (Int32.ofInt x).toInt.toNat = x.toNat
  rw [iv_toInt (by omega) (by omega)]
theorem r_copy {Y : ab_Y} {d : Nat} {σ : ab_S} {pc : Nat} {ls : List (Option Value)} {st : List Value} {Q : ab_S → Option Value → Prop} {idx N0 N : Nat} {a0 a sp dp m : Int} (w1 : Cond.methodLink Y.1.cls idx arraycopyName ∈ ab_gw) (hd : decode Y.2.1 pc = .ok (.invokestatic idx, 3)) (hk0 : kd_ a0 10 N0) (hk : kd_ a 10 N) (kk : R2 Y d (cpy σ a0 sp a dp m) (pc + 3) ls st Q) (h1 : 0 ≤ sp := by omega) (h2 : 0 ≤ dp := by omega) (h3 : 0 ≤ m := by omega) (h4 : sp + m ≤ N0 := by omega) (h5 : dp + m ≤ N := by omega) (hdd : 1 ≤ d := by decide) (hst : (st.map fun v => v.category).sum ≤ 8 := by decide) : R2 Y d σ pc ls (iv m :: iv dp :: rf a :: iv sp :: rf a0 :: st) Q := by
  have hs := ab_small hk
  have hs0 := ab_small hk0
  refine ab_arraycopy w1 w_native w_acstat w_sysini hd (ab_mk_get hk0) (ab_mk_get hk) ab_row_ints ab_row_ints (iv_nneg h1 (by omega)) (iv_nneg h2 (by omega)) (iv_nneg h3 (by omega)) (iv_clamp h1 (by omega)) (iv_clamp h2 (by omega)) (iv_clamp h3 (by omega)) (by rw [List.length_map, List.length_range]; omega) (by rw [List.length_map, List.length_range]; omega) hdd hst ?_
  rw [ab_mk_cpy hk0 hk h1 h2 h3 h4 h5]
  exact kk
theorem r_iV0I {Y : ab_Y} {d : Nat} {σ : ab_S} {pc : Nat} {ls : List (Option Value)} {st : List Value} {Q : ab_S → Option Value → Prop} {Y2 : ab_Y} {d2 idx ci N : Nat} {a : Int}  {Q2 : ab_S → Int → Prop} (hw : ab_mv Y.1.cls idx Y2 0) (hd : decode Y.2.1 pc = .ok (.invokevirtual idx, 3)) (hCall : C2 Y2 d2 σ (rf a :: []) (PI Q2)) (hk : kd_ a ci N) (kk : ∀ σ' z, Q2 σ' z → R2 Y d σ' (pc + 3) ls (iv z :: st) Q) (hqc : (vwCl[ci]?).map (fun q => q.1) = some Y2.1.cls := by rfl) (hdd : d2 + 1 ≤ d := by decide) (hst : (st.map fun v => v.category).sum ≤ 8 := by decide) : R2 Y d σ pc ls (rf a :: st) Q := by
  obtain ⟨q, hq, hqe⟩ := Option.map_eq_some_iff.mp hqc
  exact ab_invV (k := 0) (n := 0) (k2 := 0) (n2 := 0) (As := []) hw hd (ab_mk_get hk) hq hqe rfl hst hdd hCall (fun M' r ⟨σ', e, z, er, hq⟩ => by subst e; subst er; exact kk σ' z hq)
theorem r_iS0I {Y : ab_Y} {d : Nat} {σ : ab_S} {pc : Nat} {ls : List (Option Value)} {st : List Value} {Q : ab_S → Option Value → Prop} {Y2 : ab_Y} {d2 idx : Nat}  {Q2 : ab_S → Int → Prop} (hw : ab_ms Y.1.cls idx Y2 0) (hd : decode Y.2.1 pc = .ok (.invokestatic idx, 3)) (hCall : C2 Y2 d2 σ [] (PI Q2)) (kk : ∀ σ' z, Q2 σ' z → R2 Y d σ' (pc + 3) ls (iv z :: st) Q) (hdd : d2 + 1 ≤ d := by decide) (hst : (st.map fun v => v.category).sum ≤ 8 := by decide) : R2 Y d σ pc ls (st) Q :=
  ab_invS (k := 0) (n := 0) (k2 := 0) (n2 := 0) (As := []) hw hd rfl hst hdd hCall (fun M' r ⟨σ', e, z, er, hq⟩ => by subst e; subst er; exact kk σ' z hq)
theorem r_iN0I {Y : ab_Y} {d : Nat} {σ : ab_S} {pc : Nat} {ls : List (Option Value)} {st : List Value} {Q : ab_S → Option Value → Prop} {Y2 : ab_Y} {d2 idx : Nat} {host : String}  {Q2 : ab_S → Int → Prop} (hw : ab_msn Y.1.cls idx Y2 0 host) (hd : decode Y.2.1 pc = .ok (.invokestatic idx, 3)) (hCall : C2 Y2 d2 σ [] (PI Q2)) (kk : ∀ σ' z, Q2 σ' z → R2 Y d σ' (pc + 3) ls (iv z :: st) Q) (hdd : d2 + 1 ≤ d := by decide) (hst : (st.map fun v => v.category).sum ≤ 8 := by decide) : R2 Y d σ pc ls (st) Q :=
  ab_invSN (k := 0) (n := 0) (k2 := 0) (n2 := 0) (As := []) hw hd rfl hst hdd hCall (fun M' r ⟨σ', e, z, er, hq⟩ => by subst e; subst er; exact kk σ' z hq)
theorem r_iV0V {Y : ab_Y} {d : Nat} {σ : ab_S} {pc : Nat} {ls : List (Option Value)} {st : List Value} {Q : ab_S → Option Value → Prop} {Y2 : ab_Y} {d2 idx ci N : Nat} {a : Int}  {Q2 : ab_S → Prop} (hw : ab_mv Y.1.cls idx Y2 0) (hd : decode Y.2.1 pc = .ok (.invokevirtual idx, 3)) (hCall : C2 Y2 d2 σ (rf a :: []) (PV Q2)) (hk : kd_ a ci N) (kk : ∀ σ', Q2 σ' → R2 Y d σ' (pc + 3) ls st Q) (hqc : (vwCl[ci]?).map (fun q => q.1) = some Y2.1.cls := by rfl) (hdd : d2 + 1 ≤ d := by decide) (hst : (st.map fun v => v.category).sum ≤ 8 := by decide) : R2 Y d σ pc ls (rf a :: st) Q := by
  obtain ⟨q, hq, hqe⟩ := Option.map_eq_some_iff.mp hqc
  exact ab_invV (k := 0) (n := 0) (k2 := 0) (n2 := 0) (As := []) hw hd (ab_mk_get hk) hq hqe rfl hst hdd hCall (fun M' r ⟨σ', e, er, hq⟩ => by subst e; subst er; exact kk σ' hq)
theorem r_iS0V {Y : ab_Y} {d : Nat} {σ : ab_S} {pc : Nat} {ls : List (Option Value)} {st : List Value} {Q : ab_S → Option Value → Prop} {Y2 : ab_Y} {d2 idx : Nat}  {Q2 : ab_S → Prop} (hw : ab_ms Y.1.cls idx Y2 0) (hd : decode Y.2.1 pc = .ok (.invokestatic idx, 3)) (hCall : C2 Y2 d2 σ [] (PV Q2)) (kk : ∀ σ', Q2 σ' → R2 Y d σ' (pc + 3) ls st Q) (hdd : d2 + 1 ≤ d := by decide) (hst : (st.map fun v => v.category).sum ≤ 8 := by decide) : R2 Y d σ pc ls (st) Q :=
  ab_invS (k := 0) (n := 0) (k2 := 0) (n2 := 0) (As := []) hw hd rfl hst hdd hCall (fun M' r ⟨σ', e, er, hq⟩ => by subst e; subst er; exact kk σ' hq)
theorem r_iN0V {Y : ab_Y} {d : Nat} {σ : ab_S} {pc : Nat} {ls : List (Option Value)} {st : List Value} {Q : ab_S → Option Value → Prop} {Y2 : ab_Y} {d2 idx : Nat} {host : String}  {Q2 : ab_S → Prop} (hw : ab_msn Y.1.cls idx Y2 0 host) (hd : decode Y.2.1 pc = .ok (.invokestatic idx, 3)) (hCall : C2 Y2 d2 σ [] (PV Q2)) (kk : ∀ σ', Q2 σ' → R2 Y d σ' (pc + 3) ls st Q) (hdd : d2 + 1 ≤ d := by decide) (hst : (st.map fun v => v.category).sum ≤ 8 := by decide) : R2 Y d σ pc ls (st) Q :=
  ab_invSN (k := 0) (n := 0) (k2 := 0) (n2 := 0) (As := []) hw hd rfl hst hdd hCall (fun M' r ⟨σ', e, er, hq⟩ => by subst e; subst er; exact kk σ' hq)
theorem r_iV0L {Y : ab_Y} {d : Nat} {σ : ab_S} {pc : Nat} {ls : List (Option Value)} {st : List Value} {Q : ab_S → Option Value → Prop} {Y2 : ab_Y} {d2 idx ci N : Nat} {a : Int}  {Q2 : ab_S → Int → Prop} (hw : ab_mv Y.1.cls idx Y2 0) (hd : decode Y.2.1 pc = .ok (.invokevirtual idx, 3)) (hCall : C2 Y2 d2 σ (rf a :: []) (PL Q2)) (hk : kd_ a ci N) (kk : ∀ σ' z, Q2 σ' z → R2 Y d σ' (pc + 3) ls (lgv z :: st) Q) (hqc : (vwCl[ci]?).map (fun q => q.1) = some Y2.1.cls := by rfl) (hdd : d2 + 1 ≤ d := by decide) (hst : (st.map fun v => v.category).sum ≤ 8 := by decide) : R2 Y d σ pc ls (rf a :: st) Q := by
  obtain ⟨q, hq, hqe⟩ := Option.map_eq_some_iff.mp hqc
  exact ab_invV (k := 0) (n := 0) (k2 := 0) (n2 := 0) (As := []) hw hd (ab_mk_get hk) hq hqe rfl hst hdd hCall (fun M' r ⟨σ', e, z, er, hq⟩ => by subst e; subst er; exact kk σ' z hq)
theorem r_iS0L {Y : ab_Y} {d : Nat} {σ : ab_S} {pc : Nat} {ls : List (Option Value)} {st : List Value} {Q : ab_S → Option Value → Prop} {Y2 : ab_Y} {d2 idx : Nat}  {Q2 : ab_S → Int → Prop} (hw : ab_ms Y.1.cls idx Y2 0) (hd : decode Y.2.1 pc = .ok (.invokestatic idx, 3)) (hCall : C2 Y2 d2 σ [] (PL Q2)) (kk : ∀ σ' z, Q2 σ' z → R2 Y d σ' (pc + 3) ls (lgv z :: st) Q) (hdd : d2 + 1 ≤ d := by decide) (hst : (st.map fun v => v.category).sum ≤ 8 := by decide) : R2 Y d σ pc ls (st) Q :=
  ab_invS (k := 0) (n := 0) (k2 := 0) (n2 := 0) (As := []) hw hd rfl hst hdd hCall (fun M' r ⟨σ', e, z, er, hq⟩ => by subst e; subst er; exact kk σ' z hq)
theorem r_iN0L {Y : ab_Y} {d : Nat} {σ : ab_S} {pc : Nat} {ls : List (Option Value)} {st : List Value} {Q : ab_S → Option Value → Prop} {Y2 : ab_Y} {d2 idx : Nat} {host : String}  {Q2 : ab_S → Int → Prop} (hw : ab_msn Y.1.cls idx Y2 0 host) (hd : decode Y.2.1 pc = .ok (.invokestatic idx, 3)) (hCall : C2 Y2 d2 σ [] (PL Q2)) (kk : ∀ σ' z, Q2 σ' z → R2 Y d σ' (pc + 3) ls (lgv z :: st) Q) (hdd : d2 + 1 ≤ d := by decide) (hst : (st.map fun v => v.category).sum ≤ 8 := by decide) : R2 Y d σ pc ls (st) Q :=
  ab_invSN (k := 0) (n := 0) (k2 := 0) (n2 := 0) (As := []) hw hd rfl hst hdd hCall (fun M' r ⟨σ', e, z, er, hq⟩ => by subst e; subst er; exact kk σ' z hq)
theorem r_iV1I {Y : ab_Y} {d : Nat} {σ : ab_S} {pc : Nat} {ls : List (Option Value)} {st : List Value} {Q : ab_S → Option Value → Prop} {Y2 : ab_Y} {d2 idx ci N : Nat} {a : Int} {v1 : Value} {Q2 : ab_S → Int → Prop} (hw : ab_mv Y.1.cls idx Y2 1) (hd : decode Y.2.1 pc = .ok (.invokevirtual idx, 3)) (hCall : C2 Y2 d2 σ (rf a :: [v1]) (PI Q2)) (hk : kd_ a ci N) (kk : ∀ σ' z, Q2 σ' z → R2 Y d σ' (pc + 3) ls (iv z :: st) Q) (hqc : (vwCl[ci]?).map (fun q => q.1) = some Y2.1.cls := by rfl) (hdd : d2 + 1 ≤ d := by decide) (hst : (st.map fun v => v.category).sum ≤ 8 := by decide) : R2 Y d σ pc ls (v1 :: rf a :: st) Q := by
  obtain ⟨q, hq, hqe⟩ := Option.map_eq_some_iff.mp hqc
  exact ab_invV (k := 0) (n := 0) (k2 := 0) (n2 := 0) (As := [v1]) hw hd (ab_mk_get hk) hq hqe rfl hst hdd hCall (fun M' r ⟨σ', e, z, er, hq⟩ => by subst e; subst er; exact kk σ' z hq)
theorem r_iS1I {Y : ab_Y} {d : Nat} {σ : ab_S} {pc : Nat} {ls : List (Option Value)} {st : List Value} {Q : ab_S → Option Value → Prop} {Y2 : ab_Y} {d2 idx : Nat} {v1 : Value} {Q2 : ab_S → Int → Prop} (hw : ab_ms Y.1.cls idx Y2 1) (hd : decode Y.2.1 pc = .ok (.invokestatic idx, 3)) (hCall : C2 Y2 d2 σ [v1] (PI Q2)) (kk : ∀ σ' z, Q2 σ' z → R2 Y d σ' (pc + 3) ls (iv z :: st) Q) (hdd : d2 + 1 ≤ d := by decide) (hst : (st.map fun v => v.category).sum ≤ 8 := by decide) : R2 Y d σ pc ls (v1 :: st) Q :=
  ab_invS (k := 0) (n := 0) (k2 := 0) (n2 := 0) (As := [v1]) hw hd rfl hst hdd hCall (fun M' r ⟨σ', e, z, er, hq⟩ => by subst e; subst er; exact kk σ' z hq)
theorem r_iN1I {Y : ab_Y} {d : Nat} {σ : ab_S} {pc : Nat} {ls : List (Option Value)} {st : List Value} {Q : ab_S → Option Value → Prop} {Y2 : ab_Y} {d2 idx : Nat} {host : String} {v1 : Value} {Q2 : ab_S → Int → Prop} (hw : ab_msn Y.1.cls idx Y2 1 host) (hd : decode Y.2.1 pc = .ok (.invokestatic idx, 3)) (hCall : C2 Y2 d2 σ [v1] (PI Q2)) (kk : ∀ σ' z, Q2 σ' z → R2 Y d σ' (pc + 3) ls (iv z :: st) Q) (hdd : d2 + 1 ≤ d := by decide) (hst : (st.map fun v => v.category).sum ≤ 8 := by decide) : R2 Y d σ pc ls (v1 :: st) Q :=
  ab_invSN (k := 0) (n := 0) (k2 := 0) (n2 := 0) (As := [v1]) hw hd rfl hst hdd hCall (fun M' r ⟨σ', e, z, er, hq⟩ => by subst e; subst er; exact kk σ' z hq)
theorem r_iV1V {Y : ab_Y} {d : Nat} {σ : ab_S} {pc : Nat} {ls : List (Option Value)} {st : List Value} {Q : ab_S → Option Value → Prop} {Y2 : ab_Y} {d2 idx ci N : Nat} {a : Int} {v1 : Value} {Q2 : ab_S → Prop} (hw : ab_mv Y.1.cls idx Y2 1) (hd : decode Y.2.1 pc = .ok (.invokevirtual idx, 3)) (hCall : C2 Y2 d2 σ (rf a :: [v1]) (PV Q2)) (hk : kd_ a ci N) (kk : ∀ σ', Q2 σ' → R2 Y d σ' (pc + 3) ls st Q) (hqc : (vwCl[ci]?).map (fun q => q.1) = some Y2.1.cls := by rfl) (hdd : d2 + 1 ≤ d := by decide) (hst : (st.map fun v => v.category).sum ≤ 8 := by decide) : R2 Y d σ pc ls (v1 :: rf a :: st) Q := by
  obtain ⟨q, hq, hqe⟩ := Option.map_eq_some_iff.mp hqc
  exact ab_invV (k := 0) (n := 0) (k2 := 0) (n2 := 0) (As := [v1]) hw hd (ab_mk_get hk) hq hqe rfl hst hdd hCall (fun M' r ⟨σ', e, er, hq⟩ => by subst e; subst er; exact kk σ' hq)
theorem r_iS1V {Y : ab_Y} {d : Nat} {σ : ab_S} {pc : Nat} {ls : List (Option Value)} {st : List Value} {Q : ab_S → Option Value → Prop} {Y2 : ab_Y} {d2 idx : Nat} {v1 : Value} {Q2 : ab_S → Prop} (hw : ab_ms Y.1.cls idx Y2 1) (hd : decode Y.2.1 pc = .ok (.invokestatic idx, 3)) (hCall : C2 Y2 d2 σ [v1] (PV Q2)) (kk : ∀ σ', Q2 σ' → R2 Y d σ' (pc + 3) ls st Q) (hdd : d2 + 1 ≤ d := by decide) (hst : (st.map fun v => v.category).sum ≤ 8 := by decide) : R2 Y d σ pc ls (v1 :: st) Q :=
  ab_invS (k := 0) (n := 0) (k2 := 0) (n2 := 0) (As := [v1]) hw hd rfl hst hdd hCall (fun M' r ⟨σ', e, er, hq⟩ => by subst e; subst er; exact kk σ' hq)
theorem r_iN1V {Y : ab_Y} {d : Nat} {σ : ab_S} {pc : Nat} {ls : List (Option Value)} {st : List Value} {Q : ab_S → Option Value → Prop} {Y2 : ab_Y} {d2 idx : Nat} {host : String} {v1 : Value} {Q2 : ab_S → Prop} (hw : ab_msn Y.1.cls idx Y2 1 host) (hd : decode Y.2.1 pc = .ok (.invokestatic idx, 3)) (hCall : C2 Y2 d2 σ [v1] (PV Q2)) (kk : ∀ σ', Q2 σ' → R2 Y d σ' (pc + 3) ls st Q) (hdd : d2 + 1 ≤ d := by decide) (hst : (st.map fun v => v.category).sum ≤ 8 := by decide) : R2 Y d σ pc ls (v1 :: st) Q :=
  ab_invSN (k := 0) (n := 0) (k2 := 0) (n2 := 0) (As := [v1]) hw hd rfl hst hdd hCall (fun M' r ⟨σ', e, er, hq⟩ => by subst e; subst er; exact kk σ' hq)
theorem r_iV1L {Y : ab_Y} {d : Nat} {σ : ab_S} {pc : Nat} {ls : List (Option Value)} {st : List Value} {Q : ab_S → Option Value → Prop} {Y2 : ab_Y} {d2 idx ci N : Nat} {a : Int} {v1 : Value} {Q2 : ab_S → Int → Prop} (hw : ab_mv Y.1.cls idx Y2 1) (hd : decode Y.2.1 pc = .ok (.invokevirtual idx, 3)) (hCall : C2 Y2 d2 σ (rf a :: [v1]) (PL Q2)) (hk : kd_ a ci N) (kk : ∀ σ' z, Q2 σ' z → R2 Y d σ' (pc + 3) ls (lgv z :: st) Q) (hqc : (vwCl[ci]?).map (fun q => q.1) = some Y2.1.cls := by rfl) (hdd : d2 + 1 ≤ d := by decide) (hst : (st.map fun v => v.category).sum ≤ 8 := by decide) : R2 Y d σ pc ls (v1 :: rf a :: st) Q := by
  obtain ⟨q, hq, hqe⟩ := Option.map_eq_some_iff.mp hqc
  exact ab_invV (k := 0) (n := 0) (k2 := 0) (n2 := 0) (As := [v1]) hw hd (ab_mk_get hk) hq hqe rfl hst hdd hCall (fun M' r ⟨σ', e, z, er, hq⟩ => by subst e; subst er; exact kk σ' z hq)
theorem r_iS1L {Y : ab_Y} {d : Nat} {σ : ab_S} {pc : Nat} {ls : List (Option Value)} {st : List Value} {Q : ab_S → Option Value → Prop} {Y2 : ab_Y} {d2 idx : Nat} {v1 : Value} {Q2 : ab_S → Int → Prop} (hw : ab_ms Y.1.cls idx Y2 1) (hd : decode Y.2.1 pc = .ok (.invokestatic idx, 3)) (hCall : C2 Y2 d2 σ [v1] (PL Q2)) (kk : ∀ σ' z, Q2 σ' z → R2 Y d σ' (pc + 3) ls (lgv z :: st) Q) (hdd : d2 + 1 ≤ d := by decide) (hst : (st.map fun v => v.category).sum ≤ 8 := by decide) : R2 Y d σ pc ls (v1 :: st) Q :=
  ab_invS (k := 0) (n := 0) (k2 := 0) (n2 := 0) (As := [v1]) hw hd rfl hst hdd hCall (fun M' r ⟨σ', e, z, er, hq⟩ => by subst e; subst er; exact kk σ' z hq)
theorem r_iN1L {Y : ab_Y} {d : Nat} {σ : ab_S} {pc : Nat} {ls : List (Option Value)} {st : List Value} {Q : ab_S → Option Value → Prop} {Y2 : ab_Y} {d2 idx : Nat} {host : String} {v1 : Value} {Q2 : ab_S → Int → Prop} (hw : ab_msn Y.1.cls idx Y2 1 host) (hd : decode Y.2.1 pc = .ok (.invokestatic idx, 3)) (hCall : C2 Y2 d2 σ [v1] (PL Q2)) (kk : ∀ σ' z, Q2 σ' z → R2 Y d σ' (pc + 3) ls (lgv z :: st) Q) (hdd : d2 + 1 ≤ d := by decide) (hst : (st.map fun v => v.category).sum ≤ 8 := by decide) : R2 Y d σ pc ls (v1 :: st) Q :=
  ab_invSN (k := 0) (n := 0) (k2 := 0) (n2 := 0) (As := [v1]) hw hd rfl hst hdd hCall (fun M' r ⟨σ', e, z, er, hq⟩ => by subst e; subst er; exact kk σ' z hq)
theorem r_iV2I {Y : ab_Y} {d : Nat} {σ : ab_S} {pc : Nat} {ls : List (Option Value)} {st : List Value} {Q : ab_S → Option Value → Prop} {Y2 : ab_Y} {d2 idx ci N : Nat} {a : Int} {v1 v2 : Value} {Q2 : ab_S → Int → Prop} (hw : ab_mv Y.1.cls idx Y2 2) (hd : decode Y.2.1 pc = .ok (.invokevirtual idx, 3)) (hCall : C2 Y2 d2 σ (rf a :: [v1, v2]) (PI Q2)) (hk : kd_ a ci N) (kk : ∀ σ' z, Q2 σ' z → R2 Y d σ' (pc + 3) ls (iv z :: st) Q) (hqc : (vwCl[ci]?).map (fun q => q.1) = some Y2.1.cls := by rfl) (hdd : d2 + 1 ≤ d := by decide) (hst : (st.map fun v => v.category).sum ≤ 8 := by decide) : R2 Y d σ pc ls (v2 :: v1 :: rf a :: st) Q := by
  obtain ⟨q, hq, hqe⟩ := Option.map_eq_some_iff.mp hqc
  exact ab_invV (k := 0) (n := 0) (k2 := 0) (n2 := 0) (As := [v1, v2]) hw hd (ab_mk_get hk) hq hqe rfl hst hdd hCall (fun M' r ⟨σ', e, z, er, hq⟩ => by subst e; subst er; exact kk σ' z hq)
theorem r_iS2I {Y : ab_Y} {d : Nat} {σ : ab_S} {pc : Nat} {ls : List (Option Value)} {st : List Value} {Q : ab_S → Option Value → Prop} {Y2 : ab_Y} {d2 idx : Nat} {v1 v2 : Value} {Q2 : ab_S → Int → Prop} (hw : ab_ms Y.1.cls idx Y2 2) (hd : decode Y.2.1 pc = .ok (.invokestatic idx, 3)) (hCall : C2 Y2 d2 σ [v1, v2] (PI Q2)) (kk : ∀ σ' z, Q2 σ' z → R2 Y d σ' (pc + 3) ls (iv z :: st) Q) (hdd : d2 + 1 ≤ d := by decide) (hst : (st.map fun v => v.category).sum ≤ 8 := by decide) : R2 Y d σ pc ls (v2 :: v1 :: st) Q :=
  ab_invS (k := 0) (n := 0) (k2 := 0) (n2 := 0) (As := [v1, v2]) hw hd rfl hst hdd hCall (fun M' r ⟨σ', e, z, er, hq⟩ => by subst e; subst er; exact kk σ' z hq)
theorem r_iN2I {Y : ab_Y} {d : Nat} {σ : ab_S} {pc : Nat} {ls : List (Option Value)} {st : List Value} {Q : ab_S → Option Value → Prop} {Y2 : ab_Y} {d2 idx : Nat} {host : String} {v1 v2 : Value} {Q2 : ab_S → Int → Prop} (hw : ab_msn Y.1.cls idx Y2 2 host) (hd : decode Y.2.1 pc = .ok (.invokestatic idx, 3)) (hCall : C2 Y2 d2 σ [v1, v2] (PI Q2)) (kk : ∀ σ' z, Q2 σ' z → R2 Y d σ' (pc + 3) ls (iv z :: st) Q) (hdd : d2 + 1 ≤ d := by decide) (hst : (st.map fun v => v.category).sum ≤ 8 := by decide) : R2 Y d σ pc ls (v2 :: v1 :: st) Q :=
  ab_invSN (k := 0) (n := 0) (k2 := 0) (n2 := 0) (As := [v1, v2]) hw hd rfl hst hdd hCall (fun M' r ⟨σ', e, z, er, hq⟩ => by subst e; subst er; exact kk σ' z hq)
theorem r_iV2V {Y : ab_Y} {d : Nat} {σ : ab_S} {pc : Nat} {ls : List (Option Value)} {st : List Value} {Q : ab_S → Option Value → Prop} {Y2 : ab_Y} {d2 idx ci N : Nat} {a : Int} {v1 v2 : Value} {Q2 : ab_S → Prop} (hw : ab_mv Y.1.cls idx Y2 2) (hd : decode Y.2.1 pc = .ok (.invokevirtual idx, 3)) (hCall : C2 Y2 d2 σ (rf a :: [v1, v2]) (PV Q2)) (hk : kd_ a ci N) (kk : ∀ σ', Q2 σ' → R2 Y d σ' (pc + 3) ls st Q) (hqc : (vwCl[ci]?).map (fun q => q.1) = some Y2.1.cls := by rfl) (hdd : d2 + 1 ≤ d := by decide) (hst : (st.map fun v => v.category).sum ≤ 8 := by decide) : R2 Y d σ pc ls (v2 :: v1 :: rf a :: st) Q := by
  obtain ⟨q, hq, hqe⟩ := Option.map_eq_some_iff.mp hqc
  exact ab_invV (k := 0) (n := 0) (k2 := 0) (n2 := 0) (As := [v1, v2]) hw hd (ab_mk_get hk) hq hqe rfl hst hdd hCall (fun M' r ⟨σ', e, er, hq⟩ => by subst e; subst er; exact kk σ' hq)
theorem r_iS2V {Y : ab_Y} {d : Nat} {σ : ab_S} {pc : Nat} {ls : List (Option Value)} {st : List Value} {Q : ab_S → Option Value → Prop} {Y2 : ab_Y} {d2 idx : Nat} {v1 v2 : Value} {Q2 : ab_S → Prop} (hw : ab_ms Y.1.cls idx Y2 2) (hd : decode Y.2.1 pc = .ok (.invokestatic idx, 3)) (hCall : C2 Y2 d2 σ [v1, v2] (PV Q2)) (kk : ∀ σ', Q2 σ' → R2 Y d σ' (pc + 3) ls st Q) (hdd : d2 + 1 ≤ d := by decide) (hst : (st.map fun v => v.category).sum ≤ 8 := by decide) : R2 Y d σ pc ls (v2 :: v1 :: st) Q :=
  ab_invS (k := 0) (n := 0) (k2 := 0) (n2 := 0) (As := [v1, v2]) hw hd rfl hst hdd hCall (fun M' r ⟨σ', e, er, hq⟩ => by subst e; subst er; exact kk σ' hq)
theorem r_iN2V {Y : ab_Y} {d : Nat} {σ : ab_S} {pc : Nat} {ls : List (Option Value)} {st : List Value} {Q : ab_S → Option Value → Prop} {Y2 : ab_Y} {d2 idx : Nat} {host : String} {v1 v2 : Value} {Q2 : ab_S → Prop} (hw : ab_msn Y.1.cls idx Y2 2 host) (hd : decode Y.2.1 pc = .ok (.invokestatic idx, 3)) (hCall : C2 Y2 d2 σ [v1, v2] (PV Q2)) (kk : ∀ σ', Q2 σ' → R2 Y d σ' (pc + 3) ls st Q) (hdd : d2 + 1 ≤ d := by decide) (hst : (st.map fun v => v.category).sum ≤ 8 := by decide) : R2 Y d σ pc ls (v2 :: v1 :: st) Q :=
  ab_invSN (k := 0) (n := 0) (k2 := 0) (n2 := 0) (As := [v1, v2]) hw hd rfl hst hdd hCall (fun M' r ⟨σ', e, er, hq⟩ => by subst e; subst er; exact kk σ' hq)
theorem r_iV2L {Y : ab_Y} {d : Nat} {σ : ab_S} {pc : Nat} {ls : List (Option Value)} {st : List Value} {Q : ab_S → Option Value → Prop} {Y2 : ab_Y} {d2 idx ci N : Nat} {a : Int} {v1 v2 : Value} {Q2 : ab_S → Int → Prop} (hw : ab_mv Y.1.cls idx Y2 2) (hd : decode Y.2.1 pc = .ok (.invokevirtual idx, 3)) (hCall : C2 Y2 d2 σ (rf a :: [v1, v2]) (PL Q2)) (hk : kd_ a ci N) (kk : ∀ σ' z, Q2 σ' z → R2 Y d σ' (pc + 3) ls (lgv z :: st) Q) (hqc : (vwCl[ci]?).map (fun q => q.1) = some Y2.1.cls := by rfl) (hdd : d2 + 1 ≤ d := by decide) (hst : (st.map fun v => v.category).sum ≤ 8 := by decide) : R2 Y d σ pc ls (v2 :: v1 :: rf a :: st) Q := by
  obtain ⟨q, hq, hqe⟩ := Option.map_eq_some_iff.mp hqc
  exact ab_invV (k := 0) (n := 0) (k2 := 0) (n2 := 0) (As := [v1, v2]) hw hd (ab_mk_get hk) hq hqe rfl hst hdd hCall (fun M' r ⟨σ', e, z, er, hq⟩ => by subst e; subst er; exact kk σ' z hq)
theorem r_iS2L {Y : ab_Y} {d : Nat} {σ : ab_S} {pc : Nat} {ls : List (Option Value)} {st : List Value} {Q : ab_S → Option Value → Prop} {Y2 : ab_Y} {d2 idx : Nat} {v1 v2 : Value} {Q2 : ab_S → Int → Prop} (hw : ab_ms Y.1.cls idx Y2 2) (hd : decode Y.2.1 pc = .ok (.invokestatic idx, 3)) (hCall : C2 Y2 d2 σ [v1, v2] (PL Q2)) (kk : ∀ σ' z, Q2 σ' z → R2 Y d σ' (pc + 3) ls (lgv z :: st) Q) (hdd : d2 + 1 ≤ d := by decide) (hst : (st.map fun v => v.category).sum ≤ 8 := by decide) : R2 Y d σ pc ls (v2 :: v1 :: st) Q :=
  ab_invS (k := 0) (n := 0) (k2 := 0) (n2 := 0) (As := [v1, v2]) hw hd rfl hst hdd hCall (fun M' r ⟨σ', e, z, er, hq⟩ => by subst e; subst er; exact kk σ' z hq)
theorem r_iN2L {Y : ab_Y} {d : Nat} {σ : ab_S} {pc : Nat} {ls : List (Option Value)} {st : List Value} {Q : ab_S → Option Value → Prop} {Y2 : ab_Y} {d2 idx : Nat} {host : String} {v1 v2 : Value} {Q2 : ab_S → Int → Prop} (hw : ab_msn Y.1.cls idx Y2 2 host) (hd : decode Y.2.1 pc = .ok (.invokestatic idx, 3)) (hCall : C2 Y2 d2 σ [v1, v2] (PL Q2)) (kk : ∀ σ' z, Q2 σ' z → R2 Y d σ' (pc + 3) ls (lgv z :: st) Q) (hdd : d2 + 1 ≤ d := by decide) (hst : (st.map fun v => v.category).sum ≤ 8 := by decide) : R2 Y d σ pc ls (v2 :: v1 :: st) Q :=
  ab_invSN (k := 0) (n := 0) (k2 := 0) (n2 := 0) (As := [v1, v2]) hw hd rfl hst hdd hCall (fun M' r ⟨σ', e, z, er, hq⟩ => by subst e; subst er; exact kk σ' z hq)
theorem r_iV3I {Y : ab_Y} {d : Nat} {σ : ab_S} {pc : Nat} {ls : List (Option Value)} {st : List Value} {Q : ab_S → Option Value → Prop} {Y2 : ab_Y} {d2 idx ci N : Nat} {a : Int} {v1 v2 v3 : Value} {Q2 : ab_S → Int → Prop} (hw : ab_mv Y.1.cls idx Y2 3) (hd : decode Y.2.1 pc = .ok (.invokevirtual idx, 3)) (hCall : C2 Y2 d2 σ (rf a :: [v1, v2, v3]) (PI Q2)) (hk : kd_ a ci N) (kk : ∀ σ' z, Q2 σ' z → R2 Y d σ' (pc + 3) ls (iv z :: st) Q) (hqc : (vwCl[ci]?).map (fun q => q.1) = some Y2.1.cls := by rfl) (hdd : d2 + 1 ≤ d := by decide) (hst : (st.map fun v => v.category).sum ≤ 8 := by decide) : R2 Y d σ pc ls (v3 :: v2 :: v1 :: rf a :: st) Q := by
  obtain ⟨q, hq, hqe⟩ := Option.map_eq_some_iff.mp hqc
  exact ab_invV (k := 0) (n := 0) (k2 := 0) (n2 := 0) (As := [v1, v2, v3]) hw hd (ab_mk_get hk) hq hqe rfl hst hdd hCall (fun M' r ⟨σ', e, z, er, hq⟩ => by subst e; subst er; exact kk σ' z hq)
theorem r_iS3I {Y : ab_Y} {d : Nat} {σ : ab_S} {pc : Nat} {ls : List (Option Value)} {st : List Value} {Q : ab_S → Option Value → Prop} {Y2 : ab_Y} {d2 idx : Nat} {v1 v2 v3 : Value} {Q2 : ab_S → Int → Prop} (hw : ab_ms Y.1.cls idx Y2 3) (hd : decode Y.2.1 pc = .ok (.invokestatic idx, 3)) (hCall : C2 Y2 d2 σ [v1, v2, v3] (PI Q2)) (kk : ∀ σ' z, Q2 σ' z → R2 Y d σ' (pc + 3) ls (iv z :: st) Q) (hdd : d2 + 1 ≤ d := by decide) (hst : (st.map fun v => v.category).sum ≤ 8 := by decide) : R2 Y d σ pc ls (v3 :: v2 :: v1 :: st) Q :=
  ab_invS (k := 0) (n := 0) (k2 := 0) (n2 := 0) (As := [v1, v2, v3]) hw hd rfl hst hdd hCall (fun M' r ⟨σ', e, z, er, hq⟩ => by subst e; subst er; exact kk σ' z hq)
theorem r_iN3I {Y : ab_Y} {d : Nat} {σ : ab_S} {pc : Nat} {ls : List (Option Value)} {st : List Value} {Q : ab_S → Option Value → Prop} {Y2 : ab_Y} {d2 idx : Nat} {host : String} {v1 v2 v3 : Value} {Q2 : ab_S → Int → Prop} (hw : ab_msn Y.1.cls idx Y2 3 host) (hd : decode Y.2.1 pc = .ok (.invokestatic idx, 3)) (hCall : C2 Y2 d2 σ [v1, v2, v3] (PI Q2)) (kk : ∀ σ' z, Q2 σ' z → R2 Y d σ' (pc + 3) ls (iv z :: st) Q) (hdd : d2 + 1 ≤ d := by decide) (hst : (st.map fun v => v.category).sum ≤ 8 := by decide) : R2 Y d σ pc ls (v3 :: v2 :: v1 :: st) Q :=
  ab_invSN (k := 0) (n := 0) (k2 := 0) (n2 := 0) (As := [v1, v2, v3]) hw hd rfl hst hdd hCall (fun M' r ⟨σ', e, z, er, hq⟩ => by subst e; subst er; exact kk σ' z hq)
theorem r_iV3V {Y : ab_Y} {d : Nat} {σ : ab_S} {pc : Nat} {ls : List (Option Value)} {st : List Value} {Q : ab_S → Option Value → Prop} {Y2 : ab_Y} {d2 idx ci N : Nat} {a : Int} {v1 v2 v3 : Value} {Q2 : ab_S → Prop} (hw : ab_mv Y.1.cls idx Y2 3) (hd : decode Y.2.1 pc = .ok (.invokevirtual idx, 3)) (hCall : C2 Y2 d2 σ (rf a :: [v1, v2, v3]) (PV Q2)) (hk : kd_ a ci N) (kk : ∀ σ', Q2 σ' → R2 Y d σ' (pc + 3) ls st Q) (hqc : (vwCl[ci]?).map (fun q => q.1) = some Y2.1.cls := by rfl) (hdd : d2 + 1 ≤ d := by decide) (hst : (st.map fun v => v.category).sum ≤ 8 := by decide) : R2 Y d σ pc ls (v3 :: v2 :: v1 :: rf a :: st) Q := by
  obtain ⟨q, hq, hqe⟩ := Option.map_eq_some_iff.mp hqc
  exact ab_invV (k := 0) (n := 0) (k2 := 0) (n2 := 0) (As := [v1, v2, v3]) hw hd (ab_mk_get hk) hq hqe rfl hst hdd hCall (fun M' r ⟨σ', e, er, hq⟩ => by subst e; subst er; exact kk σ' hq)
theorem r_iS3V {Y : ab_Y} {d : Nat} {σ : ab_S} {pc : Nat} {ls : List (Option Value)} {st : List Value} {Q : ab_S → Option Value → Prop} {Y2 : ab_Y} {d2 idx : Nat} {v1 v2 v3 : Value} {Q2 : ab_S → Prop} (hw : ab_ms Y.1.cls idx Y2 3) (hd : decode Y.2.1 pc = .ok (.invokestatic idx, 3)) (hCall : C2 Y2 d2 σ [v1, v2, v3] (PV Q2)) (kk : ∀ σ', Q2 σ' → R2 Y d σ' (pc + 3) ls st Q) (hdd : d2 + 1 ≤ d := by decide) (hst : (st.map fun v => v.category).sum ≤ 8 := by decide) : R2 Y d σ pc ls (v3 :: v2 :: v1 :: st) Q :=
  ab_invS (k := 0) (n := 0) (k2 := 0) (n2 := 0) (As := [v1, v2, v3]) hw hd rfl hst hdd hCall (fun M' r ⟨σ', e, er, hq⟩ => by subst e; subst er; exact kk σ' hq)
theorem r_iN3V {Y : ab_Y} {d : Nat} {σ : ab_S} {pc : Nat} {ls : List (Option Value)} {st : List Value} {Q : ab_S → Option Value → Prop} {Y2 : ab_Y} {d2 idx : Nat} {host : String} {v1 v2 v3 : Value} {Q2 : ab_S → Prop} (hw : ab_msn Y.1.cls idx Y2 3 host) (hd : decode Y.2.1 pc = .ok (.invokestatic idx, 3)) (hCall : C2 Y2 d2 σ [v1, v2, v3] (PV Q2)) (kk : ∀ σ', Q2 σ' → R2 Y d σ' (pc + 3) ls st Q) (hdd : d2 + 1 ≤ d := by decide) (hst : (st.map fun v => v.category).sum ≤ 8 := by decide) : R2 Y d σ pc ls (v3 :: v2 :: v1 :: st) Q :=
  ab_invSN (k := 0) (n := 0) (k2 := 0) (n2 := 0) (As := [v1, v2, v3]) hw hd rfl hst hdd hCall (fun M' r ⟨σ', e, er, hq⟩ => by subst e; subst er; exact kk σ' hq)
theorem r_iV3L {Y : ab_Y} {d : Nat} {σ : ab_S} {pc : Nat} {ls : List (Option Value)} {st : List Value} {Q : ab_S → Option Value → Prop} {Y2 : ab_Y} {d2 idx ci N : Nat} {a : Int} {v1 v2 v3 : Value} {Q2 : ab_S → Int → Prop} (hw : ab_mv Y.1.cls idx Y2 3) (hd : decode Y.2.1 pc = .ok (.invokevirtual idx, 3)) (hCall : C2 Y2 d2 σ (rf a :: [v1, v2, v3]) (PL Q2)) (hk : kd_ a ci N) (kk : ∀ σ' z, Q2 σ' z → R2 Y d σ' (pc + 3) ls (lgv z :: st) Q) (hqc : (vwCl[ci]?).map (fun q => q.1) = some Y2.1.cls := by rfl) (hdd : d2 + 1 ≤ d := by decide) (hst : (st.map fun v => v.category).sum ≤ 8 := by decide) : R2 Y d σ pc ls (v3 :: v2 :: v1 :: rf a :: st) Q := by
  obtain ⟨q, hq, hqe⟩ := Option.map_eq_some_iff.mp hqc
  exact ab_invV (k := 0) (n := 0) (k2 := 0) (n2 := 0) (As := [v1, v2, v3]) hw hd (ab_mk_get hk) hq hqe rfl hst hdd hCall (fun M' r ⟨σ', e, z, er, hq⟩ => by subst e; subst er; exact kk σ' z hq)
theorem r_iS3L {Y : ab_Y} {d : Nat} {σ : ab_S} {pc : Nat} {ls : List (Option Value)} {st : List Value} {Q : ab_S → Option Value → Prop} {Y2 : ab_Y} {d2 idx : Nat} {v1 v2 v3 : Value} {Q2 : ab_S → Int → Prop} (hw : ab_ms Y.1.cls idx Y2 3) (hd : decode Y.2.1 pc = .ok (.invokestatic idx, 3)) (hCall : C2 Y2 d2 σ [v1, v2, v3] (PL Q2)) (kk : ∀ σ' z, Q2 σ' z → R2 Y d σ' (pc + 3) ls (lgv z :: st) Q) (hdd : d2 + 1 ≤ d := by decide) (hst : (st.map fun v => v.category).sum ≤ 8 := by decide) : R2 Y d σ pc ls (v3 :: v2 :: v1 :: st) Q :=
  ab_invS (k := 0) (n := 0) (k2 := 0) (n2 := 0) (As := [v1, v2, v3]) hw hd rfl hst hdd hCall (fun M' r ⟨σ', e, z, er, hq⟩ => by subst e; subst er; exact kk σ' z hq)
theorem r_iN3L {Y : ab_Y} {d : Nat} {σ : ab_S} {pc : Nat} {ls : List (Option Value)} {st : List Value} {Q : ab_S → Option Value → Prop} {Y2 : ab_Y} {d2 idx : Nat} {host : String} {v1 v2 v3 : Value} {Q2 : ab_S → Int → Prop} (hw : ab_msn Y.1.cls idx Y2 3 host) (hd : decode Y.2.1 pc = .ok (.invokestatic idx, 3)) (hCall : C2 Y2 d2 σ [v1, v2, v3] (PL Q2)) (kk : ∀ σ' z, Q2 σ' z → R2 Y d σ' (pc + 3) ls (lgv z :: st) Q) (hdd : d2 + 1 ≤ d := by decide) (hst : (st.map fun v => v.category).sum ≤ 8 := by decide) : R2 Y d σ pc ls (v3 :: v2 :: v1 :: st) Q :=
  ab_invSN (k := 0) (n := 0) (k2 := 0) (n2 := 0) (As := [v1, v2, v3]) hw hd rfl hst hdd hCall (fun M' r ⟨σ', e, z, er, hq⟩ => by subst e; subst er; exact kk σ' z hq)
theorem r_iV4I {Y : ab_Y} {d : Nat} {σ : ab_S} {pc : Nat} {ls : List (Option Value)} {st : List Value} {Q : ab_S → Option Value → Prop} {Y2 : ab_Y} {d2 idx ci N : Nat} {a : Int} {v1 v2 v3 v4 : Value} {Q2 : ab_S → Int → Prop} (hw : ab_mv Y.1.cls idx Y2 4) (hd : decode Y.2.1 pc = .ok (.invokevirtual idx, 3)) (hCall : C2 Y2 d2 σ (rf a :: [v1, v2, v3, v4]) (PI Q2)) (hk : kd_ a ci N) (kk : ∀ σ' z, Q2 σ' z → R2 Y d σ' (pc + 3) ls (iv z :: st) Q) (hqc : (vwCl[ci]?).map (fun q => q.1) = some Y2.1.cls := by rfl) (hdd : d2 + 1 ≤ d := by decide) (hst : (st.map fun v => v.category).sum ≤ 8 := by decide) : R2 Y d σ pc ls (v4 :: v3 :: v2 :: v1 :: rf a :: st) Q := by
  obtain ⟨q, hq, hqe⟩ := Option.map_eq_some_iff.mp hqc
  exact ab_invV (k := 0) (n := 0) (k2 := 0) (n2 := 0) (As := [v1, v2, v3, v4]) hw hd (ab_mk_get hk) hq hqe rfl hst hdd hCall (fun M' r ⟨σ', e, z, er, hq⟩ => by subst e; subst er; exact kk σ' z hq)
theorem r_iS4I {Y : ab_Y} {d : Nat} {σ : ab_S} {pc : Nat} {ls : List (Option Value)} {st : List Value} {Q : ab_S → Option Value → Prop} {Y2 : ab_Y} {d2 idx : Nat} {v1 v2 v3 v4 : Value} {Q2 : ab_S → Int → Prop} (hw : ab_ms Y.1.cls idx Y2 4) (hd : decode Y.2.1 pc = .ok (.invokestatic idx, 3)) (hCall : C2 Y2 d2 σ [v1, v2, v3, v4] (PI Q2)) (kk : ∀ σ' z, Q2 σ' z → R2 Y d σ' (pc + 3) ls (iv z :: st) Q) (hdd : d2 + 1 ≤ d := by decide) (hst : (st.map fun v => v.category).sum ≤ 8 := by decide) : R2 Y d σ pc ls (v4 :: v3 :: v2 :: v1 :: st) Q :=
  ab_invS (k := 0) (n := 0) (k2 := 0) (n2 := 0) (As := [v1, v2, v3, v4]) hw hd rfl hst hdd hCall (fun M' r ⟨σ', e, z, er, hq⟩ => by subst e; subst er; exact kk σ' z hq)
theorem r_iN4I {Y : ab_Y} {d : Nat} {σ : ab_S} {pc : Nat} {ls : List (Option Value)} {st : List Value} {Q : ab_S → Option Value → Prop} {Y2 : ab_Y} {d2 idx : Nat} {host : String} {v1 v2 v3 v4 : Value} {Q2 : ab_S → Int → Prop} (hw : ab_msn Y.1.cls idx Y2 4 host) (hd : decode Y.2.1 pc = .ok (.invokestatic idx, 3)) (hCall : C2 Y2 d2 σ [v1, v2, v3, v4] (PI Q2)) (kk : ∀ σ' z, Q2 σ' z → R2 Y d σ' (pc + 3) ls (iv z :: st) Q) (hdd : d2 + 1 ≤ d := by decide) (hst : (st.map fun v => v.category).sum ≤ 8 := by decide) : R2 Y d σ pc ls (v4 :: v3 :: v2 :: v1 :: st) Q :=
  ab_invSN (k := 0) (n := 0) (k2 := 0) (n2 := 0) (As := [v1, v2, v3, v4]) hw hd rfl hst hdd hCall (fun M' r ⟨σ', e, z, er, hq⟩ => by subst e; subst er; exact kk σ' z hq)
theorem r_iV4V {Y : ab_Y} {d : Nat} {σ : ab_S} {pc : Nat} {ls : List (Option Value)} {st : List Value} {Q : ab_S → Option Value → Prop} {Y2 : ab_Y} {d2 idx ci N : Nat} {a : Int} {v1 v2 v3 v4 : Value} {Q2 : ab_S → Prop} (hw : ab_mv Y.1.cls idx Y2 4) (hd : decode Y.2.1 pc = .ok (.invokevirtual idx, 3)) (hCall : C2 Y2 d2 σ (rf a :: [v1, v2, v3, v4]) (PV Q2)) (hk : kd_ a ci N) (kk : ∀ σ', Q2 σ' → R2 Y d σ' (pc + 3) ls st Q) (hqc : (vwCl[ci]?).map (fun q => q.1) = some Y2.1.cls := by rfl) (hdd : d2 + 1 ≤ d := by decide) (hst : (st.map fun v => v.category).sum ≤ 8 := by decide) : R2 Y d σ pc ls (v4 :: v3 :: v2 :: v1 :: rf a :: st) Q := by
  obtain ⟨q, hq, hqe⟩ := Option.map_eq_some_iff.mp hqc
  exact ab_invV (k := 0) (n := 0) (k2 := 0) (n2 := 0) (As := [v1, v2, v3, v4]) hw hd (ab_mk_get hk) hq hqe rfl hst hdd hCall (fun M' r ⟨σ', e, er, hq⟩ => by subst e; subst er; exact kk σ' hq)
theorem r_iS4V {Y : ab_Y} {d : Nat} {σ : ab_S} {pc : Nat} {ls : List (Option Value)} {st : List Value} {Q : ab_S → Option Value → Prop} {Y2 : ab_Y} {d2 idx : Nat} {v1 v2 v3 v4 : Value} {Q2 : ab_S → Prop} (hw : ab_ms Y.1.cls idx Y2 4) (hd : decode Y.2.1 pc = .ok (.invokestatic idx, 3)) (hCall : C2 Y2 d2 σ [v1, v2, v3, v4] (PV Q2)) (kk : ∀ σ', Q2 σ' → R2 Y d σ' (pc + 3) ls st Q) (hdd : d2 + 1 ≤ d := by decide) (hst : (st.map fun v => v.category).sum ≤ 8 := by decide) : R2 Y d σ pc ls (v4 :: v3 :: v2 :: v1 :: st) Q :=
  ab_invS (k := 0) (n := 0) (k2 := 0) (n2 := 0) (As := [v1, v2, v3, v4]) hw hd rfl hst hdd hCall (fun M' r ⟨σ', e, er, hq⟩ => by subst e; subst er; exact kk σ' hq)
theorem r_iN4V {Y : ab_Y} {d : Nat} {σ : ab_S} {pc : Nat} {ls : List (Option Value)} {st : List Value} {Q : ab_S → Option Value → Prop} {Y2 : ab_Y} {d2 idx : Nat} {host : String} {v1 v2 v3 v4 : Value} {Q2 : ab_S → Prop} (hw : ab_msn Y.1.cls idx Y2 4 host) (hd : decode Y.2.1 pc = .ok (.invokestatic idx, 3)) (hCall : C2 Y2 d2 σ [v1, v2, v3, v4] (PV Q2)) (kk : ∀ σ', Q2 σ' → R2 Y d σ' (pc + 3) ls st Q) (hdd : d2 + 1 ≤ d := by decide) (hst : (st.map fun v => v.category).sum ≤ 8 := by decide) : R2 Y d σ pc ls (v4 :: v3 :: v2 :: v1 :: st) Q :=
  ab_invSN (k := 0) (n := 0) (k2 := 0) (n2 := 0) (As := [v1, v2, v3, v4]) hw hd rfl hst hdd hCall (fun M' r ⟨σ', e, er, hq⟩ => by subst e; subst er; exact kk σ' hq)
theorem r_iV4L {Y : ab_Y} {d : Nat} {σ : ab_S} {pc : Nat} {ls : List (Option Value)} {st : List Value} {Q : ab_S → Option Value → Prop} {Y2 : ab_Y} {d2 idx ci N : Nat} {a : Int} {v1 v2 v3 v4 : Value} {Q2 : ab_S → Int → Prop} (hw : ab_mv Y.1.cls idx Y2 4) (hd : decode Y.2.1 pc = .ok (.invokevirtual idx, 3)) (hCall : C2 Y2 d2 σ (rf a :: [v1, v2, v3, v4]) (PL Q2)) (hk : kd_ a ci N) (kk : ∀ σ' z, Q2 σ' z → R2 Y d σ' (pc + 3) ls (lgv z :: st) Q) (hqc : (vwCl[ci]?).map (fun q => q.1) = some Y2.1.cls := by rfl) (hdd : d2 + 1 ≤ d := by decide) (hst : (st.map fun v => v.category).sum ≤ 8 := by decide) : R2 Y d σ pc ls (v4 :: v3 :: v2 :: v1 :: rf a :: st) Q := by
  obtain ⟨q, hq, hqe⟩ := Option.map_eq_some_iff.mp hqc
  exact ab_invV (k := 0) (n := 0) (k2 := 0) (n2 := 0) (As := [v1, v2, v3, v4]) hw hd (ab_mk_get hk) hq hqe rfl hst hdd hCall (fun M' r ⟨σ', e, z, er, hq⟩ => by subst e; subst er; exact kk σ' z hq)
theorem r_iS4L {Y : ab_Y} {d : Nat} {σ : ab_S} {pc : Nat} {ls : List (Option Value)} {st : List Value} {Q : ab_S → Option Value → Prop} {Y2 : ab_Y} {d2 idx : Nat} {v1 v2 v3 v4 : Value} {Q2 : ab_S → Int → Prop} (hw : ab_ms Y.1.cls idx Y2 4) (hd : decode Y.2.1 pc = .ok (.invokestatic idx, 3)) (hCall : C2 Y2 d2 σ [v1, v2, v3, v4] (PL Q2)) (kk : ∀ σ' z, Q2 σ' z → R2 Y d σ' (pc + 3) ls (lgv z :: st) Q) (hdd : d2 + 1 ≤ d := by decide) (hst : (st.map fun v => v.category).sum ≤ 8 := by decide) : R2 Y d σ pc ls (v4 :: v3 :: v2 :: v1 :: st) Q :=
  ab_invS (k := 0) (n := 0) (k2 := 0) (n2 := 0) (As := [v1, v2, v3, v4]) hw hd rfl hst hdd hCall (fun M' r ⟨σ', e, z, er, hq⟩ => by subst e; subst er; exact kk σ' z hq)
theorem r_iN4L {Y : ab_Y} {d : Nat} {σ : ab_S} {pc : Nat} {ls : List (Option Value)} {st : List Value} {Q : ab_S → Option Value → Prop} {Y2 : ab_Y} {d2 idx : Nat} {host : String} {v1 v2 v3 v4 : Value} {Q2 : ab_S → Int → Prop} (hw : ab_msn Y.1.cls idx Y2 4 host) (hd : decode Y.2.1 pc = .ok (.invokestatic idx, 3)) (hCall : C2 Y2 d2 σ [v1, v2, v3, v4] (PL Q2)) (kk : ∀ σ' z, Q2 σ' z → R2 Y d σ' (pc + 3) ls (lgv z :: st) Q) (hdd : d2 + 1 ≤ d := by decide) (hst : (st.map fun v => v.category).sum ≤ 8 := by decide) : R2 Y d σ pc ls (v4 :: v3 :: v2 :: v1 :: st) Q :=
  ab_invSN (k := 0) (n := 0) (k2 := 0) (n2 := 0) (As := [v1, v2, v3, v4]) hw hd rfl hst hdd hCall (fun M' r ⟨σ', e, z, er, hq⟩ => by subst e; subst er; exact kk σ' z hq)
end
section
/-! the shape: which cell stands where -/
def ab_chk (kd n δ kd' n' : Nat) : List (Nat × Nat) → Bool
  | [] => true
  | x :: r => (!(Nat.beq x.1 kd && Nat.beq x.2 n) || (match (x :: r)[δ]? with | some y => Nat.beq y.1 kd' && Nat.beq y.2 n' | none => false)) && ab_chk kd n δ kd' n' r
theorem ab_chk_get {kd n δ kd' n' : Nat} : ∀ {l : List (Nat × Nat)}, ab_chk kd n δ kd' n' l = true → ∀ j : Nat, l[j]? = some (kd, n) → l[j + δ]? = some (kd', n')
  | [], _, j, h => by simp at h
  | x :: r, hc, j, h => by
    have hc' : ((!(Nat.beq x.1 kd && Nat.beq x.2 n) || (match (x :: r)[δ]? with | some y => Nat.beq y.1 kd' && Nat.beq y.2 n' | none => false)) && ab_chk kd n δ kd' n' r) = true := hc
    rw [Bool.and_eq_true] at hc'
    cases j with
    | zero =>
      have hx : x = (kd, n) := Option.some.inj h
      subst hx
      have h1 := hc'.1
      rw [Nat.beq_refl, Nat.beq_refl, Bool.and_true, Bool.not_true, Bool.false_or] at h1
      rw [Nat.zero_add]
      cases hy : ((kd, n) :: r)[δ]? with
      | none => rw [hy] at h1; cases h1
      | some y =>
        rw [hy] at h1
        have h2 : (Nat.beq y.1 kd' && Nat.beq y.2 n') = true := h1
        rw [Bool.and_eq_true] at h2
        obtain ⟨y1, y2⟩ := y
        have e1 : y1 = kd' := Nat.eq_of_beq_eq_true h2.1
        have e2 : y2 = n' := Nat.eq_of_beq_eq_true h2.2
        rw [e1, e2]
    | succ j =>
      rw [show j + 1 + δ = (j + δ) + 1 by omega, List.getElem?_cons_succ]
      exact ab_chk_get hc'.2 j h
theorem kd_sub {kd n δ kd' n' : Nat} (hc : ab_chk kd n δ kd' n' ab_shp = true) {a δz : Int} (hz : (δ : Int) = δz) (h : kd_ a kd n) : kd_ (a + δz) kd' n' := by
  obtain ⟨h0, h1⟩ := h
  have h2 := ab_chk_get hc _ h1
  refine ⟨by omega, ?_⟩
  rw [← h2]
  congr 1
  omega
theorem kd_rope {a : Int} (h : kd_ a 5 4) : kd_ (a + 1) 10 8 ∧ kd_ (a + 2) 10 8 ∧ kd_ (a + 3) 10 8 :=
  ⟨kd_sub (δ := 1) (by decide +kernel) rfl h, kd_sub (δ := 2) (by decide +kernel) rfl h, kd_sub (δ := 3) (by decide +kernel) rfl h⟩
theorem kd_pairs {a : Int} (h : kd_ a 3 3) : kd_ (a + 1) 10 6 ∧ kd_ (a + 2) 10 6 :=
  ⟨kd_sub (δ := 1) (by decide +kernel) rfl h, kd_sub (δ := 2) (by decide +kernel) rfl h⟩
theorem kd_pad {a : Int} (h : kd_ a 2 2) : kd_ (a + 1) 10 60 :=
  kd_sub (δ := 1) (by decide +kernel) rfl h
theorem kd_abbey {a : Int} (h : kd_ a 0 8) : kd_ (a + 1) 10 6 ∧ kd_ (a + 2) 10 6 ∧ kd_ (a + 3) 10 6 ∧ kd_ (a + 4) 10 6 ∧ kd_ (a + 5) 12 4 ∧ kd_ (a + 6) 10 4 :=
  ⟨kd_sub (δ := 1) (by decide +kernel) rfl h, kd_sub (δ := 2) (by decide +kernel) rfl h, kd_sub (δ := 3) (by decide +kernel) rfl h, kd_sub (δ := 4) (by decide +kernel) rfl h, kd_sub (δ := 5) (by decide +kernel) rfl h, kd_sub (δ := 6) (by decide +kernel) rfl h⟩
theorem kd_whole {a : Int} (h : kd_ a 6 3) : kd_ (a + 1) 0 8 ∧ kd_ (a + 24) 3 3 ∧ kd_ (a + 27) 3 3 :=
  ⟨kd_sub (δ := 1) (by decide +kernel) rfl h, kd_sub (δ := 24) (by decide +kernel) rfl h, kd_sub (δ := 27) (by decide +kernel) rfl h⟩
theorem kd_crossing {a : Int} (h : kd_ a 1 4) : kd_ (a + 1) 3 3 ∧ kd_ (a + 4) 10 7 ∧ kd_ (a + 5) 10 448 ∧ kd_ (a + 6) 10 6 :=
  ⟨kd_sub (δ := 1) (by decide +kernel) rfl h, kd_sub (δ := 4) (by decide +kernel) rfl h, kd_sub (δ := 5) (by decide +kernel) rfl h, kd_sub (δ := 6) (by decide +kernel) rfl h⟩
theorem kd_renewal {a : Int} (h : kd_ a 4 9) : kd_ (a + 1) 14 5 ∧ kd_ (a + 117) 15 4 ∧ kd_ (a + 122) 15 4 ∧ kd_ (a + 127) 10 6 ∧ kd_ (a + 128) 10 4 ∧ kd_ (a + 129) 10 4 :=
  ⟨kd_sub (δ := 1) (by decide +kernel) rfl h, kd_sub (δ := 117) (by decide +kernel) rfl h, kd_sub (δ := 122) (by decide +kernel) rfl h, kd_sub (δ := 127) (by decide +kernel) rfl h, kd_sub (δ := 128) (by decide +kernel) rfl h, kd_sub (δ := 129) (by decide +kernel) rfl h⟩
theorem kd_wigs {a : Int} (h : kd_ a 7 4) : kd_ (a + 1) 10 64 ∧ kd_ (a + 2) 10 241 ∧ kd_ (a + 3) 10 64 :=
  ⟨kd_sub (δ := 1) (by decide +kernel) rfl h, kd_sub (δ := 2) (by decide +kernel) rfl h, kd_sub (δ := 3) (by decide +kernel) rfl h⟩
theorem kd_hb {a : Int} (h : kd_ a 8 8) : kd_ (a + 1) 2 2 ∧ kd_ (a + 3) 6 3 ∧ kd_ (a + 33) 13 2 ∧ kd_ (a + 94) 11 2 ∧ kd_ (a + 95) 0 8 ∧ kd_ (a + 118) 1 4 ∧ kd_ (a + 125) 4 9 ∧ kd_ (a + 255) 7 4 :=
  ⟨kd_sub (δ := 1) (by decide +kernel) rfl h, kd_sub (δ := 3) (by decide +kernel) rfl h, kd_sub (δ := 33) (by decide +kernel) rfl h, kd_sub (δ := 94) (by decide +kernel) rfl h, kd_sub (δ := 95) (by decide +kernel) rfl h, kd_sub (δ := 118) (by decide +kernel) rfl h, kd_sub (δ := 125) (by decide +kernel) rfl h, kd_sub (δ := 255) (by decide +kernel) rfl h⟩
theorem kd_model {a : Int} (h : kd_ a 9 37) : kd_ (a + 1) 10 6 ∧ kd_ (a + 2) 10 6 ∧ kd_ (a + 3) 10 6 ∧ kd_ (a + 4) 10 6 ∧ kd_ (a + 5) 10 32 ∧ kd_ (a + 6) 10 32 ∧ kd_ (a + 7) 10 32 ∧ kd_ (a + 8) 10 4 ∧ kd_ (a + 9) 10 6 ∧ kd_ (a + 10) 10 6 ∧ kd_ (a + 11) 10 6 ∧ kd_ (a + 12) 10 6 ∧ kd_ (a + 13) 10 6 ∧ kd_ (a + 14) 10 6 ∧ kd_ (a + 15) 10 6 ∧ kd_ (a + 16) 10 32 ∧ kd_ (a + 17) 10 32 ∧ kd_ (a + 18) 10 32 ∧ kd_ (a + 19) 10 4 ∧ kd_ (a + 20) 10 60 ∧ kd_ (a + 21) 10 6 ∧ kd_ (a + 22) 10 4 ∧ kd_ (a + 23) 10 4 ∧ kd_ (a + 24) 10 241 ∧ kd_ (a + 25) 10 360 ∧ kd_ (a + 26) 11 2 :=
  ⟨kd_sub (δ := 1) (by decide +kernel) rfl h, kd_sub (δ := 2) (by decide +kernel) rfl h, kd_sub (δ := 3) (by decide +kernel) rfl h, kd_sub (δ := 4) (by decide +kernel) rfl h, kd_sub (δ := 5) (by decide +kernel) rfl h, kd_sub (δ := 6) (by decide +kernel) rfl h, kd_sub (δ := 7) (by decide +kernel) rfl h, kd_sub (δ := 8) (by decide +kernel) rfl h, kd_sub (δ := 9) (by decide +kernel) rfl h, kd_sub (δ := 10) (by decide +kernel) rfl h, kd_sub (δ := 11) (by decide +kernel) rfl h, kd_sub (δ := 12) (by decide +kernel) rfl h, kd_sub (δ := 13) (by decide +kernel) rfl h, kd_sub (δ := 14) (by decide +kernel) rfl h, kd_sub (δ := 15) (by decide +kernel) rfl h, kd_sub (δ := 16) (by decide +kernel) rfl h, kd_sub (δ := 17) (by decide +kernel) rfl h, kd_sub (δ := 18) (by decide +kernel) rfl h, kd_sub (δ := 19) (by decide +kernel) rfl h, kd_sub (δ := 20) (by decide +kernel) rfl h, kd_sub (δ := 21) (by decide +kernel) rfl h, kd_sub (δ := 22) (by decide +kernel) rfl h, kd_sub (δ := 23) (by decide +kernel) rfl h, kd_sub (δ := 24) (by decide +kernel) rfl h, kd_sub (δ := 25) (by decide +kernel) rfl h, kd_sub (δ := 26) (by decide +kernel) rfl h⟩
theorem kd_ropes {a i : Int} (h : kd_ a 0 8) (h1 : 0 ≤ i) (h2 : i < 4) : kd_ (a + 5 + (2 + 4 * i)) 5 4 := by
  rcases (show i = 0 ∨ i = 1 ∨ i = 2 ∨ i = 3 by omega) with rfl | rfl | rfl | rfl
  · have := kd_sub (δ := 7) (kd' := 5) (n' := 4) (by decide +kernel) rfl h
    rwa [show a + ((7 : Nat) : Int) = a + 5 + (2 + 4 * 0) by omega] at this
  · have := kd_sub (δ := 11) (kd' := 5) (n' := 4) (by decide +kernel) rfl h
    rwa [show a + ((11 : Nat) : Int) = a + 5 + (2 + 4 * 1) by omega] at this
  · have := kd_sub (δ := 15) (kd' := 5) (n' := 4) (by decide +kernel) rfl h
    rwa [show a + ((15 : Nat) : Int) = a + 5 + (2 + 4 * 2) by omega] at this
  · have := kd_sub (δ := 19) (kd' := 5) (n' := 4) (by decide +kernel) rfl h
    rwa [show a + ((19 : Nat) : Int) = a + 5 + (2 + 4 * 3) by omega] at this
theorem kd_images {a i : Int} (h : kd_ a 8 8) (h1 : 0 ≤ i) (h2 : i < 2) : kd_ (a + 33 + (1 + 30 * i)) 6 3 := by
  rcases (show i = 0 ∨ i = 1 by omega) with rfl | rfl
  · have := kd_sub (δ := 34) (kd' := 6) (n' := 3) (by decide +kernel) rfl h
    rwa [show a + ((34 : Nat) : Int) = a + 33 + (1 + 30 * 0) by omega] at this
  · have := kd_sub (δ := 64) (kd' := 6) (n' := 3) (by decide +kernel) rfl h
    rwa [show a + ((64 : Nat) : Int) = a + 33 + (1 + 30 * 1) by omega] at this
theorem kd_ahead {a i : Int} (h : kd_ a 4 9) (h1 : 0 ≤ i) (h2 : i < 5) : kd_ (a + 1 + (1 + 23 * i)) 0 8 := by
  rcases (show i = 0 ∨ i = 1 ∨ i = 2 ∨ i = 3 ∨ i = 4 by omega) with rfl | rfl | rfl | rfl | rfl
  · have := kd_sub (δ := 2) (kd' := 0) (n' := 8) (by decide +kernel) rfl h
    rwa [show a + ((2 : Nat) : Int) = a + 1 + (1 + 23 * 0) by omega] at this
  · have := kd_sub (δ := 25) (kd' := 0) (n' := 8) (by decide +kernel) rfl h
    rwa [show a + ((25 : Nat) : Int) = a + 1 + (1 + 23 * 1) by omega] at this
  · have := kd_sub (δ := 48) (kd' := 0) (n' := 8) (by decide +kernel) rfl h
    rwa [show a + ((48 : Nat) : Int) = a + 1 + (1 + 23 * 2) by omega] at this
  · have := kd_sub (δ := 71) (kd' := 0) (n' := 8) (by decide +kernel) rfl h
    rwa [show a + ((71 : Nat) : Int) = a + 1 + (1 + 23 * 3) by omega] at this
  · have := kd_sub (δ := 94) (kd' := 0) (n' := 8) (by decide +kernel) rfl h
    rwa [show a + ((94 : Nat) : Int) = a + 1 + (1 + 23 * 4) by omega] at this
theorem kd_wornr {a i : Int} (h : kd_ a 4 9) (h1 : 0 ≤ i) (h2 : i < 4) : kd_ (a + 117 + (1 + 1 * i)) 10 4 := by
  rcases (show i = 0 ∨ i = 1 ∨ i = 2 ∨ i = 3 by omega) with rfl | rfl | rfl | rfl
  · have := kd_sub (δ := 118) (kd' := 10) (n' := 4) (by decide +kernel) rfl h
    rwa [show a + ((118 : Nat) : Int) = a + 117 + (1 + 1 * 0) by omega] at this
  · have := kd_sub (δ := 119) (kd' := 10) (n' := 4) (by decide +kernel) rfl h
    rwa [show a + ((119 : Nat) : Int) = a + 117 + (1 + 1 * 1) by omega] at this
  · have := kd_sub (δ := 120) (kd' := 10) (n' := 4) (by decide +kernel) rfl h
    rwa [show a + ((120 : Nat) : Int) = a + 117 + (1 + 1 * 2) by omega] at this
  · have := kd_sub (δ := 121) (kd' := 10) (n' := 4) (by decide +kernel) rfl h
    rwa [show a + ((121 : Nat) : Int) = a + 117 + (1 + 1 * 3) by omega] at this
theorem kd_eatenr {a i : Int} (h : kd_ a 4 9) (h1 : 0 ≤ i) (h2 : i < 4) : kd_ (a + 122 + (1 + 1 * i)) 10 4 := by
  rcases (show i = 0 ∨ i = 1 ∨ i = 2 ∨ i = 3 by omega) with rfl | rfl | rfl | rfl
  · have := kd_sub (δ := 123) (kd' := 10) (n' := 4) (by decide +kernel) rfl h
    rwa [show a + ((123 : Nat) : Int) = a + 122 + (1 + 1 * 0) by omega] at this
  · have := kd_sub (δ := 124) (kd' := 10) (n' := 4) (by decide +kernel) rfl h
    rwa [show a + ((124 : Nat) : Int) = a + 122 + (1 + 1 * 1) by omega] at this
  · have := kd_sub (δ := 125) (kd' := 10) (n' := 4) (by decide +kernel) rfl h
    rwa [show a + ((125 : Nat) : Int) = a + 122 + (1 + 1 * 2) by omega] at this
  · have := kd_sub (δ := 126) (kd' := 10) (n' := 4) (by decide +kernel) rfl h
    rwa [show a + ((126 : Nat) : Int) = a + 122 + (1 + 1 * 3) by omega] at this
end
section
set_option maxHeartbeats 1000000 in
theorem ab_Call.ofF {Y : ab_Y} {d k n : Nat} {M : ab_M} {av : List Value} {Q : ab_M → Option Value → Prop} (hy : plainFor Y.1 = true) (hn : (ab_args av).length ≤ Y.2.2.1) (h : ab_Run Y d k n M 0 (ab_pad Y.2.2.1 (ab_args av)) [] Q) : ab_Call Y d k n M av Q := by
  intro l D dA bs b
  refine va_MetF (cc := Y.2.1) (maxL := Y.2.2.1) (ret := Y.2.2.2) hy rfl ?_
  intro p e s m args below meth c s₁ B hml hv
  obtain ⟨rfl, hbs, hK, hH⟩ := hv
  have hlocks := B.notSynchronized
  have hts := atoms_spec (ws := ab_wy Y) B.pre
  have hown : s.vm.findClass Y.1.cls = some m.cls := findClass_of_methodNamed B.named
  have hnm : meth.name = Y.1.name := (name_of_methodNamed B.named B.method).1
  have hl := lv_entry (av.map (ab_v bs b)) (n := Y.2.2.1) (by rw [ab_args_len]; exact hn)
  rw [lg_entry_eq]
  generalize (lg_sl (av.map (ab_v bs b)) ++ List.replicate (Y.2.2.1 - (lg_sl (av.map (ab_v bs b))).length) Slot.unset).toArray = arr at hl ⊢
  have hL : ab_L bs b arr Y.2.2.1 (ab_pad Y.2.2.1 (ab_args av)) := ⟨hl.1, hl.2.1, fun i v hi => by
    have h1 := ab_args_in (bs := bs) (b := b) av 0 i v (ab_pad_get hi)
    rw [Nat.zero_add] at h1
    exact hl.2.2 _ h1⟩
  have hC : ab_Cx Y d k n k n D dA bs p (headSpec (ab_wy Y) (ab_rm d k n)).room s m (av.map (ab_v bs b)).toArray meth c 0 0 :=
    ⟨⟨B.exec, B.bytes, hml, hown, fun w hw => hts w (List.mem_cons_of_mem _ hw)⟩, hK, ⟨Nat.le_refl _, Nat.le_refl _, by omega, by omega, Nat.le_refl _, Nat.le_refl _⟩, hbs, hnm⟩
  refine h hC hH va_S.rf hL ?_
  intro M' r H' locs' pc' arr' hi hH' hS' hq
  have hfin : ∀ t : State, t.heap = H' → s.WarmedH t.vm → ab_Qc D dA bs b Q (av.map (ab_v bs b)).toArray s (.returned (r.map (ab_v bs b))) t := fun t ht hW =>
    ⟨⟨M', r, rfl, hq, by rw [ht]; exact hH'.moved hW.alike⟩, hS'.F ht⟩
  match r, hi with
  | none, hi =>
    exact W.vret B.exec B.bytes (by rw [B.returns]; exact hi.2) hfin hS'.2.2 hi.1
  | some (.int v), hi =>
    obtain ⟨h1, ty, h2, h3⟩ := hi
    exact W.zret (ty := ty) B.exec B.bytes (by rw [B.returns]; exact h2) h3 hfin hS'.2.2 h1
  | some (.long v), hi =>
    exact W.lret B.exec B.bytes (by rw [B.returns]; exact hi.2) hfin hS'.2.2 hi.1
theorem C2.ofF {Y : ab_Y} {d : Nat} {σ : ab_S} {av : List Value} {Q : ab_S → Option Value → Prop} (hy : plainFor Y.1 = true) (hn : (ab_args av).length ≤ Y.2.2.1) (h : R2 Y d σ 0 (ab_pad Y.2.2.1 (ab_args av)) [] Q) : C2 Y d σ av Q := ab_Call.ofF hy hn h
end
section
/-! fewer known locals; loops -/
def ab_le : List (Option Value) → List (Option Value) → Prop
  | [], _ => True
  | none :: a, b => ab_le a b.tail
  | some v :: a, b => b.head? = some (some v) ∧ ab_le a b.tail
theorem ab_le_get : ∀ {a b : List (Option Value)}, ab_le a b → ∀ (i : Nat) (v : Value), a[i]? = some (some v) → b[i]? = some (some v)
  | [], b, _, i, v, h => by simp at h
  | none :: a, b, hl, i, v, h => by
    cases i with
    | zero => cases h
    | succ i =>
      have h2 := ab_le_get (show ab_le a b.tail from hl) i v h
      cases b with
      | nil => simp at h2
      | cons x b => exact h2
  | some w :: a, b, hl, i, v, h => by
    have hl' : b.head? = some (some w) ∧ ab_le a b.tail := hl
    cases b with
    | nil => cases hl'.1
    | cons x b =>
      cases i with
      | zero =>
        cases h
        exact hl'.1
      | succ i => exact ab_le_get hl'.2 i v h
theorem R2.weak {Y : ab_Y} {d pc : Nat} {σ : ab_S} {ls ls' : List (Option Value)} {st : List Value} {Q : ab_S → Option Value → Prop} (hle : ab_le ls' ls) (h : R2 Y d σ pc ls' st Q) : R2 Y d σ pc ls st Q := by
  intro p l e R s m args below meth c D dA bs b tc ts H locs cells slots arr Z hC hH hS hL hr
  exact h hC hH hS ⟨hL.1, hL.2.1, fun i v hi => hL.2.2 i v (ab_le_get hle i v hi)⟩ hr
theorem C2.mono {Y : ab_Y} {d : Nat} {σ : ab_S} {av : List Value} {Q Q' : ab_S → Option Value → Prop} (h : C2 Y d σ av Q) (hq : ∀ σ' r, Q σ' r → Q' σ' r) : C2 Y d σ av Q' := by
  intro l D dA bs b
  have h0 := h l D dA bs b
  intro p e ha hc hk s m args below hf happ hP hK
  obtain ⟨k, o, h1, h2, h3, ⟨⟨M', r, e1, ⟨σ', e2, q⟩, hH⟩, hF⟩, hL⟩ := h0 p e ha hc hk s m args below hf happ hP hK
  exact ⟨k, o, h1, h2, h3, ⟨⟨M', r, e1, ⟨σ', e2, hq _ _ q⟩, hH⟩, hF⟩, hL⟩
end
section
/-! the small static methods -/
theorem lcm_cases (x y : Int) : (lcm x y = 1 ∧ y < x) ∨ (lcm x y = 0 ∧ x = y) ∨ (lcm x y = -1 ∧ x < y) := by
  unfold lcm
  by_cases h : y < x
  · rw [if_pos h]; omega
  · rw [if_neg h]
    by_cases h2 : x = y
    · rw [if_pos h2]; omega
    · rw [if_neg h2]; omega
set_option maxRecDepth 20000 in
theorem c_J9_max_7cf53 (σ : ab_S) (x y : Int) (hx1 : -2147483648 ≤ x) (hx2 : x ≤ 2147483647) (hy1 : -2147483648 ≤ y) (hy2 : y ≤ 2147483647) : C2 YJ9_max_7cf53 0 σ [iv x, iv y] (PI fun σ' z => σ' = σ ∧ z = max x y) := by
  refine C2.ofF (by decide +kernel) (Nat.le_of_ble_eq_true rfl) ?_
  refine r_iload_n (Y := YJ9_max_7cf53) dJ9_max_7cf53_0 rfl ?_
  refine r_iload_n (Y := YJ9_max_7cf53) dJ9_max_7cf53_1 rfl ?_
  refine r_icmp_lt (Y := YJ9_max_7cf53) (tgt := 9) dJ9_max_7cf53_2 (by decide) (fun c2 => ?_) (fun c2 => ?_) 
  · refine r_iload_n (Y := YJ9_max_7cf53) dJ9_max_7cf53_9 rfl ?_
    refine r_ireturn (Y := YJ9_max_7cf53) dJ9_max_7cf53_10 ?_
    exact ⟨rfl, by omega⟩
  · refine r_iload_n (Y := YJ9_max_7cf53) dJ9_max_7cf53_5 rfl ?_
    refine r_goto (Y := YJ9_max_7cf53) (tgt := 10) dJ9_max_7cf53_6 (by decide) ?_
    refine r_ireturn (Y := YJ9_max_7cf53) dJ9_max_7cf53_10 ?_
    exact ⟨rfl, by omega⟩
set_option maxRecDepth 20000 in
theorem c_J9_min_7cf53 (σ : ab_S) (x y : Int) (hx1 : -2147483648 ≤ x) (hx2 : x ≤ 2147483647) (hy1 : -2147483648 ≤ y) (hy2 : y ≤ 2147483647) : C2 YJ9_min_7cf53 0 σ [iv x, iv y] (PI fun σ' z => σ' = σ ∧ z = min x y) := by
  refine C2.ofF (by decide +kernel) (Nat.le_of_ble_eq_true rfl) ?_
  refine r_iload_n (Y := YJ9_min_7cf53) dJ9_min_7cf53_0 rfl ?_
  refine r_iload_n (Y := YJ9_min_7cf53) dJ9_min_7cf53_1 rfl ?_
  refine r_icmp_gt (Y := YJ9_min_7cf53) (tgt := 9) dJ9_min_7cf53_2 (by decide) (fun c2 => ?_) (fun c2 => ?_) 
  · refine r_iload_n (Y := YJ9_min_7cf53) dJ9_min_7cf53_9 rfl ?_
    refine r_ireturn (Y := YJ9_min_7cf53) dJ9_min_7cf53_10 ?_
    exact ⟨rfl, by omega⟩
  · refine r_iload_n (Y := YJ9_min_7cf53) dJ9_min_7cf53_5 rfl ?_
    refine r_goto (Y := YJ9_min_7cf53) (tgt := 10) dJ9_min_7cf53_6 (by decide) ?_
    refine r_ireturn (Y := YJ9_min_7cf53) dJ9_min_7cf53_10 ?_
    exact ⟨rfl, by omega⟩
set_option maxRecDepth 20000 in
theorem c_X8_isIn (σ : ab_S) (v lo hi : Int) (h1 : -2147483648 ≤ v) (h2 : v ≤ 2147483647) (h3 : -2147483648 ≤ lo) (h4 : lo ≤ 2147483647) (h5 : -2147483648 ≤ hi) (h6 : hi ≤ 2147483647) : C2 YX8_isIn 0 σ [iv v, iv lo, iv hi] (PI fun σ' z => σ' = σ ∧ z = if lo ≤ v ∧ v ≤ hi then 1 else 0) := by
  refine C2.of (by decide +kernel) (Nat.le_of_ble_eq_true rfl) ?_
  refine r_iload_n (Y := YX8_isIn) dX8_isIn_0 rfl ?_
  refine r_iload_n (Y := YX8_isIn) dX8_isIn_1 rfl ?_
  refine r_icmp_lt (Y := YX8_isIn) (tgt := 14) dX8_isIn_2 (by decide) (fun c2 => ?_) (fun c2 => ?_) 
  · refine r_iconst (Y := YX8_isIn) dX8_isIn_14 ?_
    refine r_zreturn (Y := YX8_isIn) dX8_isIn_15 (by decide) ?_
    exact ⟨rfl, by first | rw [if_pos (by omega)] | rw [if_neg (by omega)]⟩
  · refine r_iload_n (Y := YX8_isIn) dX8_isIn_5 rfl ?_
    refine r_iload_n (Y := YX8_isIn) dX8_isIn_6 rfl ?_
    refine r_icmp_gt (Y := YX8_isIn) (tgt := 14) dX8_isIn_7 (by decide) (fun c7 => ?_) (fun c7 => ?_) 
    · refine r_iconst (Y := YX8_isIn) dX8_isIn_14 ?_
      refine r_zreturn (Y := YX8_isIn) dX8_isIn_15 (by decide) ?_
      exact ⟨rfl, by first | rw [if_pos (by omega)] | rw [if_neg (by omega)]⟩
    · refine r_iconst (Y := YX8_isIn) dX8_isIn_10 ?_
      refine r_goto (Y := YX8_isIn) (tgt := 15) dX8_isIn_11 (by decide) ?_
      refine r_zreturn (Y := YX8_isIn) dX8_isIn_15 (by decide) ?_
      exact ⟨rfl, by first | rw [if_pos (by omega)] | rw [if_neg (by omega)]⟩
/-- how many bits of 0..63 -/
def pc6 (x : Int) : Int := x % 2 + x / 2 % 2 + x / 4 % 2 + x / 8 % 2 + x / 16 % 2 + x / 32 % 2
/-- the least bit of 1..63 -/
def tz6 (x : Int) : Int := if x % 2 = 1 then 0 else if x / 2 % 2 = 1 then 1 else if x / 4 % 2 = 1 then 2 else if x / 8 % 2 = 1 then 3 else if x / 16 % 2 = 1 then 4 else 5
set_option maxRecDepth 20000 in
theorem c_J6_bitCount_0f7a4 (σ : ab_S) (x : Int) (h1 : 0 ≤ x) (h2 : x < 64) : C2 YJ6_bitCount_0f7a4 0 σ [iv x] (PI fun σ' z => σ' = σ ∧ z = pc6 x) := by
  refine C2.ofF (by decide +kernel) (Nat.le_of_ble_eq_true rfl) ?_
  refine r_iload_n (Y := YJ6_bitCount_0f7a4) dJ6_bitCount_0f7a4_0 rfl ?_
  refine r_iload_n (Y := YJ6_bitCount_0f7a4) dJ6_bitCount_0f7a4_1 rfl ?_
  refine r_iconst (Y := YJ6_bitCount_0f7a4) dJ6_bitCount_0f7a4_2 ?_
  refine r_iushr (Y := YJ6_bitCount_0f7a4) dJ6_bitCount_0f7a4_3 ?_
  refine r_ldcw (Y := YJ6_bitCount_0f7a4) (z := 1431655765) wc_J6_265 dJ6_bitCount_0f7a4_4 (by decide) ?_
  refine r_iand (Y := YJ6_bitCount_0f7a4) dJ6_bitCount_0f7a4_7 ?_
  refine r_isub (Y := YJ6_bitCount_0f7a4) dJ6_bitCount_0f7a4_8 ?_
  refine r_istore_n (Y := YJ6_bitCount_0f7a4) dJ6_bitCount_0f7a4_9 ?_
  refine r_iload_n (Y := YJ6_bitCount_0f7a4) dJ6_bitCount_0f7a4_10 rfl ?_
  refine r_ldcw (Y := YJ6_bitCount_0f7a4) (z := 858993459) wc_J6_266 dJ6_bitCount_0f7a4_11 (by decide) ?_
  refine r_iand (Y := YJ6_bitCount_0f7a4) dJ6_bitCount_0f7a4_14 ?_
  refine r_iload_n (Y := YJ6_bitCount_0f7a4) dJ6_bitCount_0f7a4_15 rfl ?_
  refine r_iconst (Y := YJ6_bitCount_0f7a4) dJ6_bitCount_0f7a4_16 ?_
  refine r_iushr (Y := YJ6_bitCount_0f7a4) dJ6_bitCount_0f7a4_17 ?_
  refine r_ldcw (Y := YJ6_bitCount_0f7a4) (z := 858993459) wc_J6_266 dJ6_bitCount_0f7a4_18 (by decide) ?_
  refine r_iand (Y := YJ6_bitCount_0f7a4) dJ6_bitCount_0f7a4_21 ?_
  refine r_iadd (Y := YJ6_bitCount_0f7a4) dJ6_bitCount_0f7a4_22 ?_
  refine r_istore_n (Y := YJ6_bitCount_0f7a4) dJ6_bitCount_0f7a4_23 ?_
  refine r_iload_n (Y := YJ6_bitCount_0f7a4) dJ6_bitCount_0f7a4_24 rfl ?_
  refine r_iload_n (Y := YJ6_bitCount_0f7a4) dJ6_bitCount_0f7a4_25 rfl ?_
  refine r_iconst (Y := YJ6_bitCount_0f7a4) dJ6_bitCount_0f7a4_26 ?_
  refine r_iushr (Y := YJ6_bitCount_0f7a4) dJ6_bitCount_0f7a4_27 ?_
  refine r_iadd (Y := YJ6_bitCount_0f7a4) dJ6_bitCount_0f7a4_28 ?_
  refine r_ldcw (Y := YJ6_bitCount_0f7a4) (z := 252645135) wc_J6_267 dJ6_bitCount_0f7a4_29 (by decide) ?_
  refine r_iand (Y := YJ6_bitCount_0f7a4) dJ6_bitCount_0f7a4_32 ?_
  refine r_istore_n (Y := YJ6_bitCount_0f7a4) dJ6_bitCount_0f7a4_33 ?_
  refine r_iload_n (Y := YJ6_bitCount_0f7a4) dJ6_bitCount_0f7a4_34 rfl ?_
  refine r_iload_n (Y := YJ6_bitCount_0f7a4) dJ6_bitCount_0f7a4_35 rfl ?_
  refine r_bipush (Y := YJ6_bitCount_0f7a4) dJ6_bitCount_0f7a4_36 ?_
  refine r_iushr (Y := YJ6_bitCount_0f7a4) dJ6_bitCount_0f7a4_38 ?_
  refine r_iadd (Y := YJ6_bitCount_0f7a4) dJ6_bitCount_0f7a4_39 ?_
  refine r_istore_n (Y := YJ6_bitCount_0f7a4) dJ6_bitCount_0f7a4_40 ?_
  refine r_iload_n (Y := YJ6_bitCount_0f7a4) dJ6_bitCount_0f7a4_41 rfl ?_
  refine r_iload_n (Y := YJ6_bitCount_0f7a4) dJ6_bitCount_0f7a4_42 rfl ?_
  refine r_bipush (Y := YJ6_bitCount_0f7a4) dJ6_bitCount_0f7a4_43 ?_
  refine r_iushr (Y := YJ6_bitCount_0f7a4) dJ6_bitCount_0f7a4_45 ?_
  refine r_iadd (Y := YJ6_bitCount_0f7a4) dJ6_bitCount_0f7a4_46 ?_
  refine r_istore_n (Y := YJ6_bitCount_0f7a4) dJ6_bitCount_0f7a4_47 ?_
  refine r_iload_n (Y := YJ6_bitCount_0f7a4) dJ6_bitCount_0f7a4_48 rfl ?_
  refine r_bipush (Y := YJ6_bitCount_0f7a4) dJ6_bitCount_0f7a4_49 ?_
  refine r_iand (Y := YJ6_bitCount_0f7a4) dJ6_bitCount_0f7a4_51 ?_
  refine r_ireturn (Y := YJ6_bitCount_0f7a4) dJ6_bitCount_0f7a4_52 ?_
  refine ⟨rfl, ?_⟩
  obtain ⟨n, hn, rfl⟩ : ∃ n : Nat, n < 64 ∧ x = (n : Int) := ⟨x.toNat, by omega, by omega⟩
  clear h1 h2
  revert n hn
  decide +kernel
theorem tz6_y : ∀ n : Nat, n < 64 → 1 ≤ n → (ban (bxo (n : Int) (-1)) ((n : Int) - 1) = 0 ∧ tz6 n = 0) ∨ (ban (bxo (n : Int) (-1)) ((n : Int) - 1) = 1 ∧ tz6 n = 1) ∨ (ban (bxo (n : Int) (-1)) ((n : Int) - 1) = 3 ∧ tz6 n = 2) ∨ (ban (bxo (n : Int) (-1)) ((n : Int) - 1) = 7 ∧ tz6 n = 3) ∨ (ban (bxo (n : Int) (-1)) ((n : Int) - 1) = 15 ∧ tz6 n = 4) ∨ (ban (bxo (n : Int) (-1)) ((n : Int) - 1) = 31 ∧ tz6 n = 5) := by decide +kernel
theorem bus_0 : bus 0 1 = 0 := by decide +kernel
theorem bus_1 : bus 1 1 = 0 := by decide +kernel
theorem bus_3 : bus 3 1 = 1 := by decide +kernel
theorem bus_7 : bus 7 2 = 1 := by decide +kernel
theorem bus_15 : bus 15 2 = 3 := by decide +kernel
theorem bus_31 : bus 31 4 = 1 := by decide +kernel
set_option maxRecDepth 20000 in
theorem c_J6_numberOfTrailingZeros_0f7a4 (σ : ab_S) (x : Int) (h1 : 1 ≤ x) (h2 : x < 64) : C2 YJ6_numberOfTrailingZeros_0f7a4 0 σ [iv x] (PI fun σ' z => σ' = σ ∧ z = tz6 x) := by
  refine C2.ofF (by decide +kernel) (Nat.le_of_ble_eq_true rfl) ?_
  refine r_iload_n (Y := YJ6_numberOfTrailingZeros_0f7a4) dJ6_numberOfTrailingZeros_0f7a4_0 rfl ?_
  refine r_iconst (Y := YJ6_numberOfTrailingZeros_0f7a4) dJ6_numberOfTrailingZeros_0f7a4_1 ?_
  refine r_ixor (Y := YJ6_numberOfTrailingZeros_0f7a4) dJ6_numberOfTrailingZeros_0f7a4_2 ?_
  refine r_iload_n (Y := YJ6_numberOfTrailingZeros_0f7a4) dJ6_numberOfTrailingZeros_0f7a4_3 rfl ?_
  refine r_iconst (Y := YJ6_numberOfTrailingZeros_0f7a4) dJ6_numberOfTrailingZeros_0f7a4_4 ?_
  refine r_isub (Y := YJ6_numberOfTrailingZeros_0f7a4) dJ6_numberOfTrailingZeros_0f7a4_5 ?_
  refine r_iand (Y := YJ6_numberOfTrailingZeros_0f7a4) dJ6_numberOfTrailingZeros_0f7a4_6 ?_
  refine r_istore_n (Y := YJ6_numberOfTrailingZeros_0f7a4) dJ6_numberOfTrailingZeros_0f7a4_7 ?_

  obtain ⟨n, hn, rfl⟩ : ∃ n : Nat, n < 64 ∧ x = (n : Int) := ⟨x.toNat, by omega, by omega⟩
  rcases tz6_y n hn (by omega) with ⟨e, e2⟩ | ⟨e, e2⟩ | ⟨e, e2⟩ | ⟨e, e2⟩ | ⟨e, e2⟩ | ⟨e, e2⟩ <;> rw [e, e2] <;> clear e e2
  · refine r_iload_n (Y := YJ6_numberOfTrailingZeros_0f7a4) dJ6_numberOfTrailingZeros_0f7a4_8 rfl ?_
    refine r_if_gt (Y := YJ6_numberOfTrailingZeros_0f7a4) (tgt := 17) dJ6_numberOfTrailingZeros_0f7a4_9 (by decide) (fun c9 => absurd c9 (by omega)) (fun c9 => ?_) 
    refine r_iload_n (Y := YJ6_numberOfTrailingZeros_0f7a4) dJ6_numberOfTrailingZeros_0f7a4_12 rfl ?_
    refine r_bipush (Y := YJ6_numberOfTrailingZeros_0f7a4) dJ6_numberOfTrailingZeros_0f7a4_13 ?_
    refine r_iand (Y := YJ6_numberOfTrailingZeros_0f7a4) dJ6_numberOfTrailingZeros_0f7a4_15 ?_
    refine r_ireturn (Y := YJ6_numberOfTrailingZeros_0f7a4) dJ6_numberOfTrailingZeros_0f7a4_16 ?_
    exact ⟨rfl, by decide +kernel⟩
  · refine r_iload_n (Y := YJ6_numberOfTrailingZeros_0f7a4) dJ6_numberOfTrailingZeros_0f7a4_8 rfl ?_
    refine r_if_gt (Y := YJ6_numberOfTrailingZeros_0f7a4) (tgt := 17) dJ6_numberOfTrailingZeros_0f7a4_9 (by decide) (fun c9 => ?_) (fun c9 => absurd c9 (by omega)) 
    refine r_iconst (Y := YJ6_numberOfTrailingZeros_0f7a4) dJ6_numberOfTrailingZeros_0f7a4_17 ?_
    refine r_istore_n (Y := YJ6_numberOfTrailingZeros_0f7a4) dJ6_numberOfTrailingZeros_0f7a4_18 ?_
    refine r_iload_n (Y := YJ6_numberOfTrailingZeros_0f7a4) dJ6_numberOfTrailingZeros_0f7a4_19 rfl ?_
    refine r_ldcw (Y := YJ6_numberOfTrailingZeros_0f7a4) (z := 65536) wc_J6_264 dJ6_numberOfTrailingZeros_0f7a4_20 (by decide) ?_
    refine r_icmp_le (Y := YJ6_numberOfTrailingZeros_0f7a4) (tgt := 34) dJ6_numberOfTrailingZeros_0f7a4_23 (by decide) (fun c23 => ?_) (fun c23 => absurd c23 (by omega)) 
    refine r_iload_n (Y := YJ6_numberOfTrailingZeros_0f7a4) dJ6_numberOfTrailingZeros_0f7a4_34 rfl ?_
    refine r_sipush (Y := YJ6_numberOfTrailingZeros_0f7a4) dJ6_numberOfTrailingZeros_0f7a4_35 ?_
    refine r_icmp_le (Y := YJ6_numberOfTrailingZeros_0f7a4) (tgt := 49) dJ6_numberOfTrailingZeros_0f7a4_38 (by decide) (fun c38 => ?_) (fun c38 => absurd c38 (by omega)) 
    refine r_iload_n (Y := YJ6_numberOfTrailingZeros_0f7a4) dJ6_numberOfTrailingZeros_0f7a4_49 rfl ?_
    refine r_bipush (Y := YJ6_numberOfTrailingZeros_0f7a4) dJ6_numberOfTrailingZeros_0f7a4_50 ?_
    refine r_icmp_le (Y := YJ6_numberOfTrailingZeros_0f7a4) (tgt := 62) dJ6_numberOfTrailingZeros_0f7a4_52 (by decide) (fun c52 => ?_) (fun c52 => absurd c52 (by omega)) 
    refine r_iload_n (Y := YJ6_numberOfTrailingZeros_0f7a4) dJ6_numberOfTrailingZeros_0f7a4_62 rfl ?_
    refine r_iconst (Y := YJ6_numberOfTrailingZeros_0f7a4) dJ6_numberOfTrailingZeros_0f7a4_63 ?_
    refine r_icmp_le (Y := YJ6_numberOfTrailingZeros_0f7a4) (tgt := 74) dJ6_numberOfTrailingZeros_0f7a4_64 (by decide) (fun c64 => ?_) (fun c64 => absurd c64 (by omega)) 
    refine r_iload_n (Y := YJ6_numberOfTrailingZeros_0f7a4) dJ6_numberOfTrailingZeros_0f7a4_74 rfl ?_
    refine r_iload_n (Y := YJ6_numberOfTrailingZeros_0f7a4) dJ6_numberOfTrailingZeros_0f7a4_75 rfl ?_
    refine r_iconst (Y := YJ6_numberOfTrailingZeros_0f7a4) dJ6_numberOfTrailingZeros_0f7a4_76 ?_
    refine r_iushr (Y := YJ6_numberOfTrailingZeros_0f7a4) dJ6_numberOfTrailingZeros_0f7a4_77 ?_
    refine r_iadd (Y := YJ6_numberOfTrailingZeros_0f7a4) dJ6_numberOfTrailingZeros_0f7a4_78 ?_
    refine r_ireturn (Y := YJ6_numberOfTrailingZeros_0f7a4) dJ6_numberOfTrailingZeros_0f7a4_79 ?_
    exact ⟨rfl, by decide +kernel⟩
  · refine r_iload_n (Y := YJ6_numberOfTrailingZeros_0f7a4) dJ6_numberOfTrailingZeros_0f7a4_8 rfl ?_
    refine r_if_gt (Y := YJ6_numberOfTrailingZeros_0f7a4) (tgt := 17) dJ6_numberOfTrailingZeros_0f7a4_9 (by decide) (fun c9 => ?_) (fun c9 => absurd c9 (by omega)) 
    refine r_iconst (Y := YJ6_numberOfTrailingZeros_0f7a4) dJ6_numberOfTrailingZeros_0f7a4_17 ?_
    refine r_istore_n (Y := YJ6_numberOfTrailingZeros_0f7a4) dJ6_numberOfTrailingZeros_0f7a4_18 ?_
    refine r_iload_n (Y := YJ6_numberOfTrailingZeros_0f7a4) dJ6_numberOfTrailingZeros_0f7a4_19 rfl ?_
    refine r_ldcw (Y := YJ6_numberOfTrailingZeros_0f7a4) (z := 65536) wc_J6_264 dJ6_numberOfTrailingZeros_0f7a4_20 (by decide) ?_
    refine r_icmp_le (Y := YJ6_numberOfTrailingZeros_0f7a4) (tgt := 34) dJ6_numberOfTrailingZeros_0f7a4_23 (by decide) (fun c23 => ?_) (fun c23 => absurd c23 (by omega)) 
    refine r_iload_n (Y := YJ6_numberOfTrailingZeros_0f7a4) dJ6_numberOfTrailingZeros_0f7a4_34 rfl ?_
    refine r_sipush (Y := YJ6_numberOfTrailingZeros_0f7a4) dJ6_numberOfTrailingZeros_0f7a4_35 ?_
    refine r_icmp_le (Y := YJ6_numberOfTrailingZeros_0f7a4) (tgt := 49) dJ6_numberOfTrailingZeros_0f7a4_38 (by decide) (fun c38 => ?_) (fun c38 => absurd c38 (by omega)) 
    refine r_iload_n (Y := YJ6_numberOfTrailingZeros_0f7a4) dJ6_numberOfTrailingZeros_0f7a4_49 rfl ?_
    refine r_bipush (Y := YJ6_numberOfTrailingZeros_0f7a4) dJ6_numberOfTrailingZeros_0f7a4_50 ?_
    refine r_icmp_le (Y := YJ6_numberOfTrailingZeros_0f7a4) (tgt := 62) dJ6_numberOfTrailingZeros_0f7a4_52 (by decide) (fun c52 => ?_) (fun c52 => absurd c52 (by omega)) 
    refine r_iload_n (Y := YJ6_numberOfTrailingZeros_0f7a4) dJ6_numberOfTrailingZeros_0f7a4_62 rfl ?_
    refine r_iconst (Y := YJ6_numberOfTrailingZeros_0f7a4) dJ6_numberOfTrailingZeros_0f7a4_63 ?_
    refine r_icmp_le (Y := YJ6_numberOfTrailingZeros_0f7a4) (tgt := 74) dJ6_numberOfTrailingZeros_0f7a4_64 (by decide) (fun c64 => ?_) (fun c64 => absurd c64 (by omega)) 
    refine r_iload_n (Y := YJ6_numberOfTrailingZeros_0f7a4) dJ6_numberOfTrailingZeros_0f7a4_74 rfl ?_
    refine r_iload_n (Y := YJ6_numberOfTrailingZeros_0f7a4) dJ6_numberOfTrailingZeros_0f7a4_75 rfl ?_
    refine r_iconst (Y := YJ6_numberOfTrailingZeros_0f7a4) dJ6_numberOfTrailingZeros_0f7a4_76 ?_
    refine r_iushr (Y := YJ6_numberOfTrailingZeros_0f7a4) dJ6_numberOfTrailingZeros_0f7a4_77 ?_
    refine r_iadd (Y := YJ6_numberOfTrailingZeros_0f7a4) dJ6_numberOfTrailingZeros_0f7a4_78 ?_
    refine r_ireturn (Y := YJ6_numberOfTrailingZeros_0f7a4) dJ6_numberOfTrailingZeros_0f7a4_79 ?_
    exact ⟨rfl, by decide +kernel⟩
  · refine r_iload_n (Y := YJ6_numberOfTrailingZeros_0f7a4) dJ6_numberOfTrailingZeros_0f7a4_8 rfl ?_
    refine r_if_gt (Y := YJ6_numberOfTrailingZeros_0f7a4) (tgt := 17) dJ6_numberOfTrailingZeros_0f7a4_9 (by decide) (fun c9 => ?_) (fun c9 => absurd c9 (by omega)) 
    refine r_iconst (Y := YJ6_numberOfTrailingZeros_0f7a4) dJ6_numberOfTrailingZeros_0f7a4_17 ?_
    refine r_istore_n (Y := YJ6_numberOfTrailingZeros_0f7a4) dJ6_numberOfTrailingZeros_0f7a4_18 ?_
    refine r_iload_n (Y := YJ6_numberOfTrailingZeros_0f7a4) dJ6_numberOfTrailingZeros_0f7a4_19 rfl ?_
    refine r_ldcw (Y := YJ6_numberOfTrailingZeros_0f7a4) (z := 65536) wc_J6_264 dJ6_numberOfTrailingZeros_0f7a4_20 (by decide) ?_
    refine r_icmp_le (Y := YJ6_numberOfTrailingZeros_0f7a4) (tgt := 34) dJ6_numberOfTrailingZeros_0f7a4_23 (by decide) (fun c23 => ?_) (fun c23 => absurd c23 (by omega)) 
    refine r_iload_n (Y := YJ6_numberOfTrailingZeros_0f7a4) dJ6_numberOfTrailingZeros_0f7a4_34 rfl ?_
    refine r_sipush (Y := YJ6_numberOfTrailingZeros_0f7a4) dJ6_numberOfTrailingZeros_0f7a4_35 ?_
    refine r_icmp_le (Y := YJ6_numberOfTrailingZeros_0f7a4) (tgt := 49) dJ6_numberOfTrailingZeros_0f7a4_38 (by decide) (fun c38 => ?_) (fun c38 => absurd c38 (by omega)) 
    refine r_iload_n (Y := YJ6_numberOfTrailingZeros_0f7a4) dJ6_numberOfTrailingZeros_0f7a4_49 rfl ?_
    refine r_bipush (Y := YJ6_numberOfTrailingZeros_0f7a4) dJ6_numberOfTrailingZeros_0f7a4_50 ?_
    refine r_icmp_le (Y := YJ6_numberOfTrailingZeros_0f7a4) (tgt := 62) dJ6_numberOfTrailingZeros_0f7a4_52 (by decide) (fun c52 => ?_) (fun c52 => absurd c52 (by omega)) 
    refine r_iload_n (Y := YJ6_numberOfTrailingZeros_0f7a4) dJ6_numberOfTrailingZeros_0f7a4_62 rfl ?_
    refine r_iconst (Y := YJ6_numberOfTrailingZeros_0f7a4) dJ6_numberOfTrailingZeros_0f7a4_63 ?_
    refine r_icmp_le (Y := YJ6_numberOfTrailingZeros_0f7a4) (tgt := 74) dJ6_numberOfTrailingZeros_0f7a4_64 (by decide) (fun c64 => absurd c64 (by omega)) (fun c64 => ?_) 
    refine r_iinc (Y := YJ6_numberOfTrailingZeros_0f7a4) dJ6_numberOfTrailingZeros_0f7a4_67 rfl ?_
    refine r_iload_n (Y := YJ6_numberOfTrailingZeros_0f7a4) dJ6_numberOfTrailingZeros_0f7a4_70 rfl ?_
    refine r_iconst (Y := YJ6_numberOfTrailingZeros_0f7a4) dJ6_numberOfTrailingZeros_0f7a4_71 ?_
    refine r_iushr (Y := YJ6_numberOfTrailingZeros_0f7a4) dJ6_numberOfTrailingZeros_0f7a4_72 ?_
    refine r_istore_n (Y := YJ6_numberOfTrailingZeros_0f7a4) dJ6_numberOfTrailingZeros_0f7a4_73 ?_
    refine r_iload_n (Y := YJ6_numberOfTrailingZeros_0f7a4) dJ6_numberOfTrailingZeros_0f7a4_74 rfl ?_
    refine r_iload_n (Y := YJ6_numberOfTrailingZeros_0f7a4) dJ6_numberOfTrailingZeros_0f7a4_75 rfl ?_
    refine r_iconst (Y := YJ6_numberOfTrailingZeros_0f7a4) dJ6_numberOfTrailingZeros_0f7a4_76 ?_
    refine r_iushr (Y := YJ6_numberOfTrailingZeros_0f7a4) dJ6_numberOfTrailingZeros_0f7a4_77 ?_
    refine r_iadd (Y := YJ6_numberOfTrailingZeros_0f7a4) dJ6_numberOfTrailingZeros_0f7a4_78 ?_
    refine r_ireturn (Y := YJ6_numberOfTrailingZeros_0f7a4) dJ6_numberOfTrailingZeros_0f7a4_79 ?_
    exact ⟨rfl, by decide +kernel⟩
  · refine r_iload_n (Y := YJ6_numberOfTrailingZeros_0f7a4) dJ6_numberOfTrailingZeros_0f7a4_8 rfl ?_
    refine r_if_gt (Y := YJ6_numberOfTrailingZeros_0f7a4) (tgt := 17) dJ6_numberOfTrailingZeros_0f7a4_9 (by decide) (fun c9 => ?_) (fun c9 => absurd c9 (by omega)) 
    refine r_iconst (Y := YJ6_numberOfTrailingZeros_0f7a4) dJ6_numberOfTrailingZeros_0f7a4_17 ?_
    refine r_istore_n (Y := YJ6_numberOfTrailingZeros_0f7a4) dJ6_numberOfTrailingZeros_0f7a4_18 ?_
    refine r_iload_n (Y := YJ6_numberOfTrailingZeros_0f7a4) dJ6_numberOfTrailingZeros_0f7a4_19 rfl ?_
    refine r_ldcw (Y := YJ6_numberOfTrailingZeros_0f7a4) (z := 65536) wc_J6_264 dJ6_numberOfTrailingZeros_0f7a4_20 (by decide) ?_
    refine r_icmp_le (Y := YJ6_numberOfTrailingZeros_0f7a4) (tgt := 34) dJ6_numberOfTrailingZeros_0f7a4_23 (by decide) (fun c23 => ?_) (fun c23 => absurd c23 (by omega)) 
    refine r_iload_n (Y := YJ6_numberOfTrailingZeros_0f7a4) dJ6_numberOfTrailingZeros_0f7a4_34 rfl ?_
    refine r_sipush (Y := YJ6_numberOfTrailingZeros_0f7a4) dJ6_numberOfTrailingZeros_0f7a4_35 ?_
    refine r_icmp_le (Y := YJ6_numberOfTrailingZeros_0f7a4) (tgt := 49) dJ6_numberOfTrailingZeros_0f7a4_38 (by decide) (fun c38 => ?_) (fun c38 => absurd c38 (by omega)) 
    refine r_iload_n (Y := YJ6_numberOfTrailingZeros_0f7a4) dJ6_numberOfTrailingZeros_0f7a4_49 rfl ?_
    refine r_bipush (Y := YJ6_numberOfTrailingZeros_0f7a4) dJ6_numberOfTrailingZeros_0f7a4_50 ?_
    refine r_icmp_le (Y := YJ6_numberOfTrailingZeros_0f7a4) (tgt := 62) dJ6_numberOfTrailingZeros_0f7a4_52 (by decide) (fun c52 => ?_) (fun c52 => absurd c52 (by omega)) 
    refine r_iload_n (Y := YJ6_numberOfTrailingZeros_0f7a4) dJ6_numberOfTrailingZeros_0f7a4_62 rfl ?_
    refine r_iconst (Y := YJ6_numberOfTrailingZeros_0f7a4) dJ6_numberOfTrailingZeros_0f7a4_63 ?_
    refine r_icmp_le (Y := YJ6_numberOfTrailingZeros_0f7a4) (tgt := 74) dJ6_numberOfTrailingZeros_0f7a4_64 (by decide) (fun c64 => absurd c64 (by omega)) (fun c64 => ?_) 
    refine r_iinc (Y := YJ6_numberOfTrailingZeros_0f7a4) dJ6_numberOfTrailingZeros_0f7a4_67 rfl ?_
    refine r_iload_n (Y := YJ6_numberOfTrailingZeros_0f7a4) dJ6_numberOfTrailingZeros_0f7a4_70 rfl ?_
    refine r_iconst (Y := YJ6_numberOfTrailingZeros_0f7a4) dJ6_numberOfTrailingZeros_0f7a4_71 ?_
    refine r_iushr (Y := YJ6_numberOfTrailingZeros_0f7a4) dJ6_numberOfTrailingZeros_0f7a4_72 ?_
    refine r_istore_n (Y := YJ6_numberOfTrailingZeros_0f7a4) dJ6_numberOfTrailingZeros_0f7a4_73 ?_
    refine r_iload_n (Y := YJ6_numberOfTrailingZeros_0f7a4) dJ6_numberOfTrailingZeros_0f7a4_74 rfl ?_
    refine r_iload_n (Y := YJ6_numberOfTrailingZeros_0f7a4) dJ6_numberOfTrailingZeros_0f7a4_75 rfl ?_
    refine r_iconst (Y := YJ6_numberOfTrailingZeros_0f7a4) dJ6_numberOfTrailingZeros_0f7a4_76 ?_
    refine r_iushr (Y := YJ6_numberOfTrailingZeros_0f7a4) dJ6_numberOfTrailingZeros_0f7a4_77 ?_
    refine r_iadd (Y := YJ6_numberOfTrailingZeros_0f7a4) dJ6_numberOfTrailingZeros_0f7a4_78 ?_
    refine r_ireturn (Y := YJ6_numberOfTrailingZeros_0f7a4) dJ6_numberOfTrailingZeros_0f7a4_79 ?_
    exact ⟨rfl, by decide +kernel⟩
  · refine r_iload_n (Y := YJ6_numberOfTrailingZeros_0f7a4) dJ6_numberOfTrailingZeros_0f7a4_8 rfl ?_
    refine r_if_gt (Y := YJ6_numberOfTrailingZeros_0f7a4) (tgt := 17) dJ6_numberOfTrailingZeros_0f7a4_9 (by decide) (fun c9 => ?_) (fun c9 => absurd c9 (by omega)) 
    refine r_iconst (Y := YJ6_numberOfTrailingZeros_0f7a4) dJ6_numberOfTrailingZeros_0f7a4_17 ?_
    refine r_istore_n (Y := YJ6_numberOfTrailingZeros_0f7a4) dJ6_numberOfTrailingZeros_0f7a4_18 ?_
    refine r_iload_n (Y := YJ6_numberOfTrailingZeros_0f7a4) dJ6_numberOfTrailingZeros_0f7a4_19 rfl ?_
    refine r_ldcw (Y := YJ6_numberOfTrailingZeros_0f7a4) (z := 65536) wc_J6_264 dJ6_numberOfTrailingZeros_0f7a4_20 (by decide) ?_
    refine r_icmp_le (Y := YJ6_numberOfTrailingZeros_0f7a4) (tgt := 34) dJ6_numberOfTrailingZeros_0f7a4_23 (by decide) (fun c23 => ?_) (fun c23 => absurd c23 (by omega)) 
    refine r_iload_n (Y := YJ6_numberOfTrailingZeros_0f7a4) dJ6_numberOfTrailingZeros_0f7a4_34 rfl ?_
    refine r_sipush (Y := YJ6_numberOfTrailingZeros_0f7a4) dJ6_numberOfTrailingZeros_0f7a4_35 ?_
    refine r_icmp_le (Y := YJ6_numberOfTrailingZeros_0f7a4) (tgt := 49) dJ6_numberOfTrailingZeros_0f7a4_38 (by decide) (fun c38 => ?_) (fun c38 => absurd c38 (by omega)) 
    refine r_iload_n (Y := YJ6_numberOfTrailingZeros_0f7a4) dJ6_numberOfTrailingZeros_0f7a4_49 rfl ?_
    refine r_bipush (Y := YJ6_numberOfTrailingZeros_0f7a4) dJ6_numberOfTrailingZeros_0f7a4_50 ?_
    refine r_icmp_le (Y := YJ6_numberOfTrailingZeros_0f7a4) (tgt := 62) dJ6_numberOfTrailingZeros_0f7a4_52 (by decide) (fun c52 => absurd c52 (by omega)) (fun c52 => ?_) 
    refine r_iinc (Y := YJ6_numberOfTrailingZeros_0f7a4) dJ6_numberOfTrailingZeros_0f7a4_55 rfl ?_
    refine r_iload_n (Y := YJ6_numberOfTrailingZeros_0f7a4) dJ6_numberOfTrailingZeros_0f7a4_58 rfl ?_
    refine r_iconst (Y := YJ6_numberOfTrailingZeros_0f7a4) dJ6_numberOfTrailingZeros_0f7a4_59 ?_
    refine r_iushr (Y := YJ6_numberOfTrailingZeros_0f7a4) dJ6_numberOfTrailingZeros_0f7a4_60 ?_
    refine r_istore_n (Y := YJ6_numberOfTrailingZeros_0f7a4) dJ6_numberOfTrailingZeros_0f7a4_61 ?_
    rw [bus_31]
    refine r_iload_n (Y := YJ6_numberOfTrailingZeros_0f7a4) dJ6_numberOfTrailingZeros_0f7a4_62 rfl ?_
    refine r_iconst (Y := YJ6_numberOfTrailingZeros_0f7a4) dJ6_numberOfTrailingZeros_0f7a4_63 ?_
    refine r_icmp_le (Y := YJ6_numberOfTrailingZeros_0f7a4) (tgt := 74) dJ6_numberOfTrailingZeros_0f7a4_64 (by decide) (fun c64 => ?_) (fun c64 => absurd c64 (by omega)) 
    refine r_iload_n (Y := YJ6_numberOfTrailingZeros_0f7a4) dJ6_numberOfTrailingZeros_0f7a4_74 rfl ?_
    refine r_iload_n (Y := YJ6_numberOfTrailingZeros_0f7a4) dJ6_numberOfTrailingZeros_0f7a4_75 rfl ?_
    refine r_iconst (Y := YJ6_numberOfTrailingZeros_0f7a4) dJ6_numberOfTrailingZeros_0f7a4_76 ?_
    refine r_iushr (Y := YJ6_numberOfTrailingZeros_0f7a4) dJ6_numberOfTrailingZeros_0f7a4_77 ?_
    refine r_iadd (Y := YJ6_numberOfTrailingZeros_0f7a4) dJ6_numberOfTrailingZeros_0f7a4_78 ?_
    refine r_ireturn (Y := YJ6_numberOfTrailingZeros_0f7a4) dJ6_numberOfTrailingZeros_0f7a4_79 ?_
    exact ⟨rfl, by decide +kernel⟩
set_option maxRecDepth 20000 in
theorem c_X9_in (σ : ab_S) (v lo hi : Int) (h1 : -9223372036854775808 ≤ v) (h2 : v ≤ 9223372036854775807) (h3 : -9223372036854775808 ≤ lo) (h4 : lo ≤ 9223372036854775807) (h5 : -9223372036854775808 ≤ hi) (h6 : hi ≤ 9223372036854775807) : C2 YX9_in 0 σ [lgv v, lgv lo, lgv hi] (PI fun σ' z => σ' = σ ∧ z = if lo ≤ v ∧ v ≤ hi then 1 else 0) := by
  refine C2.of (by decide +kernel) (Nat.le_of_ble_eq_true rfl) ?_
  refine r_lload_n (Y := YX9_in) dX9_in_0 rfl ?_
  refine r_lload_n (Y := YX9_in) dX9_in_1 rfl ?_
  refine r_lcmp (Y := YX9_in) dX9_in_2 ?_
  have hl := lcm_cases v lo
  refine r_if_lt (Y := YX9_in) (tgt := 17) dX9_in_3 (by decide) (fun c3 => ?_) (fun c3 => ?_) 
  · refine r_iconst (Y := YX9_in) dX9_in_17 ?_
    refine r_zreturn (Y := YX9_in) dX9_in_18 (by decide) ?_
    exact ⟨rfl, by first | rw [if_pos (by omega)] | rw [if_neg (by omega)]⟩
  · refine r_lload_n (Y := YX9_in) dX9_in_6 rfl ?_
    refine r_lload (Y := YX9_in) dX9_in_7 rfl ?_
    refine r_lcmp (Y := YX9_in) dX9_in_9 ?_
    have hl2 := lcm_cases v hi
    refine r_if_gt (Y := YX9_in) (tgt := 17) dX9_in_10 (by decide) (fun c10 => ?_) (fun c10 => ?_) 
    · refine r_iconst (Y := YX9_in) dX9_in_17 ?_
      refine r_zreturn (Y := YX9_in) dX9_in_18 (by decide) ?_
      exact ⟨rfl, by first | rw [if_pos (by omega)] | rw [if_neg (by omega)]⟩
    · refine r_iconst (Y := YX9_in) dX9_in_13 ?_
      refine r_goto (Y := YX9_in) (tgt := 18) dX9_in_14 (by decide) ?_
      refine r_zreturn (Y := YX9_in) dX9_in_18 (by decide) ?_
      exact ⟨rfl, by first | rw [if_pos (by omega)] | rw [if_neg (by omega)]⟩
set_option maxRecDepth 20000 in
theorem c_X9_isMonk (σ : ab_S) (x : Int) (h1 : -2147483648 ≤ x) (h2 : x ≤ 2147483647) : C2 YX9_isMonk 1 σ [iv x] (PI fun σ' z => σ' = σ ∧ z = if 0 ≤ x ∧ x ≤ 5 then 1 else 0) := by
  refine C2.of (by decide +kernel) (Nat.le_of_ble_eq_true rfl) ?_
  refine r_iload_n (Y := YX9_isMonk) dX9_isMonk_0 rfl ?_
  refine r_i2l (Y := YX9_isMonk) dX9_isMonk_1 ?_
  refine r_lconst (Y := YX9_isMonk) (v := 0) dX9_isMonk_2 rfl ?_
  refine r_ldc2 (Y := YX9_isMonk) (z := 5) wc_X9_93 dX9_isMonk_3 (by decide) ?_
  refine r_iS3I (Y := YX9_isMonk) ms_X9_95 dX9_isMonk_6 (c_X9_in _ _ _ _ (by omega) (by omega) (by omega) (by omega) (by omega) (by omega)) (fun σ6 z6 h6 => ?_)
  obtain ⟨rfl, rfl⟩ := h6
  refine r_zreturn (Y := YX9_isMonk) dX9_isMonk_9 (by by_cases h : 0 ≤ x ∧ x ≤ 5 <;> simp [h]) ?_
  exact ⟨rfl, rfl⟩
set_option maxRecDepth 20000 in
theorem c_X9_isRope (σ : ab_S) (x : Int) (h1 : -2147483648 ≤ x) (h2 : x ≤ 2147483647) : C2 YX9_isRope 1 σ [iv x] (PI fun σ' z => σ' = σ ∧ z = if 0 ≤ x ∧ x ≤ 3 then 1 else 0) := by
  refine C2.of (by decide +kernel) (Nat.le_of_ble_eq_true rfl) ?_
  refine r_iload_n (Y := YX9_isRope) dX9_isRope_0 rfl ?_
  refine r_i2l (Y := YX9_isRope) dX9_isRope_1 ?_
  refine r_lconst (Y := YX9_isRope) (v := 0) dX9_isRope_2 rfl ?_
  refine r_ldc2 (Y := YX9_isRope) (z := 3) wc_X9_99 dX9_isRope_3 (by decide) ?_
  refine r_iS3I (Y := YX9_isRope) ms_X9_95 dX9_isRope_6 (c_X9_in _ _ _ _ (by omega) (by omega) (by omega) (by omega) (by omega) (by omega)) (fun σ6 z6 h6 => ?_)
  obtain ⟨rfl, rfl⟩ := h6
  refine r_zreturn (Y := YX9_isRope) dX9_isRope_9 (by by_cases h : 0 ≤ x ∧ x ≤ 3 <;> simp [h]) ?_
  exact ⟨rfl, rfl⟩
theorem ones_y : ∀ n : Nat, n < 64 → 1 ≤ n → 0 ≤ ban (n : Int) ((n : Int) - 1) ∧ ban (n : Int) ((n : Int) - 1) < n ∧ pc6 n = 1 + pc6 (ban (n : Int) ((n : Int) - 1)) := by decide +kernel
set_option maxRecDepth 20000 in
theorem c_X9_ones (σ : ab_S) (x : Int) (h1 : 0 ≤ x) (h2 : x < 64) : C2 YX9_ones 0 σ [iv x] (PI fun σ' z => σ' = σ ∧ z = pc6 x) := by
  refine C2.of (by decide +kernel) (Nat.le_of_ble_eq_true rfl) ?_
  refine r_iconst (Y := YX9_ones) dX9_ones_0 ?_
  refine r_istore_n (Y := YX9_ones) dX9_ones_1 ?_
  refine r_iload_n (Y := YX9_ones) dX9_ones_2 rfl ?_
  refine r_istore_n (Y := YX9_ones) dX9_ones_3 ?_
  suffices hloop : ∀ (k : Nat) (y c : Int), 0 ≤ y → y < 64 → y < k → c + pc6 y = pc6 x → R2 YX9_ones 0 σ 4 [some (iv x), some (iv c), some (iv y)] [] (PI fun σ' z => σ' = σ ∧ z = pc6 x) from
    R2.weak (by repeat first | exact trivial | refine And.intro rfl ?_) (hloop 64 x 0 h1 h2 (by omega) (by omega))
  intro k
  induction k with
  | zero => intro y c a1 a2 a3; omega
  | succ k ih =>
    intro y c a1 a2 a3 a4
    refine r_iload_n (Y := YX9_ones) dX9_ones_4 rfl ?_
    refine r_if_eq (Y := YX9_ones) (tgt := 20) dX9_ones_5 (by decide) (fun c5 => ?_) (fun c5 => ?_) 
    · refine r_iload_n (Y := YX9_ones) dX9_ones_20 rfl ?_
      refine r_ireturn (Y := YX9_ones) dX9_ones_21 ?_
      refine ⟨rfl, ?_⟩
      subst c5
      have : pc6 0 = 0 := by decide
      omega
    · refine r_iinc (Y := YX9_ones) dX9_ones_8 rfl ?_
      refine r_iload_n (Y := YX9_ones) dX9_ones_11 rfl ?_
      refine r_iload_n (Y := YX9_ones) dX9_ones_12 rfl ?_
      refine r_iconst (Y := YX9_ones) dX9_ones_13 ?_
      refine r_isub (Y := YX9_ones) dX9_ones_14 ?_
      refine r_iand (Y := YX9_ones) dX9_ones_15 ?_
      refine r_istore_n (Y := YX9_ones) dX9_ones_16 ?_
      refine r_goto (Y := YX9_ones) (tgt := 4) dX9_ones_17 (by decide) ?_
      have h9 := ones_y y.toNat (by omega) (by omega)
      rw [show ((y.toNat : Nat) : Int) = y by omega] at h9
      exact R2.weak (by repeat first | exact trivial | refine And.intro rfl ?_) (ih _ _ (by omega) (by omega) (by omega) (by omega))
theorem gcd_half {u l n : Nat} (h0 : 0 < l) (h1 : l ≤ u) (h2 : u * l < 2 ^ (n + 1)) : l * (u % l) < 2 ^ n := by
  have a1 : u % l < l := Nat.mod_lt _ h0
  have a2 : l * (u / l) + u % l = u := Nat.div_add_mod u l
  have a3 : 1 ≤ u / l := (Nat.one_le_div_iff h0).mpr h1
  have a4 : l * 1 ≤ l * (u / l) := Nat.mul_le_mul_left l a3
  have a5 : 2 * (u % l) ≤ u := by omega
  have a6 : l * (2 * (u % l)) ≤ l * u := Nat.mul_le_mul_left l a5
  have a7 : l * (2 * (u % l)) = 2 * (l * (u % l)) := by rw [Nat.mul_left_comm]
  have a8 : l * u = u * l := Nat.mul_comm l u
  rw [Nat.pow_succ] at h2
  omega
theorem prod_bd {a b : Nat} (h2 : a ≤ 30000) (h1 : b ≤ a) : a * b < 2 ^ 30 := by
  have h3 : a * b ≤ 30000 * 30000 := Nat.mul_le_mul h2 (by omega)
  omega
set_option maxRecDepth 20000 in
theorem c_X8_commonDivisor (σ : ab_S) (u0 l0 : Nat) (h0 : 0 < u0) (h1 : l0 ≤ u0) (h2 : u0 ≤ 30000) : C2 YX8_commonDivisor 1 σ [iv u0, iv l0] (PI fun σ' z => σ' = σ ∧ z = (Nat.gcd u0 l0 : Nat)) := by
  refine C2.of (by decide +kernel) (Nat.le_of_ble_eq_true rfl) ?_
  refine r_iload_n (Y := YX8_commonDivisor) dX8_commonDivisor_0 rfl ?_
  refine r_istore_n (Y := YX8_commonDivisor) dX8_commonDivisor_1 ?_
  refine r_iload_n (Y := YX8_commonDivisor) dX8_commonDivisor_2 rfl ?_
  refine r_istore_n (Y := YX8_commonDivisor) dX8_commonDivisor_3 ?_
  refine r_iconst (Y := YX8_commonDivisor) dX8_commonDivisor_4 ?_
  refine r_istore (Y := YX8_commonDivisor) dX8_commonDivisor_5 ?_
  suffices hloop : ∀ (k n s u l : Nat), s + n ≤ 60 → n ≤ k → u ≤ 30000 → l ≤ u → 0 < u → u * l < 2 ^ n → Nat.gcd u l = Nat.gcd u0 l0 → R2 YX8_commonDivisor 1 σ 7 [some (iv u0), some (iv l0), some (iv u), some (iv l), some (iv s), none] [] (PI fun σ' z => σ' = σ ∧ z = (Nat.gcd u0 l0 : Nat)) from
    R2.weak (by repeat first | exact trivial | refine And.intro rfl ?_) (hloop 30 30 0 u0 l0 (by omega) (by omega) h2 h1 h0 (prod_bd h2 h1) rfl)
  intro k
  induction k with
  | zero =>
    intro n s u l b1 b2 b3 b4 b5 b6 b7
    have hn : n = 0 := by omega
    subst hn
    have hl : l = 0 := by
      rcases Nat.eq_zero_or_pos l with h | h
      · exact h
      · have : 0 < u * l := Nat.mul_pos b5 h
        omega
    subst hl
    have hg : u = Nat.gcd u0 l0 := by rw [← b7, Nat.gcd_zero_right]
    refine r_iload (Y := YX8_commonDivisor) dX8_commonDivisor_7 rfl ?_
    refine r_bipush (Y := YX8_commonDivisor) dX8_commonDivisor_9 ?_
    refine r_icmp_ge (Y := YX8_commonDivisor) (tgt := 34) dX8_commonDivisor_11 (by decide) (fun c11 => absurd c11 (by omega)) (fun c11 => ?_) 
    refine r_iload_n (Y := YX8_commonDivisor) dX8_commonDivisor_14 rfl ?_
    refine r_if_eq (Y := YX8_commonDivisor) (tgt := 34) dX8_commonDivisor_15 (by decide) (fun c15 => ?_) (fun c15 => absurd c15 (by omega)) 
    refine r_iconst (Y := YX8_commonDivisor) dX8_commonDivisor_34 ?_
    refine r_iload_n (Y := YX8_commonDivisor) dX8_commonDivisor_35 rfl ?_
    refine r_iS2I (Y := YX8_commonDivisor) ms_X8_232 dX8_commonDivisor_36 (c_J9_max_7cf53 _ _ _ (by omega) (by omega) (by omega) (by omega)) (fun σ36 z36 h36 => ?_)
    obtain ⟨rfl, rfl⟩ := h36
    refine r_ireturn (Y := YX8_commonDivisor) dX8_commonDivisor_39 ?_
    exact ⟨rfl, by omega⟩
  | succ k ih =>
    intro n s u l b1 b2 b3 b4 b5 b6 b7
    refine r_iload (Y := YX8_commonDivisor) dX8_commonDivisor_7 rfl ?_
    refine r_bipush (Y := YX8_commonDivisor) dX8_commonDivisor_9 ?_
    refine r_icmp_ge (Y := YX8_commonDivisor) (tgt := 34) dX8_commonDivisor_11 (by decide) (fun c11 => absurd c11 (by omega)) (fun c11 => ?_) 
    refine r_iload_n (Y := YX8_commonDivisor) dX8_commonDivisor_14 rfl ?_
    refine r_if_eq (Y := YX8_commonDivisor) (tgt := 34) dX8_commonDivisor_15 (by decide) (fun c15 => ?_) (fun c15 => ?_) 
    · have hl : l = 0 := by omega
      subst hl
      have hg : u = Nat.gcd u0 l0 := by rw [← b7, Nat.gcd_zero_right]
      refine r_iconst (Y := YX8_commonDivisor) dX8_commonDivisor_34 ?_
      refine r_iload_n (Y := YX8_commonDivisor) dX8_commonDivisor_35 rfl ?_
      refine r_iS2I (Y := YX8_commonDivisor) ms_X8_232 dX8_commonDivisor_36 (c_J9_max_7cf53 _ _ _ (by omega) (by omega) (by omega) (by omega)) (fun σ36 z36 h36 => ?_)
      obtain ⟨rfl, rfl⟩ := h36
      refine r_ireturn (Y := YX8_commonDivisor) dX8_commonDivisor_39 ?_
      exact ⟨rfl, by omega⟩
    · have hl0 : 0 < l := by omega
      refine r_iload_n (Y := YX8_commonDivisor) dX8_commonDivisor_18 rfl ?_
      refine r_iload_n (Y := YX8_commonDivisor) dX8_commonDivisor_19 rfl ?_
      refine r_irem (Y := YX8_commonDivisor) dX8_commonDivisor_20 ?_
      refine r_istore (Y := YX8_commonDivisor) dX8_commonDivisor_21 ?_
      refine r_iload_n (Y := YX8_commonDivisor) dX8_commonDivisor_23 rfl ?_
      refine r_istore_n (Y := YX8_commonDivisor) dX8_commonDivisor_24 ?_
      refine r_iload (Y := YX8_commonDivisor) dX8_commonDivisor_25 rfl ?_
      refine r_istore_n (Y := YX8_commonDivisor) dX8_commonDivisor_27 ?_
      refine r_iinc (Y := YX8_commonDivisor) dX8_commonDivisor_28 rfl ?_
      refine r_goto (Y := YX8_commonDivisor) (tgt := 7) dX8_commonDivisor_31 (by decide) ?_
      have e9 : (u : Int).tmod (l : Int) = ((u % l : Nat) : Int) := by rw [Int.tmod_eq_emod_of_nonneg (by omega)]; rfl
      rw [e9]
      have hml : u % l < l := Nat.mod_lt _ hl0
      obtain ⟨n2, rfl⟩ : ∃ n2, n = n2 + 1 := by
        cases n with
        | zero => have : 0 < u * l := Nat.mul_pos b5 hl0
                  omega
        | succ n => exact ⟨n, rfl⟩
      exact R2.weak (by repeat first | exact trivial | refine And.intro rfl ?_) (ih n2 (s + 1) l (u % l) (by omega) (by omega) (by omega) (by omega) hl0 (gcd_half hl0 b4 b6) (by rw [← b7, Nat.gcd_comm l (u % l), ← Nat.gcd_rec, Nat.gcd_comm]))
/-- how many of the first n are as strong as w; the greatest load -/
def cge (P : Int → Int) (w : Int) : Nat → Int
  | 0 => 0
  | n + 1 => cge P w n + if w ≤ P (n : Int) then 1 else 0
def glr (P : Int → Int) : Nat → Int
  | 0 => 0
  | n + 1 => max (glr P n) (cge P (P (n : Int)) 4 * P (n : Int))
def gl (P : Int → Int) : Int := glr P 4
theorem cge_bd (P : Int → Int) (w : Int) : ∀ n : Nat, 0 ≤ cge P w n ∧ cge P w n ≤ n
  | 0 => by simp [cge]
  | n + 1 => by
    have := cge_bd P w n
    show 0 ≤ cge P w n + (if w ≤ P (n : Int) then 1 else 0) ∧ cge P w n + (if w ≤ P (n : Int) then 1 else 0) ≤ ((n + 1 : Nat) : Int)
    split <;> omega
theorem mul_bd {h w H V : Int} (h1 : 0 ≤ h) (h2 : h ≤ H) (h3 : 0 ≤ w) (h4 : w ≤ V) : 0 ≤ h * w ∧ h * w ≤ H * V :=
  ⟨Int.mul_nonneg h1 h3, Int.mul_le_mul h2 h4 h3 (by omega)⟩
theorem glr_bd {P : Int → Int} (hp : ∀ i : Int, 0 ≤ i → i < 4 → 0 ≤ P i ∧ P i ≤ 100000) : ∀ n : Nat, n ≤ 4 → 0 ≤ glr P n ∧ glr P n ≤ 400000
  | 0, _ => by simp [glr]
  | n + 1, hn => by
    have h1 := glr_bd hp n (by omega)
    have h2 := hp n (by omega) (by omega)
    have h3 := cge_bd P (P n) 4
    have h4 := mul_bd h3.1 h3.2 h2.1 h2.2
    show 0 ≤ max (glr P n) (cge P (P (n : Int)) 4 * P (n : Int)) ∧ max (glr P n) (cge P (P (n : Int)) 4 * P (n : Int)) ≤ 400000
    omega
set_option maxRecDepth 20000 in
theorem c_X8_greatestLoad (σ : ab_S) (a : Int) (ha : kd_ a 10 4) (hp : ∀ i : Int, 0 ≤ i → i < 4 → 0 ≤ σ a i ∧ σ a i ≤ 100000) : C2 YX8_greatestLoad 1 σ [rf a] (PI fun σ' z => σ' = σ ∧ z = gl (σ a)) := by
  refine C2.of (by decide +kernel) (Nat.le_of_ble_eq_true rfl) ?_
  refine r_iconst (Y := YX8_greatestLoad) dX8_greatestLoad_0 ?_
  refine r_istore_n (Y := YX8_greatestLoad) dX8_greatestLoad_1 ?_
  refine r_aload_n (Y := YX8_greatestLoad) dX8_greatestLoad_2 rfl ?_
  refine r_astore_n (Y := YX8_greatestLoad) dX8_greatestLoad_3 ?_
  refine r_aload_n (Y := YX8_greatestLoad) dX8_greatestLoad_4 rfl ?_
  refine r_alen (Y := YX8_greatestLoad) dX8_greatestLoad_5 rfl ?_
  refine r_istore_n (Y := YX8_greatestLoad) dX8_greatestLoad_6 ?_
  refine r_iconst (Y := YX8_greatestLoad) dX8_greatestLoad_7 ?_
  refine r_istore (Y := YX8_greatestLoad) dX8_greatestLoad_8 ?_
  suffices hloop : ∀ (k i : Nat) (g : Int), i + k = 4 → g = glr (σ a) i → R2 YX8_greatestLoad 1 σ 10 [some (rf a), some (iv g), some (rf a), some (iv 4), some (iv i), none, none, none, none, none, none] [] (PI fun σ' z => σ' = σ ∧ z = gl (σ a)) from
    R2.weak (by repeat first | exact trivial | refine And.intro rfl ?_) (hloop 4 0 0 rfl rfl)
  intro k
  induction k with
  | zero =>
    intro i g e1 e2
    have hi : i = 4 := by omega
    subst hi
    refine r_iload (Y := YX8_greatestLoad) dX8_greatestLoad_10 rfl ?_
    refine r_iload_n (Y := YX8_greatestLoad) dX8_greatestLoad_12 rfl ?_
    refine r_icmp_ge (Y := YX8_greatestLoad) (tgt := 82) dX8_greatestLoad_13 (by decide) (fun c13 => ?_) (fun c13 => absurd c13 (by omega)) 
    refine r_iload_n (Y := YX8_greatestLoad) dX8_greatestLoad_82 rfl ?_
    refine r_ireturn (Y := YX8_greatestLoad) dX8_greatestLoad_83 ?_
    exact ⟨rfl, e2⟩
  | succ k ih =>
    intro i g e1 e2
    have hgb := glr_bd hp i (by omega)
    have hpi := hp i (by omega) (by omega)
    refine r_iload (Y := YX8_greatestLoad) dX8_greatestLoad_10 rfl ?_
    refine r_iload_n (Y := YX8_greatestLoad) dX8_greatestLoad_12 rfl ?_
    refine r_icmp_ge (Y := YX8_greatestLoad) (tgt := 82) dX8_greatestLoad_13 (by decide) (fun c13 => absurd c13 (by omega)) (fun c13 => ?_) 
    refine r_aload_n (Y := YX8_greatestLoad) dX8_greatestLoad_16 rfl ?_
    refine r_iload (Y := YX8_greatestLoad) dX8_greatestLoad_17 rfl ?_
    refine r_iaload (Y := YX8_greatestLoad) dX8_greatestLoad_19 ?_
    refine r_istore (Y := YX8_greatestLoad) dX8_greatestLoad_20 ?_
    refine r_iconst (Y := YX8_greatestLoad) dX8_greatestLoad_22 ?_
    refine r_istore (Y := YX8_greatestLoad) dX8_greatestLoad_23 ?_
    refine r_aload_n (Y := YX8_greatestLoad) dX8_greatestLoad_25 rfl ?_
    refine r_astore (Y := YX8_greatestLoad) dX8_greatestLoad_26 ?_
    refine r_aload (Y := YX8_greatestLoad) dX8_greatestLoad_28 rfl ?_
    refine r_alen (Y := YX8_greatestLoad) dX8_greatestLoad_30 rfl ?_
    refine r_istore (Y := YX8_greatestLoad) dX8_greatestLoad_31 ?_
    refine r_iconst (Y := YX8_greatestLoad) dX8_greatestLoad_33 ?_
    refine r_istore (Y := YX8_greatestLoad) dX8_greatestLoad_34 ?_
    suffices hin : ∀ (k2 j : Nat) (h : Int), j + k2 = 4 → h = cge (σ a) (σ a i) j → R2 YX8_greatestLoad 1 σ 36 [some (rf a), some (iv g), some (rf a), some (iv 4), some (iv i), some (iv (σ a i)), some (iv h), some (rf a), some (iv 4), some (iv j), none] [] (PI fun σ' z => σ' = σ ∧ z = gl (σ a)) from
      R2.weak (by repeat first | exact trivial | refine And.intro rfl ?_) (hin 4 0 0 rfl rfl)
    intro k2
    induction k2 with
    | zero =>
      intro j h e3 e4
      have hj : j = 4 := by omega
      subst hj
      have hcb := cge_bd (σ a) (σ a i) 4
      rw [← e4] at hcb
      have hmb := mul_bd hcb.1 hcb.2 hpi.1 hpi.2
      refine r_iload (Y := YX8_greatestLoad) dX8_greatestLoad_36 rfl ?_
      refine r_iload (Y := YX8_greatestLoad) dX8_greatestLoad_38 rfl ?_
      refine r_icmp_ge (Y := YX8_greatestLoad) (tgt := 66) dX8_greatestLoad_40 (by decide) (fun c40 => ?_) (fun c40 => absurd c40 (by omega)) 
      refine r_iload_n (Y := YX8_greatestLoad) dX8_greatestLoad_66 rfl ?_
      refine r_iload (Y := YX8_greatestLoad) dX8_greatestLoad_67 rfl ?_
      refine r_iload (Y := YX8_greatestLoad) dX8_greatestLoad_69 rfl ?_
      refine r_imul (Y := YX8_greatestLoad) dX8_greatestLoad_71 ?_
      refine r_iS2I (Y := YX8_greatestLoad) ms_X8_232 dX8_greatestLoad_72 (c_J9_max_7cf53 _ _ _ (by omega) (by omega) (by omega) (by omega)) (fun σ72 z72 h72 => ?_)
      obtain ⟨rfl, rfl⟩ := h72
      refine r_istore_n (Y := YX8_greatestLoad) dX8_greatestLoad_75 ?_
      refine r_iinc (Y := YX8_greatestLoad) dX8_greatestLoad_76 rfl ?_
      refine r_goto (Y := YX8_greatestLoad) (tgt := 10) dX8_greatestLoad_79 (by decide) ?_
      exact R2.weak (by repeat first | exact trivial | refine And.intro rfl ?_) (ih (i + 1) _ (by omega) (by rw [e2, e4]; rfl))
    | succ k2 ih2 =>
      intro j h e3 e4
      have hcb := cge_bd (σ a) (σ a i) j
      have hpj := hp j (by omega) (by omega)
      refine r_iload (Y := YX8_greatestLoad) dX8_greatestLoad_36 rfl ?_
      refine r_iload (Y := YX8_greatestLoad) dX8_greatestLoad_38 rfl ?_
      refine r_icmp_ge (Y := YX8_greatestLoad) (tgt := 66) dX8_greatestLoad_40 (by decide) (fun c40 => absurd c40 (by omega)) (fun c40 => ?_) 
      refine r_aload (Y := YX8_greatestLoad) dX8_greatestLoad_43 rfl ?_
      refine r_iload (Y := YX8_greatestLoad) dX8_greatestLoad_45 rfl ?_
      refine r_iaload (Y := YX8_greatestLoad) dX8_greatestLoad_47 ?_
      refine r_istore (Y := YX8_greatestLoad) dX8_greatestLoad_48 ?_
      refine r_iload (Y := YX8_greatestLoad) dX8_greatestLoad_50 rfl ?_
      refine r_iload (Y := YX8_greatestLoad) dX8_greatestLoad_52 rfl ?_
      refine r_icmp_lt (Y := YX8_greatestLoad) (tgt := 60) dX8_greatestLoad_54 (by decide) (fun c54 => ?_) (fun c54 => ?_) 
      · refine r_iinc (Y := YX8_greatestLoad) dX8_greatestLoad_60 rfl ?_
        refine r_goto (Y := YX8_greatestLoad) (tgt := 36) dX8_greatestLoad_63 (by decide) ?_
        exact R2.weak (by repeat first | exact trivial | refine And.intro rfl ?_) (ih2 (j + 1) _ (by omega) (by rw [e4]; show _ = cge (σ a) (σ a i) j + (if σ a i ≤ σ a j then 1 else 0); first | rw [if_pos (by omega)] | (rw [if_neg (by omega)]; omega)))
      · refine r_iinc (Y := YX8_greatestLoad) dX8_greatestLoad_57 rfl ?_
        refine r_iinc (Y := YX8_greatestLoad) dX8_greatestLoad_60 rfl ?_
        refine r_goto (Y := YX8_greatestLoad) (tgt := 36) dX8_greatestLoad_63 (by decide) ?_
        exact R2.weak (by repeat first | exact trivial | refine And.intro rfl ?_) (ih2 (j + 1) _ (by omega) (by rw [e4]; show _ = cge (σ a) (σ a i) j + (if σ a i ≤ σ a j then 1 else 0); first | rw [if_pos (by omega)] | (rw [if_neg (by omega)]; omega)))
end
