section
-- ===== PART A: goes FIRST, ahead of the names: the tables' words, and 'selects' of the private methods out of them =====
/-- a private method of a class that the tables say can be made, by its rows of tables_1 -/
def lw_okq (q : MethodName × Nat) : Prop := (q.1.cls ≠ "java/lang/invoke/MethodHandle" ∧ q.1.cls ≠ "java/lang/invoke/VarHandle") ∧ Cond.instantiable q.1.cls q.2 ∈ tables_1 ∧ Cond.privateMethod q.1 ∈ tables_1 ∧ Cond.instanceMethod q.1 ∈ tables_1
theorem lw_p0 : lw_okq (⟨"FirePanel", "askPlaces", "()V"⟩, 10) := ⟨⟨by decide +kernel, by decide +kernel⟩, List.mem_of_getElem? (i := 18) (by decide +kernel), List.mem_of_getElem? (i := 218) (by decide +kernel), List.mem_of_getElem? (i := 219) (by decide +kernel)⟩
theorem lw_p1 : lw_okq (⟨"FirePanel$Ring", "passableWires", "()I"⟩, 2) := ⟨⟨by decide +kernel, by decide +kernel⟩, List.mem_of_getElem? (i := 26) (by decide +kernel), List.mem_of_getElem? (i := 226) (by decide +kernel), List.mem_of_getElem? (i := 227) (by decide +kernel)⟩
theorem lw_p2 : lw_okq (⟨"FirePanel$Ring", "endsStretch", "(I)Z"⟩, 2) := ⟨⟨by decide +kernel, by decide +kernel⟩, List.mem_of_getElem? (i := 26) (by decide +kernel), List.mem_of_getElem? (i := 230) (by decide +kernel), List.mem_of_getElem? (i := 231) (by decide +kernel)⟩
theorem lw_p3 : lw_okq (⟨"FirePanel", "noteMiss", "(LFirePanel$Place;I)V"⟩, 10) := ⟨⟨by decide +kernel, by decide +kernel⟩, List.mem_of_getElem? (i := 18) (by decide +kernel), List.mem_of_getElem? (i := 238) (by decide +kernel), List.mem_of_getElem? (i := 239) (by decide +kernel)⟩
theorem lw_p4 : lw_okq (⟨"FirePanel", "noteAnswer", "(LFirePanel$Place;I)V"⟩, 10) := ⟨⟨by decide +kernel, by decide +kernel⟩, List.mem_of_getElem? (i := 18) (by decide +kernel), List.mem_of_getElem? (i := 252) (by decide +kernel), List.mem_of_getElem? (i := 253) (by decide +kernel)⟩
theorem lw_p5 : lw_okq (⟨"FirePanel$Place", "senseSmoke", "()V"⟩, 11) := ⟨⟨by decide +kernel, by decide +kernel⟩, List.mem_of_getElem? (i := 33) (by decide +kernel), List.mem_of_getElem? (i := 260) (by decide +kernel), List.mem_of_getElem? (i := 261) (by decide +kernel)⟩
theorem lw_p6 : lw_okq (⟨"FirePanel$Place", "countOver", "()V"⟩, 11) := ⟨⟨by decide +kernel, by decide +kernel⟩, List.mem_of_getElem? (i := 33) (by decide +kernel), List.mem_of_getElem? (i := 265) (by decide +kernel), List.mem_of_getElem? (i := 266) (by decide +kernel)⟩
theorem lw_p7 : lw_okq (⟨"FirePanel$Place", "senseHeat", "()V"⟩, 11) := ⟨⟨by decide +kernel, by decide +kernel⟩, List.mem_of_getElem? (i := 33) (by decide +kernel), List.mem_of_getElem? (i := 270) (by decide +kernel), List.mem_of_getElem? (i := 271) (by decide +kernel)⟩
theorem lw_p8 : lw_okq (⟨"FirePanel$Place", "senseButton", "()V"⟩, 11) := ⟨⟨by decide +kernel, by decide +kernel⟩, List.mem_of_getElem? (i := 33) (by decide +kernel), List.mem_of_getElem? (i := 276) (by decide +kernel), List.mem_of_getElem? (i := 277) (by decide +kernel)⟩
theorem lw_p9 : lw_okq (⟨"FirePanel", "watchZones", "()I"⟩, 10) := ⟨⟨by decide +kernel, by decide +kernel⟩, List.mem_of_getElem? (i := 18) (by decide +kernel), List.mem_of_getElem? (i := 280) (by decide +kernel), List.mem_of_getElem? (i := 281) (by decide +kernel)⟩
theorem lw_p10 : lw_okq (⟨"FirePanel", "hasEnoughAlarms", "(II)Z"⟩, 10) := ⟨⟨by decide +kernel, by decide +kernel⟩, List.mem_of_getElem? (i := 18) (by decide +kernel), List.mem_of_getElem? (i := 284) (by decide +kernel), List.mem_of_getElem? (i := 285) (by decide +kernel)⟩
theorem lw_p11 : lw_okq (⟨"FirePanel", "followRules", "()V"⟩, 10) := ⟨⟨by decide +kernel, by decide +kernel⟩, List.mem_of_getElem? (i := 18) (by decide +kernel), List.mem_of_getElem? (i := 293) (by decide +kernel), List.mem_of_getElem? (i := 294) (by decide +kernel)⟩
theorem lw_p12 : lw_okq (⟨"FirePanel", "facts", "()I"⟩, 10) := ⟨⟨by decide +kernel, by decide +kernel⟩, List.mem_of_getElem? (i := 18) (by decide +kernel), List.mem_of_getElem? (i := 297) (by decide +kernel), List.mem_of_getElem? (i := 298) (by decide +kernel)⟩
theorem lw_p13 : lw_okq (⟨"FirePanel", "faults", "()I"⟩, 10) := ⟨⟨by decide +kernel, by decide +kernel⟩, List.mem_of_getElem? (i := 18) (by decide +kernel), List.mem_of_getElem? (i := 301) (by decide +kernel), List.mem_of_getElem? (i := 302) (by decide +kernel)⟩
theorem lw_p14 : lw_okq (⟨"FirePanel", "hasWarning", "(I)Z"⟩, 10) := ⟨⟨by decide +kernel, by decide +kernel⟩, List.mem_of_getElem? (i := 18) (by decide +kernel), List.mem_of_getElem? (i := 305) (by decide +kernel), List.mem_of_getElem? (i := 306) (by decide +kernel)⟩
theorem lw_p15 : lw_okq (⟨"FirePanel", "driveOutputs", "()V"⟩, 10) := ⟨⟨by decide +kernel, by decide +kernel⟩, List.mem_of_getElem? (i := 18) (by decide +kernel), List.mem_of_getElem? (i := 321) (by decide +kernel), List.mem_of_getElem? (i := 322) (by decide +kernel)⟩
def lw_privs_1 : List (MethodName × Nat) := [(⟨"FirePanel", "askPlaces", "()V"⟩, 10), (⟨"FirePanel$Ring", "passableWires", "()I"⟩, 2), (⟨"FirePanel$Ring", "endsStretch", "(I)Z"⟩, 2), (⟨"FirePanel", "noteMiss", "(LFirePanel$Place;I)V"⟩, 10), (⟨"FirePanel", "noteAnswer", "(LFirePanel$Place;I)V"⟩, 10), (⟨"FirePanel$Place", "senseSmoke", "()V"⟩, 11), (⟨"FirePanel$Place", "countOver", "()V"⟩, 11), (⟨"FirePanel$Place", "senseHeat", "()V"⟩, 11), (⟨"FirePanel$Place", "senseButton", "()V"⟩, 11), (⟨"FirePanel", "watchZones", "()I"⟩, 10), (⟨"FirePanel", "hasEnoughAlarms", "(II)Z"⟩, 10), (⟨"FirePanel", "followRules", "()V"⟩, 10), (⟨"FirePanel", "facts", "()I"⟩, 10), (⟨"FirePanel", "faults", "()I"⟩, 10), (⟨"FirePanel", "hasWarning", "(I)Z"⟩, 10), (⟨"FirePanel", "driveOutputs", "()V"⟩, 10)]
theorem lw_r1 : ∀ q ∈ lw_privs_1, lw_okq q := List.forall_mem_cons.mpr ⟨lw_p0, List.forall_mem_cons.mpr ⟨lw_p1, List.forall_mem_cons.mpr ⟨lw_p2, List.forall_mem_cons.mpr ⟨lw_p3, List.forall_mem_cons.mpr ⟨lw_p4, List.forall_mem_cons.mpr ⟨lw_p5, List.forall_mem_cons.mpr ⟨lw_p6, List.forall_mem_cons.mpr ⟨lw_p7, List.forall_mem_cons.mpr ⟨lw_p8, List.forall_mem_cons.mpr ⟨lw_p9, List.forall_mem_cons.mpr ⟨lw_p10, List.forall_mem_cons.mpr ⟨lw_p11, List.forall_mem_cons.mpr ⟨lw_p12, List.forall_mem_cons.mpr ⟨lw_p13, List.forall_mem_cons.mpr ⟨lw_p14, List.forall_mem_cons.mpr ⟨lw_p15, fun _ h => absurd h List.not_mem_nil⟩⟩⟩⟩⟩⟩⟩⟩⟩⟩⟩⟩⟩⟩⟩⟩
theorem lw_p16 : lw_okq (⟨"FirePanel", "isDriven", "(I)Z"⟩, 10) := ⟨⟨by decide +kernel, by decide +kernel⟩, List.mem_of_getElem? (i := 18) (by decide +kernel), List.mem_of_getElem? (i := 325) (by decide +kernel), List.mem_of_getElem? (i := 326) (by decide +kernel)⟩
theorem lw_p17 : lw_okq (⟨"java/lang/Throwable", "fillInStackTrace", "(I)Ljava/lang/Throwable;"⟩, 6) := ⟨⟨by decide +kernel, by decide +kernel⟩, List.mem_of_getElem? (i := 384) (by decide +kernel), List.mem_of_getElem? (i := 382) (by decide +kernel), List.mem_of_getElem? (i := 383) (by decide +kernel)⟩
theorem lw_p18 : lw_okq (⟨"FirePanel", "mustHaveEntered", "(I)V"⟩, 10) := ⟨⟨by decide +kernel, by decide +kernel⟩, List.mem_of_getElem? (i := 18) (by decide +kernel), List.mem_of_getElem? (i := 435) (by decide +kernel), List.mem_of_getElem? (i := 436) (by decide +kernel)⟩
theorem lw_p19 : lw_okq (⟨"FirePanel$Pad", "readCondition", "(LFirePanel$Rule;I)Z"⟩, 3) := ⟨⟨by decide +kernel, by decide +kernel⟩, List.mem_of_getElem? (i := 138) (by decide +kernel), List.mem_of_getElem? (i := 498) (by decide +kernel), List.mem_of_getElem? (i := 499) (by decide +kernel)⟩
theorem lw_p20 : lw_okq (⟨"FirePanel$Pad", "readTerm", "(LFirePanel$Rule;I)Z"⟩, 3) := ⟨⟨by decide +kernel, by decide +kernel⟩, List.mem_of_getElem? (i := 138) (by decide +kernel), List.mem_of_getElem? (i := 502) (by decide +kernel), List.mem_of_getElem? (i := 503) (by decide +kernel)⟩
theorem lw_p21 : lw_okq (⟨"FirePanel$Pad", "passes", "(C)Z"⟩, 3) := ⟨⟨by decide +kernel, by decide +kernel⟩, List.mem_of_getElem? (i := 138) (by decide +kernel), List.mem_of_getElem? (i := 506) (by decide +kernel), List.mem_of_getElem? (i := 507) (by decide +kernel)⟩
theorem lw_p22 : lw_okq (⟨"FirePanel$Pad", "sees", "(C)Z"⟩, 3) := ⟨⟨by decide +kernel, by decide +kernel⟩, List.mem_of_getElem? (i := 138) (by decide +kernel), List.mem_of_getElem? (i := 510) (by decide +kernel), List.mem_of_getElem? (i := 511) (by decide +kernel)⟩
theorem lw_p23 : lw_okq (⟨"FirePanel$Pad", "readZone", "(LFirePanel$Rule;I)Z"⟩, 3) := ⟨⟨by decide +kernel, by decide +kernel⟩, List.mem_of_getElem? (i := 138) (by decide +kernel), List.mem_of_getElem? (i := 514) (by decide +kernel), List.mem_of_getElem? (i := 515) (by decide +kernel)⟩
theorem lw_p24 : lw_okq (⟨"FirePanel$Pad", "readDigit", "(I)I"⟩, 3) := ⟨⟨by decide +kernel, by decide +kernel⟩, List.mem_of_getElem? (i := 138) (by decide +kernel), List.mem_of_getElem? (i := 518) (by decide +kernel), List.mem_of_getElem? (i := 519) (by decide +kernel)⟩
theorem lw_p25 : lw_okq (⟨"FirePanel$Pad", "readTarget", "(LFirePanel$Rule;)Z"⟩, 3) := ⟨⟨by decide +kernel, by decide +kernel⟩, List.mem_of_getElem? (i := 138) (by decide +kernel), List.mem_of_getElem? (i := 526) (by decide +kernel), List.mem_of_getElem? (i := 527) (by decide +kernel)⟩
theorem lw_p26 : lw_okq (⟨"FirePanel", "allOutputsOff", "()V"⟩, 10) := ⟨⟨by decide +kernel, by decide +kernel⟩, List.mem_of_getElem? (i := 18) (by decide +kernel), List.mem_of_getElem? (i := 537) (by decide +kernel), List.mem_of_getElem? (i := 538) (by decide +kernel)⟩
theorem lw_p27 : lw_okq (⟨"FirePanelModel", "read", "(I)I"⟩, 34) := ⟨⟨by decide +kernel, by decide +kernel⟩, List.mem_of_getElem? (i := 624) (by decide +kernel), List.mem_of_getElem? (i := 769) (by decide +kernel), List.mem_of_getElem? (i := 770) (by decide +kernel)⟩
theorem lw_p28 : lw_okq (⟨"FirePanelModel", "condition", "()I"⟩, 34) := ⟨⟨by decide +kernel, by decide +kernel⟩, List.mem_of_getElem? (i := 624) (by decide +kernel), List.mem_of_getElem? (i := 773) (by decide +kernel), List.mem_of_getElem? (i := 774) (by decide +kernel)⟩
theorem lw_p29 : lw_okq (⟨"FirePanelModel", "look", "(I)C"⟩, 34) := ⟨⟨by decide +kernel, by decide +kernel⟩, List.mem_of_getElem? (i := 624) (by decide +kernel), List.mem_of_getElem? (i := 777) (by decide +kernel), List.mem_of_getElem? (i := 778) (by decide +kernel)⟩
theorem lw_p30 : lw_okq (⟨"FirePanelModel", "deepness", "()I"⟩, 34) := ⟨⟨by decide +kernel, by decide +kernel⟩, List.mem_of_getElem? (i := 624) (by decide +kernel), List.mem_of_getElem? (i := 781) (by decide +kernel), List.mem_of_getElem? (i := 782) (by decide +kernel)⟩
theorem lw_p31 : lw_okq (⟨"FirePanelModel", "put", "(C)V"⟩, 34) := ⟨⟨by decide +kernel, by decide +kernel⟩, List.mem_of_getElem? (i := 624) (by decide +kernel), List.mem_of_getElem? (i := 785) (by decide +kernel), List.mem_of_getElem? (i := 786) (by decide +kernel)⟩
def lw_privs_2 : List (MethodName × Nat) := [(⟨"FirePanel", "isDriven", "(I)Z"⟩, 10), (⟨"java/lang/Throwable", "fillInStackTrace", "(I)Ljava/lang/Throwable;"⟩, 6), (⟨"FirePanel", "mustHaveEntered", "(I)V"⟩, 10), (⟨"FirePanel$Pad", "readCondition", "(LFirePanel$Rule;I)Z"⟩, 3), (⟨"FirePanel$Pad", "readTerm", "(LFirePanel$Rule;I)Z"⟩, 3), (⟨"FirePanel$Pad", "passes", "(C)Z"⟩, 3), (⟨"FirePanel$Pad", "sees", "(C)Z"⟩, 3), (⟨"FirePanel$Pad", "readZone", "(LFirePanel$Rule;I)Z"⟩, 3), (⟨"FirePanel$Pad", "readDigit", "(I)I"⟩, 3), (⟨"FirePanel$Pad", "readTarget", "(LFirePanel$Rule;)Z"⟩, 3), (⟨"FirePanel", "allOutputsOff", "()V"⟩, 10), (⟨"FirePanelModel", "read", "(I)I"⟩, 34), (⟨"FirePanelModel", "condition", "()I"⟩, 34), (⟨"FirePanelModel", "look", "(I)C"⟩, 34), (⟨"FirePanelModel", "deepness", "()I"⟩, 34), (⟨"FirePanelModel", "put", "(C)V"⟩, 34)]
theorem lw_r2 : ∀ q ∈ lw_privs_2, lw_okq q := List.forall_mem_cons.mpr ⟨lw_p16, List.forall_mem_cons.mpr ⟨lw_p17, List.forall_mem_cons.mpr ⟨lw_p18, List.forall_mem_cons.mpr ⟨lw_p19, List.forall_mem_cons.mpr ⟨lw_p20, List.forall_mem_cons.mpr ⟨lw_p21, List.forall_mem_cons.mpr ⟨lw_p22, List.forall_mem_cons.mpr ⟨lw_p23, List.forall_mem_cons.mpr ⟨lw_p24, List.forall_mem_cons.mpr ⟨lw_p25, List.forall_mem_cons.mpr ⟨lw_p26, List.forall_mem_cons.mpr ⟨lw_p27, List.forall_mem_cons.mpr ⟨lw_p28, List.forall_mem_cons.mpr ⟨lw_p29, List.forall_mem_cons.mpr ⟨lw_p30, List.forall_mem_cons.mpr ⟨lw_p31, fun _ h => absurd h List.not_mem_nil⟩⟩⟩⟩⟩⟩⟩⟩⟩⟩⟩⟩⟩⟩⟩⟩
theorem lw_p32 : lw_okq (⟨"FirePanelModel", "word", "(I)V"⟩, 34) := ⟨⟨by decide +kernel, by decide +kernel⟩, List.mem_of_getElem? (i := 624) (by decide +kernel), List.mem_of_getElem? (i := 789) (by decide +kernel), List.mem_of_getElem? (i := 790) (by decide +kernel)⟩
theorem lw_p33 : lw_okq (⟨"FirePanelModel", "termDone", "()V"⟩, 34) := ⟨⟨by decide +kernel, by decide +kernel⟩, List.mem_of_getElem? (i := 624) (by decide +kernel), List.mem_of_getElem? (i := 793) (by decide +kernel), List.mem_of_getElem? (i := 794) (by decide +kernel)⟩
theorem lw_p34 : lw_okq (⟨"FirePanelModel", "isSensor", "(I)Z"⟩, 34) := ⟨⟨by decide +kernel, by decide +kernel⟩, List.mem_of_getElem? (i := 624) (by decide +kernel), List.mem_of_getElem? (i := 805) (by decide +kernel), List.mem_of_getElem? (i := 806) (by decide +kernel)⟩
theorem lw_p35 : lw_okq (⟨"FirePanelModel", "ask", "(I)V"⟩, 34) := ⟨⟨by decide +kernel, by decide +kernel⟩, List.mem_of_getElem? (i := 624) (by decide +kernel), List.mem_of_getElem? (i := 809) (by decide +kernel), List.mem_of_getElem? (i := 810) (by decide +kernel)⟩
theorem lw_p36 : lw_okq (⟨"FirePanelModel", "reached", "(I)Z"⟩, 34) := ⟨⟨by decide +kernel, by decide +kernel⟩, List.mem_of_getElem? (i := 624) (by decide +kernel), List.mem_of_getElem? (i := 813) (by decide +kernel), List.mem_of_getElem? (i := 814) (by decide +kernel)⟩
theorem lw_p37 : lw_okq (⟨"FirePanelModel", "goes", "(I)Z"⟩, 34) := ⟨⟨by decide +kernel, by decide +kernel⟩, List.mem_of_getElem? (i := 624) (by decide +kernel), List.mem_of_getElem? (i := 817) (by decide +kernel), List.mem_of_getElem? (i := 818) (by decide +kernel)⟩
theorem lw_p38 : lw_okq (⟨"FirePanelModel", "stretchShort", "(I)Z"⟩, 34) := ⟨⟨by decide +kernel, by decide +kernel⟩, List.mem_of_getElem? (i := 624) (by decide +kernel), List.mem_of_getElem? (i := 821) (by decide +kernel), List.mem_of_getElem? (i := 822) (by decide +kernel)⟩
theorem lw_p39 : lw_okq (⟨"FirePanelModel", "note", "(II)V"⟩, 34) := ⟨⟨by decide +kernel, by decide +kernel⟩, List.mem_of_getElem? (i := 624) (by decide +kernel), List.mem_of_getElem? (i := 825) (by decide +kernel), List.mem_of_getElem? (i := 826) (by decide +kernel)⟩
theorem lw_p40 : lw_okq (⟨"FirePanelModel", "sense", "(I)V"⟩, 34) := ⟨⟨by decide +kernel, by decide +kernel⟩, List.mem_of_getElem? (i := 624) (by decide +kernel), List.mem_of_getElem? (i := 829) (by decide +kernel), List.mem_of_getElem? (i := 830) (by decide +kernel)⟩
theorem lw_p41 : lw_okq (⟨"FirePanelModel", "burns", "(I)Z"⟩, 34) := ⟨⟨by decide +kernel, by decide +kernel⟩, List.mem_of_getElem? (i := 624) (by decide +kernel), List.mem_of_getElem? (i := 836) (by decide +kernel), List.mem_of_getElem? (i := 837) (by decide +kernel)⟩
theorem lw_p42 : lw_okq (⟨"FirePanelModel", "drive", "()V"⟩, 34) := ⟨⟨by decide +kernel, by decide +kernel⟩, List.mem_of_getElem? (i := 624) (by decide +kernel), List.mem_of_getElem? (i := 840) (by decide +kernel), List.mem_of_getElem? (i := 841) (by decide +kernel)⟩
theorem lw_p43 : lw_okq (⟨"FirePanelModel", "holds", "(I)Z"⟩, 34) := ⟨⟨by decide +kernel, by decide +kernel⟩, List.mem_of_getElem? (i := 624) (by decide +kernel), List.mem_of_getElem? (i := 844) (by decide +kernel), List.mem_of_getElem? (i := 845) (by decide +kernel)⟩
theorem lw_p44 : lw_okq (⟨"FirePanelModel", "faults", "()I"⟩, 34) := ⟨⟨by decide +kernel, by decide +kernel⟩, List.mem_of_getElem? (i := 624) (by decide +kernel), List.mem_of_getElem? (i := 848) (by decide +kernel), List.mem_of_getElem? (i := 849) (by decide +kernel)⟩
theorem lw_p45 : lw_okq (⟨"FirePanelModel", "warns", "(I)Z"⟩, 34) := ⟨⟨by decide +kernel, by decide +kernel⟩, List.mem_of_getElem? (i := 624) (by decide +kernel), List.mem_of_getElem? (i := 852) (by decide +kernel), List.mem_of_getElem? (i := 853) (by decide +kernel)⟩
def lw_privs_3 : List (MethodName × Nat) := [(⟨"FirePanelModel", "word", "(I)V"⟩, 34), (⟨"FirePanelModel", "termDone", "()V"⟩, 34), (⟨"FirePanelModel", "isSensor", "(I)Z"⟩, 34), (⟨"FirePanelModel", "ask", "(I)V"⟩, 34), (⟨"FirePanelModel", "reached", "(I)Z"⟩, 34), (⟨"FirePanelModel", "goes", "(I)Z"⟩, 34), (⟨"FirePanelModel", "stretchShort", "(I)Z"⟩, 34), (⟨"FirePanelModel", "note", "(II)V"⟩, 34), (⟨"FirePanelModel", "sense", "(I)V"⟩, 34), (⟨"FirePanelModel", "burns", "(I)Z"⟩, 34), (⟨"FirePanelModel", "drive", "()V"⟩, 34), (⟨"FirePanelModel", "holds", "(I)Z"⟩, 34), (⟨"FirePanelModel", "faults", "()I"⟩, 34), (⟨"FirePanelModel", "warns", "(I)Z"⟩, 34)]
theorem lw_r3 : ∀ q ∈ lw_privs_3, lw_okq q := List.forall_mem_cons.mpr ⟨lw_p32, List.forall_mem_cons.mpr ⟨lw_p33, List.forall_mem_cons.mpr ⟨lw_p34, List.forall_mem_cons.mpr ⟨lw_p35, List.forall_mem_cons.mpr ⟨lw_p36, List.forall_mem_cons.mpr ⟨lw_p37, List.forall_mem_cons.mpr ⟨lw_p38, List.forall_mem_cons.mpr ⟨lw_p39, List.forall_mem_cons.mpr ⟨lw_p40, List.forall_mem_cons.mpr ⟨lw_p41, List.forall_mem_cons.mpr ⟨lw_p42, List.forall_mem_cons.mpr ⟨lw_p43, List.forall_mem_cons.mpr ⟨lw_p44, List.forall_mem_cons.mpr ⟨lw_p45, fun _ h => absurd h List.not_mem_nil⟩⟩⟩⟩⟩⟩⟩⟩⟩⟩⟩⟩⟩⟩
def lw_privs : List (MethodName × Nat) := lw_privs_1 ++ (lw_privs_2 ++ (lw_privs_3))
def lw_tbl : List Cond := k2_sels lw_privs ++ tables_1
theorem lw_privs_ok : ∀ q ∈ lw_privs, lw_okq q := by
  show ∀ q ∈ lw_privs_1 ++ (lw_privs_2 ++ (lw_privs_3)), lw_okq q
  exact List.forall_mem_append.mpr ⟨lw_r1, List.forall_mem_append.mpr ⟨lw_r2, lw_r3⟩⟩
end
section
/-! ===== BEGIN words of one list among another's, by their places ===== -/
theorem goodIn_r {big : List Cond} (ws : List Cond) (ps : List Nat) (hp : ws = ps.filterMap (fun i => big[i]?)) (h : ws.all goodWord = true) : GoodIn big ws := by
  intro w hw
  have h1 := List.all_eq_true.mp h w hw
  rw [hp] at hw
  obtain ⟨i, -, hi⟩ := List.mem_filterMap.mp hw
  have hm : w ∈ big := by first | exact List.mem_of_getElem? hi | exact List.getElem?_mem hi
  exact ⟨hm, good_of_word h1⟩
theorem goodIn_app {big a b : List Cond} (ha : GoodIn big a) (hb : GoodIn big b) : GoodIn big (a ++ b) := fun w h => (List.mem_append.mp h).elim (ha w) (hb w)
theorem goodIn_ca {big a b : List Cond} {c : Cond} (ha : GoodIn big (c :: a)) (hb : GoodIn big b) : GoodIn big (c :: (a ++ b)) := fun w h => (List.mem_cons.mp h).elim (fun e => ha w (List.mem_cons.mpr (Or.inl e))) (fun h => (List.mem_append.mp h).elim (fun h => ha w (List.mem_cons.mpr (Or.inr h))) (hb w))
theorem goodIn_sub {big ws : List Cond} (hm : ∀ w ∈ ws, w ∈ big) (h : ws.all goodWord = true) : GoodIn big ws := fun w hw => ⟨hm w hw, good_of_word (List.all_eq_true.mp h w hw)⟩
/-! ===== END ===== -/

def vx_no (w : Cond) : Bool := decide (w ≠ .isRef (.static Bundle.tN "UNASSIGNED_STACK" Bundle.steD)) && decide (w ≠ .isRef (.static Bundle.tN "SUPPRESSED_SENTINEL" Bundle.listD)) && decide (w ≠ .laysStatic Bundle.tN "UNASSIGNED_STACK" Bundle.steD) && decide (w ≠ .laysStatic Bundle.tN "SUPPRESSED_SENTINEL" Bundle.listD)
def vx_at0 (own : String) (ic : Nat) (X : String) (names : List String) : List Cond := (Bundle.ownAtoms0 own ic X names).filter vx_no
def vx_atS (own : String) (ic : Nat) (X : String) (names : List String) : List Cond := (Bundle.ownAtoms own ic X names).filter vx_no
/-! ===== BEGIN printed: names, fields, word lists, decode rows ===== -/
def RX0 : String := "FirePanel$Log"
def TX0 : u_T := fun k => match k with
  | 0 => ("FirePanel$Log", "words", "[I", true)
  | _ => ("FirePanel$Log", "size", "I", false)
def tyX0 : Nat → FieldType := fun k => match k with
  | 0 => .array .int
  | _ => .int
abbrev wsX00 : List Cond := u_ws RX0 TX0 2
theorem nmX0 : ∀ a, a < 2 → ∀ b, b < 2 → a ≠ b → (TX0 a).2.1 ≠ (TX0 b).2.1 := by decide +kernel
theorem tyX0_ok : ∀ k, k < 2 → parseFieldDescriptor (TX0 k).2.2.1 = some (tyX0 k) := by decide +kernel
abbrev cX0_init : ByteArray := prog_2_method_1_code
def yX0_init : MethodName := ⟨RX0, "<init>", "()V"⟩
abbrev cX0_add : ByteArray := prog_2_method_2_code
def yX0_add : MethodName := ⟨RX0, "add", "(III)V"⟩
def RX1 : String := "FirePanel$Pad"
def TX1 : u_T := fun k => match k with
  | 0 => ("FirePanel$Pad", "text", "[C", true)
  | 1 => ("FirePanel$Pad", "length", "I", false)
  | _ => ("FirePanel$Pad", "at", "I", false)
def tyX1 : Nat → FieldType := fun k => match k with
  | 0 => .array .char
  | 1 => .int
  | _ => .int
abbrev wsX10 : List Cond := u_ws RX1 TX1 3
theorem nmX1 : ∀ a, a < 3 → ∀ b, b < 3 → a ≠ b → (TX1 a).2.1 ≠ (TX1 b).2.1 := by decide +kernel
theorem tyX1_ok : ∀ k, k < 3 → parseFieldDescriptor (TX1 k).2.2.1 = some (tyX1 k) := by decide +kernel
abbrev cX1_init : ByteArray := prog_3_method_1_code
def yX1_init : MethodName := ⟨RX1, "<init>", "()V"⟩
abbrev cX1_append : ByteArray := prog_3_method_2_code
def yX1_append : MethodName := ⟨RX1, "append", "(C)Z"⟩
abbrev cX1_readInto : ByteArray := prog_3_method_3_code
def yX1_readInto : MethodName := ⟨RX1, "readInto", "(LFirePanel$Rule;)I"⟩
abbrev cX1_standsInRules : ByteArray := prog_3_method_4_code
def yX1_standsInRules : MethodName := ⟨RX1, "standsInRules", "(C)Z"⟩
abbrev cX1_readCondition : ByteArray := prog_3_method_5_code
def yX1_readCondition : MethodName := ⟨RX1, "readCondition", "(LFirePanel$Rule;I)Z"⟩
abbrev cX1_readTerm : ByteArray := prog_3_method_6_code
def yX1_readTerm : MethodName := ⟨RX1, "readTerm", "(LFirePanel$Rule;I)Z"⟩
abbrev cX1_readZone : ByteArray := prog_3_method_7_code
def yX1_readZone : MethodName := ⟨RX1, "readZone", "(LFirePanel$Rule;I)Z"⟩
abbrev cX1_readTarget : ByteArray := prog_3_method_8_code
def yX1_readTarget : MethodName := ⟨RX1, "readTarget", "(LFirePanel$Rule;)Z"⟩
abbrev cX1_readDigit : ByteArray := prog_3_method_9_code
def yX1_readDigit : MethodName := ⟨RX1, "readDigit", "(I)I"⟩
abbrev cX1_passes : ByteArray := prog_3_method_10_code
def yX1_passes : MethodName := ⟨RX1, "passes", "(C)Z"⟩
abbrev cX1_sees : ByteArray := prog_3_method_11_code
def yX1_sees : MethodName := ⟨RX1, "sees", "(C)Z"⟩
def RX2 : String := "FirePanel$Place"
def TX2 : u_T := fun k => match k with
  | 0 => ("FirePanel$Place", "kind", "I", false)
  | 1 => ("FirePanel$Place", "zone", "I", false)
  | 2 => ("FirePanel$Place", "threshold", "F", false)
  | 3 => ("FirePanel$Place", "reading", "F", false)
  | 4 => ("FirePanel$Place", "base", "F", false)
  | 5 => ("FirePanel$Place", "level", "F", false)
  | 6 => ("FirePanel$Place", "over", "I", false)
  | 7 => ("FirePanel$Place", "inAlarm", "Z", false)
  | 8 => ("FirePanel$Place", "missed", "I", false)
  | 9 => ("FirePanel$Place", "atFault", "Z", false)
  | _ => ("FirePanel$Place", "isOff", "Z", false)
def tyX2 : Nat → FieldType := fun k => match k with
  | 0 => .int
  | 1 => .int
  | 2 => .float
  | 3 => .float
  | 4 => .float
  | 5 => .float
  | 6 => .int
  | 7 => .boolean
  | 8 => .int
  | 9 => .boolean
  | _ => .boolean
abbrev wsX20 : List Cond := u_ws RX2 TX2 11
theorem nmX2 : ∀ a, a < 11 → ∀ b, b < 11 → a ≠ b → (TX2 a).2.1 ≠ (TX2 b).2.1 := by decide +kernel
theorem tyX2_ok : ∀ k, k < 11 → parseFieldDescriptor (TX2 k).2.2.1 = some (tyX2 k) := by decide +kernel
abbrev cX2_init : ByteArray := prog_4_method_1_code
def yX2_init : MethodName := ⟨RX2, "<init>", "()V"⟩
abbrev cX2_begin : ByteArray := prog_4_method_2_code
def yX2_begin : MethodName := ⟨RX2, "begin", "(IIF)V"⟩
abbrev cX2_isSensor : ByteArray := prog_4_method_3_code
def yX2_isSensor : MethodName := ⟨RX2, "isSensor", "()Z"⟩
abbrev cX2_watches : ByteArray := prog_4_method_4_code
def yX2_watches : MethodName := ⟨RX2, "watches", "(I)Z"⟩
abbrev cX2_warns : ByteArray := prog_4_method_5_code
def yX2_warns : MethodName := ⟨RX2, "warns", "()Z"⟩
abbrev cX2_sense : ByteArray := prog_4_method_6_code
def yX2_sense : MethodName := ⟨RX2, "sense", "()V"⟩
abbrev cX2_calmDown : ByteArray := prog_4_method_7_code
def yX2_calmDown : MethodName := ⟨RX2, "calmDown", "()V"⟩
abbrev cX2_senseSmoke : ByteArray := prog_4_method_8_code
def yX2_senseSmoke : MethodName := ⟨RX2, "senseSmoke", "()V"⟩
abbrev cX2_senseHeat : ByteArray := prog_4_method_9_code
def yX2_senseHeat : MethodName := ⟨RX2, "senseHeat", "()V"⟩
abbrev cX2_senseButton : ByteArray := prog_4_method_10_code
def yX2_senseButton : MethodName := ⟨RX2, "senseButton", "()V"⟩
abbrev cX2_countOver : ByteArray := prog_4_method_11_code
def yX2_countOver : MethodName := ⟨RX2, "countOver", "()V"⟩
def RX3 : String := "FirePanel$Ring"
def TX3 : u_T := fun k => match k with
  | 0 => ("FirePanel$Ring", "places", "[LFirePanel$Place;", true)
  | _ => ("FirePanel$Ring", "wires", "[I", true)
def tyX3 : Nat → FieldType := fun k => match k with
  | 0 => .array (.object "FirePanel$Place")
  | _ => .array .int
abbrev wsX30 : List Cond := u_ws RX3 TX3 2
theorem nmX3 : ∀ a, a < 2 → ∀ b, b < 2 → a ≠ b → (TX3 a).2.1 ≠ (TX3 b).2.1 := by decide +kernel
theorem tyX3_ok : ∀ k, k < 2 → parseFieldDescriptor (TX3 k).2.2.1 = some (tyX3 k) := by decide +kernel
abbrev cX3_init : ByteArray := prog_5_method_1_code
def yX3_init : MethodName := ⟨RX3, "<init>", "()V"⟩
abbrev cX3_reachedPlaces : ByteArray := prog_5_method_2_code
def yX3_reachedPlaces : MethodName := ⟨RX3, "reachedPlaces", "()I"⟩
abbrev cX3_passableWires : ByteArray := prog_5_method_3_code
def yX3_passableWires : MethodName := ⟨RX3, "passableWires", "()I"⟩
abbrev cX3_endsStretch : ByteArray := prog_5_method_4_code
def yX3_endsStretch : MethodName := ⟨RX3, "endsStretch", "(I)Z"⟩
def RX4 : String := "FirePanel$Rule"
def TX4 : u_T := fun k => match k with
  | 0 => ("FirePanel$Rule", "steps", "[I", true)
  | 1 => ("FirePanel$Rule", "stepCount", "I", false)
  | 2 => ("FirePanel$Rule", "output", "I", false)
  | 3 => ("FirePanel$Rule", "delay", "I", false)
  | _ => ("FirePanel$Rule", "held", "I", false)
def tyX4 : Nat → FieldType := fun k => match k with
  | 0 => .array .int
  | 1 => .int
  | 2 => .int
  | 3 => .int
  | _ => .int
abbrev wsX40 : List Cond := u_ws RX4 TX4 5
theorem nmX4 : ∀ a, a < 5 → ∀ b, b < 5 → a ≠ b → (TX4 a).2.1 ≠ (TX4 b).2.1 := by decide +kernel
theorem tyX4_ok : ∀ k, k < 5 → parseFieldDescriptor (TX4 k).2.2.1 = some (tyX4 k) := by decide +kernel
abbrev cX4_init : ByteArray := prog_6_method_1_code
def yX4_init : MethodName := ⟨RX4, "<init>", "()V"⟩
abbrev cX4_clear : ByteArray := prog_6_method_2_code
def yX4_clear : MethodName := ⟨RX4, "clear", "()V"⟩
abbrev cX4_addStep : ByteArray := prog_6_method_3_code
def yX4_addStep : MethodName := ⟨RX4, "addStep", "(I)V"⟩
abbrev cX4_isTrue : ByteArray := prog_6_method_4_code
def yX4_isTrue : MethodName := ⟨RX4, "isTrue", "(I)Z"⟩
abbrev cX4_workOff : ByteArray := prog_6_method_5_code
def yX4_workOff : MethodName := ⟨RX4, "workOff", "(III)I"⟩
def RX5 : String := "FirePanel$Zone"
def TX5 : u_T := fun k => match k with
  | 0 => ("FirePanel$Zone", "needed", "I", false)
  | 1 => ("FirePanel$Zone", "inFire", "Z", false)
  | _ => ("FirePanel$Zone", "isOff", "Z", false)
def tyX5 : Nat → FieldType := fun k => match k with
  | 0 => .int
  | 1 => .boolean
  | _ => .boolean
abbrev wsX50 : List Cond := u_ws RX5 TX5 3
theorem nmX5 : ∀ a, a < 3 → ∀ b, b < 3 → a ≠ b → (TX5 a).2.1 ≠ (TX5 b).2.1 := by decide +kernel
theorem tyX5_ok : ∀ k, k < 3 → parseFieldDescriptor (TX5 k).2.2.1 = some (tyX5 k) := by decide +kernel
abbrev cX5_init : ByteArray := prog_7_method_1_code
def yX5_init : MethodName := ⟨RX5, "<init>", "()V"⟩
def RX6 : String := "FirePanel"
def TX6 : u_T := fun k => match k with
  | 0 => ("FirePanel", "ring", "LFirePanel$Ring;", true)
  | 1 => ("FirePanel", "zones", "[LFirePanel$Zone;", true)
  | 2 => ("FirePanel", "rules", "[LFirePanel$Rule;", true)
  | 3 => ("FirePanel", "outputsOn", "[Z", true)
  | 4 => ("FirePanel", "pad", "LFirePanel$Pad;", true)
  | 5 => ("FirePanel", "entries", "LFirePanel$Log;", true)
  | 6 => ("FirePanel", "ruleCount", "I", false)
  | 7 => ("FirePanel", "polls", "I", false)
  | 8 => ("FirePanel", "entered", "I", false)
  | _ => ("FirePanel", "silent", "Z", false)
def tyX6 : Nat → FieldType := fun k => match k with
  | 0 => .object "FirePanel$Ring"
  | 1 => .array (.object "FirePanel$Zone")
  | 2 => .array (.object "FirePanel$Rule")
  | 3 => .array .boolean
  | 4 => .object "FirePanel$Pad"
  | 5 => .object "FirePanel$Log"
  | 6 => .int
  | 7 => .int
  | 8 => .int
  | _ => .boolean
abbrev wsX60 : List Cond := u_ws RX6 TX6 10
theorem nmX6 : ∀ a, a < 10 → ∀ b, b < 10 → a ≠ b → (TX6 a).2.1 ≠ (TX6 b).2.1 := by decide +kernel
theorem tyX6_ok : ∀ k, k < 10 → parseFieldDescriptor (TX6 k).2.2.1 = some (tyX6 k) := by decide +kernel
abbrev cX6_init : ByteArray := prog_1_method_1_code
def yX6_init : MethodName := ⟨RX6, "<init>", "()V"⟩
abbrev cX6_fit : ByteArray := prog_1_method_2_code
def yX6_fit : MethodName := ⟨RX6, "fit", "(IIIF)V"⟩
abbrev cX6_need : ByteArray := prog_1_method_3_code
def yX6_need : MethodName := ⟨RX6, "need", "(II)V"⟩
abbrev cX6_wire : ByteArray := prog_1_method_4_code
def yX6_wire : MethodName := ⟨RX6, "wire", "(II)V"⟩
abbrev cX6_reading : ByteArray := prog_1_method_5_code
def yX6_reading : MethodName := ⟨RX6, "reading", "(IF)V"⟩
abbrev cX6_type : ByteArray := prog_1_method_6_code
def yX6_type : MethodName := ⟨RX6, "type", "(C)Z"⟩
abbrev cX6_rule : ByteArray := prog_1_method_7_code
def yX6_rule : MethodName := ⟨RX6, "rule", "()I"⟩
abbrev cX6_forget : ByteArray := prog_1_method_8_code
def yX6_forget : MethodName := ⟨RX6, "forget", "()I"⟩
abbrev cX6_poll : ByteArray := prog_1_method_9_code
def yX6_poll : MethodName := ⟨RX6, "poll", "()I"⟩
abbrev cX6_key : ByteArray := prog_1_method_10_code
def yX6_key : MethodName := ⟨RX6, "key", "(I)I"⟩
abbrev cX6_silence : ByteArray := prog_1_method_11_code
def yX6_silence : MethodName := ⟨RX6, "silence", "()Z"⟩
abbrev cX6_reset : ByteArray := prog_1_method_12_code
def yX6_reset : MethodName := ⟨RX6, "reset", "()I"⟩
abbrev cX6_off : ByteArray := prog_1_method_13_code
def yX6_off : MethodName := ⟨RX6, "off", "(ZIZ)Z"⟩
abbrev cX6_level : ByteArray := prog_1_method_14_code
def yX6_level : MethodName := ⟨RX6, "level", "(I)F"⟩
abbrev cX6_base : ByteArray := prog_1_method_15_code
def yX6_base : MethodName := ⟨RX6, "base", "(I)F"⟩
abbrev cX6_place : ByteArray := prog_1_method_16_code
def yX6_place : MethodName := ⟨RX6, "place", "(I)I"⟩
abbrev cX6_zone : ByteArray := prog_1_method_17_code
def yX6_zone : MethodName := ⟨RX6, "zone", "(I)I"⟩
abbrev cX6_output : ByteArray := prog_1_method_18_code
def yX6_output : MethodName := ⟨RX6, "output", "(I)I"⟩
abbrev cX6_held : ByteArray := prog_1_method_19_code
def yX6_held : MethodName := ⟨RX6, "held", "(I)I"⟩
abbrev cX6_log : ByteArray := prog_1_method_20_code
def yX6_log : MethodName := ⟨RX6, "log", "(II)I"⟩
abbrev cX6_count : ByteArray := prog_1_method_21_code
def yX6_count : MethodName := ⟨RX6, "count", "(I)I"⟩
abbrev cX6_mustExist : ByteArray := prog_1_method_22_code
def yX6_mustExist : MethodName := ⟨RX6, "mustExist", "(II)V"⟩
abbrev cX6_mustBeAllowed : ByteArray := prog_1_method_23_code
def yX6_mustBeAllowed : MethodName := ⟨RX6, "mustBeAllowed", "(Z)V"⟩
abbrev cX6_mustHaveEntered : ByteArray := prog_1_method_24_code
def yX6_mustHaveEntered : MethodName := ⟨RX6, "mustHaveEntered", "(I)V"⟩
abbrev cX6_askPlaces : ByteArray := prog_1_method_25_code
def yX6_askPlaces : MethodName := ⟨RX6, "askPlaces", "()V"⟩
abbrev cX6_noteMiss : ByteArray := prog_1_method_26_code
def yX6_noteMiss : MethodName := ⟨RX6, "noteMiss", "(LFirePanel$Place;I)V"⟩
abbrev cX6_noteAnswer : ByteArray := prog_1_method_27_code
def yX6_noteAnswer : MethodName := ⟨RX6, "noteAnswer", "(LFirePanel$Place;I)V"⟩
abbrev cX6_watchZones : ByteArray := prog_1_method_28_code
def yX6_watchZones : MethodName := ⟨RX6, "watchZones", "()I"⟩
abbrev cX6_hasEnoughAlarms : ByteArray := prog_1_method_29_code
def yX6_hasEnoughAlarms : MethodName := ⟨RX6, "hasEnoughAlarms", "(II)Z"⟩
abbrev cX6_hasWarning : ByteArray := prog_1_method_30_code
def yX6_hasWarning : MethodName := ⟨RX6, "hasWarning", "(I)Z"⟩
abbrev cX6_faults : ByteArray := prog_1_method_31_code
def yX6_faults : MethodName := ⟨RX6, "faults", "()I"⟩
abbrev cX6_facts : ByteArray := prog_1_method_32_code
def yX6_facts : MethodName := ⟨RX6, "facts", "()I"⟩
abbrev cX6_followRules : ByteArray := prog_1_method_33_code
def yX6_followRules : MethodName := ⟨RX6, "followRules", "()V"⟩
abbrev cX6_driveOutputs : ByteArray := prog_1_method_34_code
def yX6_driveOutputs : MethodName := ⟨RX6, "driveOutputs", "()V"⟩
abbrev cX6_isDriven : ByteArray := prog_1_method_35_code
def yX6_isDriven : MethodName := ⟨RX6, "isDriven", "(I)Z"⟩
abbrev cX6_allOutputsOff : ByteArray := prog_1_method_36_code
def yX6_allOutputsOff : MethodName := ⟨RX6, "allOutputsOff", "()V"⟩
def RX7 : String := "FirePanelModel"
def TX7 : u_T := fun k => match k with
  | 0 => ("FirePanelModel", "thrown", "I", false)
  | 1 => ("FirePanelModel", "wires", "[I", true)
  | 2 => ("FirePanelModel", "kind", "[I", true)
  | 3 => ("FirePanelModel", "zoneOf", "[I", true)
  | 4 => ("FirePanelModel", "threshold", "[F", true)
  | 5 => ("FirePanelModel", "readings", "[F", true)
  | 6 => ("FirePanelModel", "bases", "[F", true)
  | 7 => ("FirePanelModel", "levels", "[F", true)
  | 8 => ("FirePanelModel", "over", "[I", true)
  | 9 => ("FirePanelModel", "alarm", "[Z", true)
  | 10 => ("FirePanelModel", "missed", "[I", true)
  | 11 => ("FirePanelModel", "fault", "[Z", true)
  | 12 => ("FirePanelModel", "placeOff", "[Z", true)
  | 13 => ("FirePanelModel", "zoneOff", "[Z", true)
  | 14 => ("FirePanelModel", "needs", "[I", true)
  | 15 => ("FirePanelModel", "fire", "[Z", true)
  | 16 => ("FirePanelModel", "rules", "I", false)
  | 17 => ("FirePanelModel", "words", "[I", true)
  | 18 => ("FirePanelModel", "length", "[I", true)
  | 19 => ("FirePanelModel", "drives", "[I", true)
  | 20 => ("FirePanelModel", "delay", "[I", true)
  | 21 => ("FirePanelModel", "heldFor", "[I", true)
  | 22 => ("FirePanelModel", "on", "[Z", true)
  | 23 => ("FirePanelModel", "typed", "I", false)
  | 24 => ("FirePanelModel", "pad", "[C", true)
  | 25 => ("FirePanelModel", "polls", "I", false)
  | 26 => ("FirePanelModel", "access", "I", false)
  | 27 => ("FirePanelModel", "quiet", "Z", false)
  | 28 => ("FirePanelModel", "entries", "I", false)
  | 29 => ("FirePanelModel", "logged", "[I", true)
  | 30 => ("FirePanelModel", "waits", "I", false)
  | 31 => ("FirePanelModel", "waiting", "[C", true)
  | 32 => ("FirePanelModel", "made", "I", false)
  | _ => ("FirePanelModel", "making", "[I", true)
def tyX7 : Nat → FieldType := fun k => match k with
  | 0 => .int
  | 1 => .array .int
  | 2 => .array .int
  | 3 => .array .int
  | 4 => .array .float
  | 5 => .array .float
  | 6 => .array .float
  | 7 => .array .float
  | 8 => .array .int
  | 9 => .array .boolean
  | 10 => .array .int
  | 11 => .array .boolean
  | 12 => .array .boolean
  | 13 => .array .boolean
  | 14 => .array .int
  | 15 => .array .boolean
  | 16 => .int
  | 17 => .array .int
  | 18 => .array .int
  | 19 => .array .int
  | 20 => .array .int
  | 21 => .array .int
  | 22 => .array .boolean
  | 23 => .int
  | 24 => .array .char
  | 25 => .int
  | 26 => .int
  | 27 => .boolean
  | 28 => .int
  | 29 => .array .int
  | 30 => .int
  | 31 => .array .char
  | 32 => .int
  | _ => .array .int
abbrev wsX70 : List Cond := u_ws RX7 TX7 34
theorem nmX7 : ∀ a, a < 34 → ∀ b, b < 34 → a ≠ b → (TX7 a).2.1 ≠ (TX7 b).2.1 := by decide +kernel
theorem tyX7_ok : ∀ k, k < 34 → parseFieldDescriptor (TX7 k).2.2.1 = some (tyX7 k) := by decide +kernel
abbrev cX7_init : ByteArray := prog_9_method_1_code
def yX7_init : MethodName := ⟨RX7, "<init>", "()V"⟩
abbrev cX7_thrown : ByteArray := prog_9_method_2_code
def yX7_thrown : MethodName := ⟨RX7, "thrown", "()I"⟩
abbrev cX7_in : ByteArray := prog_9_method_3_code
def yX7_in : MethodName := ⟨RX7, "in", "(III)Z"⟩
abbrev cX7_stretchShort : ByteArray := prog_9_method_4_code
def yX7_stretchShort : MethodName := ⟨RX7, "stretchShort", "(I)Z"⟩
abbrev cX7_goes : ByteArray := prog_9_method_5_code
def yX7_goes : MethodName := ⟨RX7, "goes", "(I)Z"⟩
abbrev cX7_reached : ByteArray := prog_9_method_6_code
def yX7_reached : MethodName := ⟨RX7, "reached", "(I)Z"⟩
abbrev cX7_isSensor : ByteArray := prog_9_method_7_code
def yX7_isSensor : MethodName := ⟨RX7, "isSensor", "(I)Z"⟩
abbrev cX7_fit : ByteArray := prog_9_method_8_code
def yX7_fit : MethodName := ⟨RX7, "fit", "(IIIF)V"⟩
abbrev cX7_need : ByteArray := prog_9_method_9_code
def yX7_need : MethodName := ⟨RX7, "need", "(II)V"⟩
abbrev cX7_wire : ByteArray := prog_9_method_10_code
def yX7_wire : MethodName := ⟨RX7, "wire", "(II)V"⟩
abbrev cX7_reading : ByteArray := prog_9_method_11_code
def yX7_reading : MethodName := ⟨RX7, "reading", "(IF)V"⟩
abbrev cX7_type : ByteArray := prog_9_method_12_code
def yX7_type : MethodName := ⟨RX7, "type", "(C)Z"⟩
abbrev cX7_look : ByteArray := prog_9_method_13_code
def yX7_look : MethodName := ⟨RX7, "look", "(I)C"⟩
abbrev cX7_word : ByteArray := prog_9_method_14_code
def yX7_word : MethodName := ⟨RX7, "word", "(I)V"⟩
abbrev cX7_deepness : ByteArray := prog_9_method_15_code
def yX7_deepness : MethodName := ⟨RX7, "deepness", "()I"⟩
abbrev cX7_termDone : ByteArray := prog_9_method_16_code
def yX7_termDone : MethodName := ⟨RX7, "termDone", "()V"⟩
abbrev cX7_put : ByteArray := prog_9_method_17_code
def yX7_put : MethodName := ⟨RX7, "put", "(C)V"⟩
abbrev cX7_condition : ByteArray := prog_9_method_18_code
def yX7_condition : MethodName := ⟨RX7, "condition", "()I"⟩
abbrev cX7_read : ByteArray := prog_9_method_19_code
def yX7_read : MethodName := ⟨RX7, "read", "(I)I"⟩
abbrev cX7_rule : ByteArray := prog_9_method_20_code
def yX7_rule : MethodName := ⟨RX7, "rule", "()I"⟩
abbrev cX7_forget : ByteArray := prog_9_method_21_code
def yX7_forget : MethodName := ⟨RX7, "forget", "()I"⟩
abbrev cX7_note : ByteArray := prog_9_method_22_code
def yX7_note : MethodName := ⟨RX7, "note", "(II)V"⟩
abbrev cX7_warns : ByteArray := prog_9_method_23_code
def yX7_warns : MethodName := ⟨RX7, "warns", "(I)Z"⟩
abbrev cX7_faults : ByteArray := prog_9_method_24_code
def yX7_faults : MethodName := ⟨RX7, "faults", "()I"⟩
abbrev cX7_sense : ByteArray := prog_9_method_25_code
def yX7_sense : MethodName := ⟨RX7, "sense", "(I)V"⟩
abbrev cX7_ask : ByteArray := prog_9_method_26_code
def yX7_ask : MethodName := ⟨RX7, "ask", "(I)V"⟩
abbrev cX7_burns : ByteArray := prog_9_method_27_code
def yX7_burns : MethodName := ⟨RX7, "burns", "(I)Z"⟩
abbrev cX7_holds : ByteArray := prog_9_method_28_code
def yX7_holds : MethodName := ⟨RX7, "holds", "(I)Z"⟩
abbrev cX7_drive : ByteArray := prog_9_method_29_code
def yX7_drive : MethodName := ⟨RX7, "drive", "()V"⟩
abbrev cX7_poll : ByteArray := prog_9_method_30_code
def yX7_poll : MethodName := ⟨RX7, "poll", "()I"⟩
abbrev cX7_key : ByteArray := prog_9_method_31_code
def yX7_key : MethodName := ⟨RX7, "key", "(I)I"⟩
abbrev cX7_silence : ByteArray := prog_9_method_32_code
def yX7_silence : MethodName := ⟨RX7, "silence", "()Z"⟩
abbrev cX7_reset : ByteArray := prog_9_method_33_code
def yX7_reset : MethodName := ⟨RX7, "reset", "()I"⟩
abbrev cX7_off : ByteArray := prog_9_method_34_code
def yX7_off : MethodName := ⟨RX7, "off", "(ZIZ)Z"⟩
abbrev cX7_level : ByteArray := prog_9_method_35_code
def yX7_level : MethodName := ⟨RX7, "level", "(I)F"⟩
abbrev cX7_base : ByteArray := prog_9_method_36_code
def yX7_base : MethodName := ⟨RX7, "base", "(I)F"⟩
abbrev cX7_place : ByteArray := prog_9_method_37_code
def yX7_place : MethodName := ⟨RX7, "place", "(I)I"⟩
abbrev cX7_zone : ByteArray := prog_9_method_38_code
def yX7_zone : MethodName := ⟨RX7, "zone", "(I)I"⟩
abbrev cX7_output : ByteArray := prog_9_method_39_code
def yX7_output : MethodName := ⟨RX7, "output", "(I)I"⟩
abbrev cX7_held : ByteArray := prog_9_method_40_code
def yX7_held : MethodName := ⟨RX7, "held", "(I)I"⟩
abbrev cX7_log : ByteArray := prog_9_method_41_code
def yX7_log : MethodName := ⟨RX7, "log", "(II)I"⟩
abbrev cX7_count : ByteArray := prog_9_method_42_code
def yX7_count : MethodName := ⟨RX7, "count", "(I)I"⟩
def RJ9 : String := "java/lang/Math"
def TJ9 : u_T := fun k => match k with
  | _ => ("", "", "", false)
def tyJ9 : Nat → FieldType := fun k => match k with
  | _ => .int
abbrev wsJ90 : List Cond := u_ws RJ9 TJ9 0
theorem nmJ9 : ∀ a, a < 0 → ∀ b, b < 0 → a ≠ b → (TJ9 a).2.1 ≠ (TJ9 b).2.1 := by decide +kernel
theorem tyJ9_ok : ∀ k, k < 0 → parseFieldDescriptor (TJ9 k).2.2.1 = some (tyJ9 k) := by decide +kernel
abbrev cJ9_min_7cf53 : ByteArray := prog_13_method_69_code
def yJ9_min_7cf53 : MethodName := ⟨RJ9, "min", "(II)I"⟩
def RJ0 : String := "java/lang/String"
def TJ0 : u_T := fun k => match k with
  | _ => ("", "", "", false)
def tyJ0 : Nat → FieldType := fun k => match k with
  | _ => .int
abbrev wsJ00 : List Cond := u_ws RJ0 TJ0 0
theorem nmJ0 : ∀ a, a < 0 → ∀ b, b < 0 → a ≠ b → (TJ0 a).2.1 ≠ (TJ0 b).2.1 := by decide +kernel
theorem tyJ0_ok : ∀ k, k < 0 → parseFieldDescriptor (TJ0 k).2.2.1 = some (tyJ0 k) := by decide +kernel
def RJ10 : String := "java/lang/System"
def TJ10 : u_T := fun k => match k with
  | _ => ("", "", "", false)
def tyJ10 : Nat → FieldType := fun k => match k with
  | _ => .int
abbrev wsJ100 : List Cond := u_ws RJ10 TJ10 0
theorem nmJ10 : ∀ a, a < 0 → ∀ b, b < 0 → a ≠ b → (TJ10 a).2.1 ≠ (TJ10 b).2.1 := by decide +kernel
theorem tyJ10_ok : ∀ k, k < 0 → parseFieldDescriptor (TJ10 k).2.2.1 = some (tyJ10 k) := by decide +kernel
def RL : String := "FirePanelLaw"
abbrev cL_fit : ByteArray := method_3_code
def yL_fit : MethodName := ⟨RL, "fit", "(LFirePanel;IIIF)I"⟩
abbrev cL_need : ByteArray := method_4_code
def yL_need : MethodName := ⟨RL, "need", "(LFirePanel;II)I"⟩
abbrev cL_wire : ByteArray := method_5_code
def yL_wire : MethodName := ⟨RL, "wire", "(LFirePanel;II)I"⟩
abbrev cL_reading : ByteArray := method_6_code
def yL_reading : MethodName := ⟨RL, "reading", "(LFirePanel;IF)I"⟩
abbrev cL_rule : ByteArray := method_7_code
def yL_rule : MethodName := ⟨RL, "rule", "(LFirePanel;[J)I"⟩
abbrev cL_forget : ByteArray := method_8_code
def yL_forget : MethodName := ⟨RL, "forget", "(LFirePanel;[J)I"⟩
abbrev cL_silence : ByteArray := method_9_code
def yL_silence : MethodName := ⟨RL, "silence", "(LFirePanel;[J)I"⟩
abbrev cL_reset : ByteArray := method_10_code
def yL_reset : MethodName := ⟨RL, "reset", "(LFirePanel;[J)I"⟩
abbrev cL_off : ByteArray := method_11_code
def yL_off : MethodName := ⟨RL, "off", "(LFirePanel;ZIZ[J)I"⟩
abbrev cL_level : ByteArray := method_12_code
def yL_level : MethodName := ⟨RL, "level", "(LFirePanel;I[D)I"⟩
abbrev cL_base : ByteArray := method_13_code
def yL_base : MethodName := ⟨RL, "base", "(LFirePanel;I[D)I"⟩
abbrev cL_place : ByteArray := method_14_code
def yL_place : MethodName := ⟨RL, "place", "(LFirePanel;I[J)I"⟩
abbrev cL_zone : ByteArray := method_15_code
def yL_zone : MethodName := ⟨RL, "zone", "(LFirePanel;I[J)I"⟩
abbrev cL_output : ByteArray := method_16_code
def yL_output : MethodName := ⟨RL, "output", "(LFirePanel;I[J)I"⟩
abbrev cL_held : ByteArray := method_17_code
def yL_held : MethodName := ⟨RL, "held", "(LFirePanel;I[J)I"⟩
abbrev cL_log : ByteArray := method_18_code
def yL_log : MethodName := ⟨RL, "log", "(LFirePanel;II[J)I"⟩
abbrev cL_count : ByteArray := method_19_code
def yL_count : MethodName := ⟨RL, "count", "(LFirePanel;I[J)I"⟩
abbrev cL_law : ByteArray := code
def yL_law : MethodName := ⟨RL, "law", "([I)Z"⟩
def wsX0_init : List Cond := .code yX0_init cX0_init 1 none :: ([.methodLink RX0 3 objectInit, .instanceMethod objectInit, .code objectInit ⟨#[0xb1]⟩ 1 none, .arrayClass .int, .fieldLink RX0 9 "FirePanel$Log" "words" "[I"] ++ wsX00)
def wsX0_add : List Cond := .code yX0_add cX0_add 4 none :: ([.fieldLink RX0 9 "FirePanel$Log" "words" "[I", .methodLink RX0 15 arraycopyName, .native arraycopyName, .static arraycopyName, .initialized "java/lang/System", .fieldLink RX0 21 "FirePanel$Log" "size" "I", .methodLink RX0 25 Lib.Math.min.name, .static Lib.Math.min.name, .initialized "java/lang/Math", .code Lib.Math.min.name Lib.Math.min.code 2 (some .int)] ++ wsX00)
def wsX1_init : List Cond := .code yX1_init cX1_init 1 none :: ([.methodLink RX1 3 objectInit, .instanceMethod objectInit, .code objectInit ⟨#[0xb1]⟩ 1 none, .arrayClass .char, .fieldLink RX1 9 "FirePanel$Pad" "text" "[C"] ++ wsX10)
def wsX1_standsInRules : List Cond := .code yX1_standsInRules cX1_standsInRules 1 (some .boolean) :: ([])
def wsX1_append : List Cond := .code yX1_append cX1_append 2 (some .boolean) :: ([.fieldLink RX1 19 "FirePanel$Pad" "length" "I", .fieldLink RX1 9 "FirePanel$Pad" "text" "[C", .methodLink RX1 15 yX1_standsInRules, .static yX1_standsInRules, .initialized RX1, .code yX1_standsInRules cX1_standsInRules 1 (some .boolean)] ++ wsX10)
def wsX4_clear : List Cond := .code yX4_clear cX4_clear 1 none :: ([.fieldLink RX4 15 "FirePanel$Rule" "stepCount" "I", .fieldLink RX4 19 "FirePanel$Rule" "output" "I", .fieldLink RX4 22 "FirePanel$Rule" "delay" "I", .fieldLink RX4 25 "FirePanel$Rule" "held" "I"] ++ wsX40)
def wsX1_sees : List Cond := .code yX1_sees cX1_sees 2 (some .boolean) :: ([.fieldLink RX1 23 "FirePanel$Pad" "at" "I", .fieldLink RX1 19 "FirePanel$Pad" "length" "I", .fieldLink RX1 9 "FirePanel$Pad" "text" "[C"] ++ wsX10)
def wsX4_addStep : List Cond := .code yX4_addStep cX4_addStep 2 none :: ([.fieldLink RX4 15 "FirePanel$Rule" "stepCount" "I", .fieldLink RX4 9 "FirePanel$Rule" "steps" "[I"] ++ wsX40)
def wsX1_passes : List Cond := .code yX1_passes cX1_passes 2 (some .boolean) :: ([.fieldLink RX1 23 "FirePanel$Pad" "at" "I", .methodLink RX1 42 yX1_sees, .instanceMethod yX1_sees, .selects RX1 yX1_sees yX1_sees, .initialized RX1, .code yX1_sees cX1_sees 2 (some .boolean), .fieldLink RX1 19 "FirePanel$Pad" "length" "I", .fieldLink RX1 9 "FirePanel$Pad" "text" "[C"] ++ wsX10)
def wsX1_readDigit : List Cond := .code yX1_readDigit cX1_readDigit 3 (some .int) :: ([.fieldLink RX1 23 "FirePanel$Pad" "at" "I", .fieldLink RX1 19 "FirePanel$Pad" "length" "I", .fieldLink RX1 9 "FirePanel$Pad" "text" "[C"] ++ wsX10)
def wsX1_readZone : List Cond := .code yX1_readZone cX1_readZone 4 (some .boolean) :: ([.methodLink RX1 55 yX1_readDigit, .instanceMethod yX1_readDigit, .selects RX1 yX1_readDigit yX1_readDigit, .initialized RX1, .code yX1_readDigit cX1_readDigit 3 (some .int), .fieldLink RX1 23 "FirePanel$Pad" "at" "I", .fieldLink RX1 19 "FirePanel$Pad" "length" "I", .fieldLink RX1 9 "FirePanel$Pad" "text" "[C", .methodLink RX1 45 yX4_addStep, .instanceMethod yX4_addStep, .selects RX4 yX4_addStep yX4_addStep, .initialized RX4, .code yX4_addStep cX4_addStep 2 none, .fieldLink RX4 15 "FirePanel$Rule" "stepCount" "I", .fieldLink RX4 9 "FirePanel$Rule" "steps" "[I"] ++ wsX10 ++ wsX40)
def wsX1_readCondition_r1 : List Cond := [Cond.fieldLink RX1 23 "FirePanel$Pad" "at" "I", Cond.methodLink RX1 39 yX1_readTerm, Cond.instanceMethod yX1_readTerm, Cond.selects RX1 yX1_readTerm yX1_readTerm, Cond.initialized RX1, Cond.methodLink RX1 42 yX1_sees, Cond.instanceMethod yX1_sees, Cond.selects RX1 yX1_sees yX1_sees, Cond.code yX1_sees cX1_sees 2 (some .boolean), Cond.fieldLink RX1 19 "FirePanel$Pad" "length" "I", Cond.fieldLink RX1 9 "FirePanel$Pad" "text" "[C", Cond.methodLink RX1 45 yX4_addStep, Cond.instanceMethod yX4_addStep, Cond.selects RX4 yX4_addStep yX4_addStep, Cond.initialized RX4, Cond.code yX4_addStep cX4_addStep 2 none, Cond.fieldLink RX4 15 "FirePanel$Rule" "stepCount" "I", Cond.fieldLink RX4 9 "FirePanel$Rule" "steps" "[I", Cond.code yX1_readTerm cX1_readTerm 3 (some .boolean), Cond.methodLink RX1 49 yX1_passes, Cond.instanceMethod yX1_passes, Cond.selects RX1 yX1_passes yX1_passes, Cond.code yX1_passes cX1_passes 2 (some .boolean), Cond.methodLink RX1 52 yX1_readZone]
def wsX1_readCondition_r2 : List Cond := [Cond.instanceMethod yX1_readZone, Cond.selects RX1 yX1_readZone yX1_readZone, Cond.code yX1_readZone cX1_readZone 4 (some .boolean), Cond.methodLink RX1 55 yX1_readDigit, Cond.instanceMethod yX1_readDigit, Cond.selects RX1 yX1_readDigit yX1_readDigit, Cond.code yX1_readDigit cX1_readDigit 3 (some .int), Cond.methodLink RX1 31 yX1_readCondition, Cond.instanceMethod yX1_readCondition, Cond.selects RX1 yX1_readCondition yX1_readCondition]
def wsX1_readCondition : List Cond := .code yX1_readCondition cX1_readCondition 5 (some .boolean) :: ((wsX1_readCondition_r1 ++ wsX1_readCondition_r2) ++ wsX10 ++ wsX40)
def wsX1_readTerm_r1 : List Cond := [Cond.methodLink RX1 49 yX1_passes, Cond.instanceMethod yX1_passes, Cond.selects RX1 yX1_passes yX1_passes, Cond.initialized RX1, Cond.code yX1_passes cX1_passes 2 (some .boolean), Cond.fieldLink RX1 23 "FirePanel$Pad" "at" "I", Cond.methodLink RX1 42 yX1_sees, Cond.instanceMethod yX1_sees, Cond.selects RX1 yX1_sees yX1_sees, Cond.code yX1_sees cX1_sees 2 (some .boolean), Cond.fieldLink RX1 19 "FirePanel$Pad" "length" "I", Cond.fieldLink RX1 9 "FirePanel$Pad" "text" "[C", Cond.methodLink RX1 52 yX1_readZone, Cond.instanceMethod yX1_readZone, Cond.selects RX1 yX1_readZone yX1_readZone, Cond.code yX1_readZone cX1_readZone 4 (some .boolean), Cond.methodLink RX1 55 yX1_readDigit, Cond.instanceMethod yX1_readDigit, Cond.selects RX1 yX1_readDigit yX1_readDigit, Cond.code yX1_readDigit cX1_readDigit 3 (some .int), Cond.methodLink RX1 45 yX4_addStep, Cond.instanceMethod yX4_addStep, Cond.selects RX4 yX4_addStep yX4_addStep, Cond.initialized RX4]
def wsX1_readTerm_r2 : List Cond := [Cond.code yX4_addStep cX4_addStep 2 none, Cond.fieldLink RX4 15 "FirePanel$Rule" "stepCount" "I", Cond.fieldLink RX4 9 "FirePanel$Rule" "steps" "[I", Cond.methodLink RX1 31 yX1_readCondition, Cond.instanceMethod yX1_readCondition, Cond.selects RX1 yX1_readCondition yX1_readCondition, Cond.methodLink RX1 39 yX1_readTerm, Cond.instanceMethod yX1_readTerm, Cond.selects RX1 yX1_readTerm yX1_readTerm, Cond.code yX1_readCondition cX1_readCondition 5 (some .boolean)]
def wsX1_readTerm : List Cond := .code yX1_readTerm cX1_readTerm 3 (some .boolean) :: ((wsX1_readTerm_r1 ++ wsX1_readTerm_r2) ++ wsX10 ++ wsX40)
def wsX1_readTarget : List Cond := .code yX1_readTarget cX1_readTarget 2 (some .boolean) :: ([.fieldLink RX1 59 "FirePanel$Rule" "output" "I", .fieldLink RX1 62 "FirePanel$Rule" "delay" "I", .methodLink RX1 49 yX1_passes, .instanceMethod yX1_passes, .selects RX1 yX1_passes yX1_passes, .initialized RX1, .code yX1_passes cX1_passes 2 (some .boolean), .fieldLink RX1 23 "FirePanel$Pad" "at" "I", .methodLink RX1 42 yX1_sees, .instanceMethod yX1_sees, .selects RX1 yX1_sees yX1_sees, .code yX1_sees cX1_sees 2 (some .boolean), .fieldLink RX1 19 "FirePanel$Pad" "length" "I", .fieldLink RX1 9 "FirePanel$Pad" "text" "[C", .methodLink RX1 55 yX1_readDigit, .instanceMethod yX1_readDigit, .selects RX1 yX1_readDigit yX1_readDigit, .code yX1_readDigit cX1_readDigit 3 (some .int)] ++ wsX40 ++ wsX10)
def wsX1_readInto_r1 : List Cond := [Cond.fieldLink RX1 23 "FirePanel$Pad" "at" "I", Cond.fieldLink RX1 19 "FirePanel$Pad" "length" "I", Cond.methodLink RX1 26 yX4_clear, Cond.instanceMethod yX4_clear, Cond.selects RX4 yX4_clear yX4_clear, Cond.initialized RX4, Cond.code yX4_clear cX4_clear 1 none, Cond.fieldLink RX4 15 "FirePanel$Rule" "stepCount" "I", Cond.fieldLink RX4 19 "FirePanel$Rule" "output" "I", Cond.fieldLink RX4 22 "FirePanel$Rule" "delay" "I", Cond.fieldLink RX4 25 "FirePanel$Rule" "held" "I", Cond.methodLink RX1 31 yX1_readCondition, Cond.instanceMethod yX1_readCondition, Cond.selects RX1 yX1_readCondition yX1_readCondition, Cond.initialized RX1, Cond.code yX1_readCondition cX1_readCondition 5 (some .boolean), Cond.methodLink RX1 39 yX1_readTerm, Cond.instanceMethod yX1_readTerm, Cond.selects RX1 yX1_readTerm yX1_readTerm, Cond.methodLink RX1 42 yX1_sees, Cond.instanceMethod yX1_sees, Cond.selects RX1 yX1_sees yX1_sees, Cond.code yX1_sees cX1_sees 2 (some .boolean), Cond.fieldLink RX1 9 "FirePanel$Pad" "text" "[C"]
def wsX1_readInto_r2 : List Cond := [Cond.methodLink RX1 45 yX4_addStep, Cond.instanceMethod yX4_addStep, Cond.selects RX4 yX4_addStep yX4_addStep, Cond.code yX4_addStep cX4_addStep 2 none, Cond.fieldLink RX4 9 "FirePanel$Rule" "steps" "[I", Cond.code yX1_readTerm cX1_readTerm 3 (some .boolean), Cond.methodLink RX1 49 yX1_passes, Cond.instanceMethod yX1_passes, Cond.selects RX1 yX1_passes yX1_passes, Cond.code yX1_passes cX1_passes 2 (some .boolean), Cond.methodLink RX1 52 yX1_readZone, Cond.instanceMethod yX1_readZone, Cond.selects RX1 yX1_readZone yX1_readZone, Cond.code yX1_readZone cX1_readZone 4 (some .boolean), Cond.methodLink RX1 55 yX1_readDigit, Cond.instanceMethod yX1_readDigit, Cond.selects RX1 yX1_readDigit yX1_readDigit, Cond.code yX1_readDigit cX1_readDigit 3 (some .int), Cond.methodLink RX1 35 yX1_readTarget, Cond.instanceMethod yX1_readTarget, Cond.selects RX1 yX1_readTarget yX1_readTarget, Cond.code yX1_readTarget cX1_readTarget 2 (some .boolean), Cond.fieldLink RX1 59 "FirePanel$Rule" "output" "I", Cond.fieldLink RX1 62 "FirePanel$Rule" "delay" "I"]
def wsX1_readInto : List Cond := .code yX1_readInto cX1_readInto 3 (some .int) :: ((wsX1_readInto_r1 ++ wsX1_readInto_r2) ++ wsX10 ++ wsX40)
def wsX2_init : List Cond := .code yX2_init cX2_init 1 none :: ([.methodLink RX2 3 objectInit, .instanceMethod objectInit, .code objectInit ⟨#[0xb1]⟩ 1 none])
def wsX2_begin : List Cond := .code yX2_begin cX2_begin 4 none :: ([.fieldLink RX2 9 "FirePanel$Place" "kind" "I", .fieldLink RX2 15 "FirePanel$Place" "zone" "I", .fieldLink RX2 18 "FirePanel$Place" "threshold" "F", .fieldLink RX2 22 "FirePanel$Place" "base" "F", .fieldLink RX2 25 "FirePanel$Place" "level" "F", .fieldLink RX2 28 "FirePanel$Place" "over" "I", .fieldLink RX2 31 "FirePanel$Place" "inAlarm" "Z", .fieldLink RX2 35 "FirePanel$Place" "missed" "I", .fieldLink RX2 38 "FirePanel$Place" "atFault" "Z"] ++ wsX20)
def wsX2_isSensor : List Cond := .code yX2_isSensor cX2_isSensor 1 (some .boolean) :: ([.fieldLink RX2 9 "FirePanel$Place" "kind" "I"] ++ wsX20)
def wsX2_watches : List Cond := .code yX2_watches cX2_watches 2 (some .boolean) :: ([.fieldLink RX2 15 "FirePanel$Place" "zone" "I", .fieldLink RX2 45 "FirePanel$Place" "isOff" "Z", .methodLink RX2 41 yX2_isSensor, .instanceMethod yX2_isSensor, .selects RX2 yX2_isSensor yX2_isSensor, .initialized RX2, .code yX2_isSensor cX2_isSensor 1 (some .boolean), .fieldLink RX2 9 "FirePanel$Place" "kind" "I"] ++ wsX20)
def wsX2_warns : List Cond := .code yX2_warns cX2_warns 1 (some .boolean) :: ([.fieldLink RX2 31 "FirePanel$Place" "inAlarm" "Z", .fieldLink RX2 9 "FirePanel$Place" "kind" "I", .fieldLink RX2 25 "FirePanel$Place" "level" "F", .fieldLink RX2 18 "FirePanel$Place" "threshold" "F", .constantFloat RX2 48 (1061158912)] ++ wsX20)
def wsX2_countOver : List Cond := .code yX2_countOver cX2_countOver 1 none :: ([.fieldLink RX2 25 "FirePanel$Place" "level" "F", .fieldLink RX2 18 "FirePanel$Place" "threshold" "F", .fieldLink RX2 28 "FirePanel$Place" "over" "I"] ++ wsX20)
def wsX2_senseSmoke : List Cond := .code yX2_senseSmoke cX2_senseSmoke 2 none :: ([.fieldLink RX2 58 "FirePanel$Place" "reading" "F", .fieldLink RX2 22 "FirePanel$Place" "base" "F", .fieldLink RX2 25 "FirePanel$Place" "level" "F", .constantFloat RX2 61 (1056964608), .fieldLink RX2 28 "FirePanel$Place" "over" "I", .constantFloat RX2 65 (1031798784), .methodLink RX2 62 yX2_countOver, .instanceMethod yX2_countOver, .selects RX2 yX2_countOver yX2_countOver, .initialized RX2, .code yX2_countOver cX2_countOver 1 none, .fieldLink RX2 18 "FirePanel$Place" "threshold" "F"] ++ wsX20)
def wsX2_senseHeat : List Cond := .code yX2_senseHeat cX2_senseHeat 1 none :: ([.fieldLink RX2 58 "FirePanel$Place" "reading" "F", .fieldLink RX2 22 "FirePanel$Place" "base" "F", .constantFloat RX2 66 (1082130432), .constantFloat RX2 67 (1048576000), .fieldLink RX2 25 "FirePanel$Place" "level" "F", .methodLink RX2 62 yX2_countOver, .instanceMethod yX2_countOver, .selects RX2 yX2_countOver yX2_countOver, .initialized RX2, .code yX2_countOver cX2_countOver 1 none, .fieldLink RX2 18 "FirePanel$Place" "threshold" "F", .fieldLink RX2 28 "FirePanel$Place" "over" "I"] ++ wsX20)
def wsX2_senseButton : List Cond := .code yX2_senseButton cX2_senseButton 1 none :: ([.fieldLink RX2 58 "FirePanel$Place" "reading" "F", .fieldLink RX2 28 "FirePanel$Place" "over" "I", .fieldLink RX2 25 "FirePanel$Place" "level" "F"] ++ wsX20)
def wsX2_sense_r1 : List Cond := [Cond.fieldLink RX2 9 "FirePanel$Place" "kind" "I", Cond.fieldLink RX2 28 "FirePanel$Place" "over" "I", Cond.fieldLink RX2 31 "FirePanel$Place" "inAlarm" "Z", Cond.methodLink RX2 49 yX2_senseSmoke, Cond.instanceMethod yX2_senseSmoke, Cond.selects RX2 yX2_senseSmoke yX2_senseSmoke, Cond.initialized RX2, Cond.code yX2_senseSmoke cX2_senseSmoke 2 none, Cond.fieldLink RX2 58 "FirePanel$Place" "reading" "F", Cond.fieldLink RX2 22 "FirePanel$Place" "base" "F", Cond.fieldLink RX2 25 "FirePanel$Place" "level" "F", Cond.constantFloat RX2 61 (1056964608), Cond.constantFloat RX2 65 (1031798784), Cond.methodLink RX2 62 yX2_countOver, Cond.instanceMethod yX2_countOver, Cond.selects RX2 yX2_countOver yX2_countOver, Cond.code yX2_countOver cX2_countOver 1 none, Cond.fieldLink RX2 18 "FirePanel$Place" "threshold" "F", Cond.methodLink RX2 52 yX2_senseHeat, Cond.instanceMethod yX2_senseHeat, Cond.selects RX2 yX2_senseHeat yX2_senseHeat, Cond.code yX2_senseHeat cX2_senseHeat 1 none, Cond.constantFloat RX2 66 (1082130432), Cond.constantFloat RX2 67 (1048576000)]
def wsX2_sense_r2 : List Cond := [Cond.methodLink RX2 55 yX2_senseButton, Cond.instanceMethod yX2_senseButton, Cond.selects RX2 yX2_senseButton yX2_senseButton, Cond.code yX2_senseButton cX2_senseButton 1 none]
def wsX2_sense : List Cond := .code yX2_sense cX2_sense 1 none :: ((wsX2_sense_r1 ++ wsX2_sense_r2) ++ wsX20)
def wsX2_calmDown : List Cond := .code yX2_calmDown cX2_calmDown 1 none :: ([.fieldLink RX2 31 "FirePanel$Place" "inAlarm" "Z", .fieldLink RX2 28 "FirePanel$Place" "over" "I"] ++ wsX20)
def wsX3_init : List Cond := .code yX3_init cX3_init 2 none :: ([.methodLink RX3 3 objectInit, .instanceMethod objectInit, .code objectInit ⟨#[0xb1]⟩ 1 none, .classLink RX3 9 RX2, .fieldLink RX3 11 "FirePanel$Ring" "places" "[LFirePanel$Place;", .instantiable RX2 11, .initialized RX2, .arrayClass .int, .fieldLink RX3 18 "FirePanel$Ring" "wires" "[I", .methodLink RX3 17 yX2_init, .instanceMethod yX2_init, .code yX2_init cX2_init 1 none, .methodLink RX2 3 objectInit] ++ wsX30 ++ wsX20)
def wsX3_endsStretch : List Cond := .code yX3_endsStretch cX3_endsStretch 2 (some .boolean) :: ([.fieldLink RX3 11 "FirePanel$Ring" "places" "[LFirePanel$Place;", .fieldLink RX3 30 "FirePanel$Place" "kind" "I"] ++ wsX30 ++ wsX20)
def wsX3_passableWires : List Cond := .code yX3_passableWires cX3_passableWires 5 (some .int) :: ([.fieldLink RX3 18 "FirePanel$Ring" "wires" "[I", .methodLink RX3 26 yX3_endsStretch, .instanceMethod yX3_endsStretch, .selects RX3 yX3_endsStretch yX3_endsStretch, .initialized RX3, .code yX3_endsStretch cX3_endsStretch 2 (some .boolean), .fieldLink RX3 11 "FirePanel$Ring" "places" "[LFirePanel$Place;", .fieldLink RX3 30 "FirePanel$Place" "kind" "I"] ++ wsX30 ++ wsX20)
def wsX3_reachedPlaces : List Cond := .code yX3_reachedPlaces cX3_reachedPlaces 4 (some .int) :: ([.methodLink RX3 22 yX3_passableWires, .instanceMethod yX3_passableWires, .selects RX3 yX3_passableWires yX3_passableWires, .initialized RX3, .code yX3_passableWires cX3_passableWires 5 (some .int), .fieldLink RX3 18 "FirePanel$Ring" "wires" "[I", .methodLink RX3 26 yX3_endsStretch, .instanceMethod yX3_endsStretch, .selects RX3 yX3_endsStretch yX3_endsStretch, .code yX3_endsStretch cX3_endsStretch 2 (some .boolean), .fieldLink RX3 11 "FirePanel$Ring" "places" "[LFirePanel$Place;", .fieldLink RX3 30 "FirePanel$Place" "kind" "I"] ++ wsX30 ++ wsX20)
def wsX4_init : List Cond := .code yX4_init cX4_init 1 none :: ([.methodLink RX4 3 objectInit, .instanceMethod objectInit, .code objectInit ⟨#[0xb1]⟩ 1 none, .arrayClass .int, .fieldLink RX4 9 "FirePanel$Rule" "steps" "[I"] ++ wsX40)
def wsX4_workOff : List Cond := .code yX4_workOff cX4_workOff 5 (some .int) :: ([])
def wsX4_isTrue : List Cond := .code yX4_isTrue cX4_isTrue 4 (some .boolean) :: ([.fieldLink RX4 15 "FirePanel$Rule" "stepCount" "I", .fieldLink RX4 9 "FirePanel$Rule" "steps" "[I", .methodLink RX4 28 yX4_workOff, .static yX4_workOff, .initialized RX4, .code yX4_workOff cX4_workOff 5 (some .int)] ++ wsX40)
def wsX5_init : List Cond := .code yX5_init cX5_init 1 none :: ([.methodLink RX5 1 objectInit, .instanceMethod objectInit, .code objectInit ⟨#[0xb1]⟩ 1 none, .fieldLink RX5 7 "FirePanel$Zone" "needed" "I"] ++ wsX50)
def wsX6_init_r1 : List Cond := [Cond.methodLink RX6 1 objectInit, Cond.instanceMethod objectInit, Cond.code objectInit ⟨#[0xb1]⟩ 1 none, Cond.classLink RX6 7 RX3, Cond.instantiable RX3 2, Cond.initialized RX3, Cond.fieldLink RX6 10 "FirePanel" "ring" "LFirePanel$Ring;", Cond.classLink RX6 16 RX5, Cond.fieldLink RX6 18 "FirePanel" "zones" "[LFirePanel$Zone;", Cond.instantiable RX5 3, Cond.initialized RX5, Cond.classLink RX6 23 RX4, Cond.fieldLink RX6 25 "FirePanel" "rules" "[LFirePanel$Rule;", Cond.instantiable RX4 5, Cond.initialized RX4, Cond.arrayClass .boolean, Cond.fieldLink RX6 30 "FirePanel" "outputsOn" "[Z", Cond.classLink RX6 34 RX1, Cond.instantiable RX1 3, Cond.initialized RX1, Cond.fieldLink RX6 37 "FirePanel" "pad" "LFirePanel$Pad;", Cond.classLink RX6 41 RX0, Cond.instantiable RX0 2, Cond.initialized RX0]
def wsX6_init_r2 : List Cond := [Cond.fieldLink RX6 44 "FirePanel" "entries" "LFirePanel$Log;", Cond.methodLink RX6 9 yX3_init, Cond.instanceMethod yX3_init, Cond.code yX3_init cX3_init 2 none, Cond.methodLink RX3 3 objectInit, Cond.classLink RX3 9 RX2, Cond.fieldLink RX3 11 "FirePanel$Ring" "places" "[LFirePanel$Place;", Cond.instantiable RX2 11, Cond.initialized RX2, Cond.arrayClass .int, Cond.fieldLink RX3 18 "FirePanel$Ring" "wires" "[I", Cond.methodLink RX3 17 yX2_init, Cond.instanceMethod yX2_init, Cond.code yX2_init cX2_init 1 none, Cond.methodLink RX2 3 objectInit, Cond.methodLink RX6 22 yX5_init, Cond.instanceMethod yX5_init, Cond.code yX5_init cX5_init 1 none, Cond.methodLink RX5 1 objectInit, Cond.fieldLink RX5 7 "FirePanel$Zone" "needed" "I", Cond.methodLink RX6 29 yX4_init, Cond.instanceMethod yX4_init, Cond.code yX4_init cX4_init 1 none, Cond.methodLink RX4 3 objectInit]
def wsX6_init_r3 : List Cond := [Cond.fieldLink RX4 9 "FirePanel$Rule" "steps" "[I", Cond.methodLink RX6 36 yX1_init, Cond.instanceMethod yX1_init, Cond.code yX1_init cX1_init 1 none, Cond.methodLink RX1 3 objectInit, Cond.arrayClass .char, Cond.fieldLink RX1 9 "FirePanel$Pad" "text" "[C", Cond.methodLink RX6 43 yX0_init, Cond.instanceMethod yX0_init, Cond.code yX0_init cX0_init 1 none, Cond.methodLink RX0 3 objectInit, Cond.fieldLink RX0 9 "FirePanel$Log" "words" "[I"]
def wsX6_init : List Cond := .code yX6_init cX6_init 2 none :: ((wsX6_init_r1 ++ (wsX6_init_r2 ++ wsX6_init_r3)) ++ wsX30 ++ wsX60 ++ wsX50 ++ wsX40 ++ wsX10 ++ wsX00 ++ wsX20)
def wsX6_mustExist : List Cond := .code yX6_mustExist cX6_mustExist 2 none :: ([.classLink RX6 192 "java/util/NoSuchElementException", .initialized "java/util/NoSuchElementException"] ++ (vx_atS RX6 196 "java/util/NoSuchElementException" ["java/lang/RuntimeException", "java/lang/Exception"]).filter goodWord)
def wsX6_mustBeAllowed : List Cond := .code yX6_mustBeAllowed cX6_mustBeAllowed 1 none :: ([.classLink RX6 187 "java/lang/IllegalArgumentException", .initialized "java/lang/IllegalArgumentException"] ++ (vx_atS RX6 191 "java/lang/IllegalArgumentException" ["java/lang/RuntimeException", "java/lang/Exception"]).filter goodWord)
def wsX6_mustHaveEntered : List Cond := .code yX6_mustHaveEntered cX6_mustHaveEntered 2 none :: ([.classLink RX6 93 "java/lang/IllegalStateException", .initialized "java/lang/IllegalStateException", .fieldLink RX6 126 "FirePanel" "entered" "I"] ++ wsX60 ++ (vx_atS RX6 97 "java/lang/IllegalStateException" ["java/lang/RuntimeException", "java/lang/Exception"]).filter goodWord)
def wsX6_fit_r1 : List Cond := [Cond.constantFloat RX6 56 (1056964608), Cond.constantFloat RX6 57 (1120403456), Cond.fieldLink RX6 10 "FirePanel" "ring" "LFirePanel$Ring;", Cond.fieldLink RX6 62 "FirePanel$Ring" "places" "[LFirePanel$Place;", Cond.methodLink RX6 48 yX6_mustExist, Cond.static yX6_mustExist, Cond.initialized RX6, Cond.code yX6_mustExist cX6_mustExist 2 none, Cond.classLink RX6 192 "java/util/NoSuchElementException", Cond.initialized "java/util/NoSuchElementException", Cond.methodLink RX6 52 yX6_mustBeAllowed, Cond.static yX6_mustBeAllowed, Cond.code yX6_mustBeAllowed cX6_mustBeAllowed 1 none, Cond.classLink RX6 187 "java/lang/IllegalArgumentException", Cond.initialized "java/lang/IllegalArgumentException", Cond.methodLink RX6 58 yX6_mustHaveEntered, Cond.instanceMethod yX6_mustHaveEntered, Cond.selects RX6 yX6_mustHaveEntered yX6_mustHaveEntered, Cond.code yX6_mustHaveEntered cX6_mustHaveEntered 2 none, Cond.classLink RX6 93 "java/lang/IllegalStateException", Cond.initialized "java/lang/IllegalStateException", Cond.fieldLink RX6 126 "FirePanel" "entered" "I", Cond.methodLink RX6 66 yX2_begin, Cond.instanceMethod yX2_begin]
def wsX6_fit_r2 : List Cond := [Cond.selects RX2 yX2_begin yX2_begin, Cond.initialized RX2, Cond.code yX2_begin cX2_begin 4 none, Cond.fieldLink RX2 9 "FirePanel$Place" "kind" "I", Cond.fieldLink RX2 15 "FirePanel$Place" "zone" "I", Cond.fieldLink RX2 18 "FirePanel$Place" "threshold" "F", Cond.fieldLink RX2 22 "FirePanel$Place" "base" "F", Cond.fieldLink RX2 25 "FirePanel$Place" "level" "F", Cond.fieldLink RX2 28 "FirePanel$Place" "over" "I", Cond.fieldLink RX2 31 "FirePanel$Place" "inAlarm" "Z", Cond.fieldLink RX2 35 "FirePanel$Place" "missed" "I", Cond.fieldLink RX2 38 "FirePanel$Place" "atFault" "Z"]
def wsX6_fit : List Cond := .code yX6_fit cX6_fit 5 none :: ((wsX6_fit_r1 ++ wsX6_fit_r2) ++ wsX60 ++ wsX30 ++ wsX20 ++ (vx_atS RX6 196 "java/util/NoSuchElementException" ["java/lang/RuntimeException", "java/lang/Exception"]).filter goodWord ++ (vx_atS RX6 191 "java/lang/IllegalArgumentException" ["java/lang/RuntimeException", "java/lang/Exception"]).filter goodWord ++ (vx_atS RX6 97 "java/lang/IllegalStateException" ["java/lang/RuntimeException", "java/lang/Exception"]).filter goodWord)
def wsX6_need : List Cond := .code yX6_need cX6_need 3 none :: ([.fieldLink RX6 18 "FirePanel" "zones" "[LFirePanel$Zone;", .fieldLink RX6 72 "FirePanel$Zone" "needed" "I", .methodLink RX6 48 yX6_mustExist, .static yX6_mustExist, .initialized RX6, .code yX6_mustExist cX6_mustExist 2 none, .classLink RX6 192 "java/util/NoSuchElementException", .initialized "java/util/NoSuchElementException", .methodLink RX6 52 yX6_mustBeAllowed, .static yX6_mustBeAllowed, .code yX6_mustBeAllowed cX6_mustBeAllowed 1 none, .classLink RX6 187 "java/lang/IllegalArgumentException", .initialized "java/lang/IllegalArgumentException", .methodLink RX6 58 yX6_mustHaveEntered, .instanceMethod yX6_mustHaveEntered, .selects RX6 yX6_mustHaveEntered yX6_mustHaveEntered, .code yX6_mustHaveEntered cX6_mustHaveEntered 2 none, .classLink RX6 93 "java/lang/IllegalStateException", .initialized "java/lang/IllegalStateException", .fieldLink RX6 126 "FirePanel" "entered" "I"] ++ wsX60 ++ wsX50 ++ (vx_atS RX6 196 "java/util/NoSuchElementException" ["java/lang/RuntimeException", "java/lang/Exception"]).filter goodWord ++ (vx_atS RX6 191 "java/lang/IllegalArgumentException" ["java/lang/RuntimeException", "java/lang/Exception"]).filter goodWord ++ (vx_atS RX6 97 "java/lang/IllegalStateException" ["java/lang/RuntimeException", "java/lang/Exception"]).filter goodWord)
def wsX6_wire : List Cond := .code yX6_wire cX6_wire 3 none :: ([.fieldLink RX6 10 "FirePanel" "ring" "LFirePanel$Ring;", .fieldLink RX6 76 "FirePanel$Ring" "wires" "[I", .methodLink RX6 48 yX6_mustExist, .static yX6_mustExist, .initialized RX6, .code yX6_mustExist cX6_mustExist 2 none, .classLink RX6 192 "java/util/NoSuchElementException", .initialized "java/util/NoSuchElementException", .methodLink RX6 52 yX6_mustBeAllowed, .static yX6_mustBeAllowed, .code yX6_mustBeAllowed cX6_mustBeAllowed 1 none, .classLink RX6 187 "java/lang/IllegalArgumentException", .initialized "java/lang/IllegalArgumentException"] ++ wsX60 ++ wsX30 ++ (vx_atS RX6 196 "java/util/NoSuchElementException" ["java/lang/RuntimeException", "java/lang/Exception"]).filter goodWord ++ (vx_atS RX6 191 "java/lang/IllegalArgumentException" ["java/lang/RuntimeException", "java/lang/Exception"]).filter goodWord)
def wsX6_reading : List Cond := .code yX6_reading cX6_reading 3 none :: ([.constantFloat RX6 80 (3267887104), .constantFloat RX6 81 (1128792064), .fieldLink RX6 10 "FirePanel" "ring" "LFirePanel$Ring;", .fieldLink RX6 62 "FirePanel$Ring" "places" "[LFirePanel$Place;", .fieldLink RX6 82 "FirePanel$Place" "reading" "F", .methodLink RX6 48 yX6_mustExist, .static yX6_mustExist, .initialized RX6, .code yX6_mustExist cX6_mustExist 2 none, .classLink RX6 192 "java/util/NoSuchElementException", .initialized "java/util/NoSuchElementException", .methodLink RX6 52 yX6_mustBeAllowed, .static yX6_mustBeAllowed, .code yX6_mustBeAllowed cX6_mustBeAllowed 1 none, .classLink RX6 187 "java/lang/IllegalArgumentException", .initialized "java/lang/IllegalArgumentException"] ++ wsX60 ++ wsX30 ++ wsX20 ++ (vx_atS RX6 196 "java/util/NoSuchElementException" ["java/lang/RuntimeException", "java/lang/Exception"]).filter goodWord ++ (vx_atS RX6 191 "java/lang/IllegalArgumentException" ["java/lang/RuntimeException", "java/lang/Exception"]).filter goodWord)
def wsX6_type : List Cond := .code yX6_type cX6_type 2 (some .boolean) :: ([.fieldLink RX6 37 "FirePanel" "pad" "LFirePanel$Pad;", .methodLink RX6 86 yX1_append, .instanceMethod yX1_append, .selects RX1 yX1_append yX1_append, .initialized RX1, .code yX1_append cX1_append 2 (some .boolean), .fieldLink RX1 19 "FirePanel$Pad" "length" "I", .fieldLink RX1 9 "FirePanel$Pad" "text" "[C", .methodLink RX1 15 yX1_standsInRules, .static yX1_standsInRules, .code yX1_standsInRules cX1_standsInRules 1 (some .boolean)] ++ wsX60 ++ wsX10)
def wsX6_rule_r1 : List Cond := [Cond.classLink RX6 93 "java/lang/IllegalStateException", Cond.initialized "java/lang/IllegalStateException", Cond.fieldLink RX6 90 "FirePanel" "ruleCount" "I", Cond.fieldLink RX6 37 "FirePanel" "pad" "LFirePanel$Pad;", Cond.fieldLink RX6 25 "FirePanel" "rules" "[LFirePanel$Rule;", Cond.fieldLink RX6 104 "FirePanel$Pad" "length" "I", Cond.methodLink RX6 58 yX6_mustHaveEntered, Cond.instanceMethod yX6_mustHaveEntered, Cond.selects RX6 yX6_mustHaveEntered yX6_mustHaveEntered, Cond.initialized RX6, Cond.code yX6_mustHaveEntered cX6_mustHaveEntered 2 none, Cond.fieldLink RX6 126 "FirePanel" "entered" "I", Cond.methodLink RX6 100 yX1_readInto, Cond.instanceMethod yX1_readInto, Cond.selects RX1 yX1_readInto yX1_readInto, Cond.initialized RX1, Cond.code yX1_readInto cX1_readInto 3 (some .int), Cond.fieldLink RX1 23 "FirePanel$Pad" "at" "I", Cond.fieldLink RX1 19 "FirePanel$Pad" "length" "I", Cond.methodLink RX1 26 yX4_clear, Cond.instanceMethod yX4_clear, Cond.selects RX4 yX4_clear yX4_clear, Cond.initialized RX4, Cond.code yX4_clear cX4_clear 1 none]
def wsX6_rule_r2 : List Cond := [Cond.fieldLink RX4 15 "FirePanel$Rule" "stepCount" "I", Cond.fieldLink RX4 19 "FirePanel$Rule" "output" "I", Cond.fieldLink RX4 22 "FirePanel$Rule" "delay" "I", Cond.fieldLink RX4 25 "FirePanel$Rule" "held" "I", Cond.methodLink RX1 31 yX1_readCondition, Cond.instanceMethod yX1_readCondition, Cond.selects RX1 yX1_readCondition yX1_readCondition, Cond.code yX1_readCondition cX1_readCondition 5 (some .boolean), Cond.methodLink RX1 39 yX1_readTerm, Cond.instanceMethod yX1_readTerm, Cond.selects RX1 yX1_readTerm yX1_readTerm, Cond.methodLink RX1 42 yX1_sees, Cond.instanceMethod yX1_sees, Cond.selects RX1 yX1_sees yX1_sees, Cond.code yX1_sees cX1_sees 2 (some .boolean), Cond.fieldLink RX1 9 "FirePanel$Pad" "text" "[C", Cond.methodLink RX1 45 yX4_addStep, Cond.instanceMethod yX4_addStep, Cond.selects RX4 yX4_addStep yX4_addStep, Cond.code yX4_addStep cX4_addStep 2 none, Cond.fieldLink RX4 9 "FirePanel$Rule" "steps" "[I", Cond.code yX1_readTerm cX1_readTerm 3 (some .boolean), Cond.methodLink RX1 49 yX1_passes, Cond.instanceMethod yX1_passes]
def wsX6_rule_r3 : List Cond := [Cond.selects RX1 yX1_passes yX1_passes, Cond.code yX1_passes cX1_passes 2 (some .boolean), Cond.methodLink RX1 52 yX1_readZone, Cond.instanceMethod yX1_readZone, Cond.selects RX1 yX1_readZone yX1_readZone, Cond.code yX1_readZone cX1_readZone 4 (some .boolean), Cond.methodLink RX1 55 yX1_readDigit, Cond.instanceMethod yX1_readDigit, Cond.selects RX1 yX1_readDigit yX1_readDigit, Cond.code yX1_readDigit cX1_readDigit 3 (some .int), Cond.methodLink RX1 35 yX1_readTarget, Cond.instanceMethod yX1_readTarget, Cond.selects RX1 yX1_readTarget yX1_readTarget, Cond.code yX1_readTarget cX1_readTarget 2 (some .boolean), Cond.fieldLink RX1 59 "FirePanel$Rule" "output" "I", Cond.fieldLink RX1 62 "FirePanel$Rule" "delay" "I"]
def wsX6_rule : List Cond := .code yX6_rule cX6_rule 2 (some .int) :: ((wsX6_rule_r1 ++ (wsX6_rule_r2 ++ wsX6_rule_r3)) ++ wsX60 ++ wsX10 ++ wsX40 ++ (vx_atS RX6 97 "java/lang/IllegalStateException" ["java/lang/RuntimeException", "java/lang/Exception"]).filter goodWord)
def wsX6_allOutputsOff : List Cond := .code yX6_allOutputsOff cX6_allOutputsOff 2 none :: ([.fieldLink RX6 30 "FirePanel" "outputsOn" "[Z"] ++ wsX60)
def wsX6_forget : List Cond := .code yX6_forget cX6_forget 2 (some .int) :: ([.fieldLink RX6 90 "FirePanel" "ruleCount" "I", .methodLink RX6 58 yX6_mustHaveEntered, .instanceMethod yX6_mustHaveEntered, .selects RX6 yX6_mustHaveEntered yX6_mustHaveEntered, .initialized RX6, .code yX6_mustHaveEntered cX6_mustHaveEntered 2 none, .classLink RX6 93 "java/lang/IllegalStateException", .initialized "java/lang/IllegalStateException", .fieldLink RX6 126 "FirePanel" "entered" "I", .methodLink RX6 107 yX6_allOutputsOff, .instanceMethod yX6_allOutputsOff, .selects RX6 yX6_allOutputsOff yX6_allOutputsOff, .code yX6_allOutputsOff cX6_allOutputsOff 2 none, .fieldLink RX6 30 "FirePanel" "outputsOn" "[Z"] ++ wsX60 ++ (vx_atS RX6 97 "java/lang/IllegalStateException" ["java/lang/RuntimeException", "java/lang/Exception"]).filter goodWord)
def wsX6_noteMiss : List Cond := .code yX6_noteMiss cX6_noteMiss 3 none :: ([.fieldLink RX6 212 "FirePanel$Place" "missed" "I", .fieldLink RX6 162 "FirePanel$Place" "atFault" "Z", .fieldLink RX6 44 "FirePanel" "entries" "LFirePanel$Log;", .fieldLink RX6 110 "FirePanel" "polls" "I", .methodLink RX6 133 yX0_add, .instanceMethod yX0_add, .selects RX0 yX0_add yX0_add, .initialized RX0, .code yX0_add cX0_add 4 none, .fieldLink RX0 9 "FirePanel$Log" "words" "[I", .methodLink RX0 15 arraycopyName, .native arraycopyName, .static arraycopyName, .initialized "java/lang/System", .fieldLink RX0 21 "FirePanel$Log" "size" "I", .methodLink RX0 25 Lib.Math.min.name, .static Lib.Math.min.name, .initialized "java/lang/Math", .code Lib.Math.min.name Lib.Math.min.code 2 (some .int)] ++ wsX20 ++ wsX60 ++ wsX00)
def wsX6_noteAnswer_r1 : List Cond := [Cond.fieldLink RX6 212 "FirePanel$Place" "missed" "I", Cond.fieldLink RX6 162 "FirePanel$Place" "atFault" "Z", Cond.fieldLink RX6 44 "FirePanel" "entries" "LFirePanel$Log;", Cond.fieldLink RX6 110 "FirePanel" "polls" "I", Cond.fieldLink RX6 149 "FirePanel$Place" "isOff" "Z", Cond.methodLink RX6 133 yX0_add, Cond.instanceMethod yX0_add, Cond.selects RX0 yX0_add yX0_add, Cond.initialized RX0, Cond.code yX0_add cX0_add 4 none, Cond.fieldLink RX0 9 "FirePanel$Log" "words" "[I", Cond.methodLink RX0 15 arraycopyName, Cond.native arraycopyName, Cond.static arraycopyName, Cond.initialized "java/lang/System", Cond.fieldLink RX0 21 "FirePanel$Log" "size" "I", Cond.methodLink RX0 25 Lib.Math.min.name, Cond.static Lib.Math.min.name, Cond.initialized "java/lang/Math", Cond.code Lib.Math.min.name Lib.Math.min.code 2 (some .int), Cond.methodLink RX6 215 yX2_sense, Cond.instanceMethod yX2_sense, Cond.selects RX2 yX2_sense yX2_sense, Cond.initialized RX2]
def wsX6_noteAnswer_r2 : List Cond := [Cond.code yX2_sense cX2_sense 1 none, Cond.fieldLink RX2 9 "FirePanel$Place" "kind" "I", Cond.fieldLink RX2 28 "FirePanel$Place" "over" "I", Cond.fieldLink RX2 31 "FirePanel$Place" "inAlarm" "Z", Cond.methodLink RX2 49 yX2_senseSmoke, Cond.instanceMethod yX2_senseSmoke, Cond.selects RX2 yX2_senseSmoke yX2_senseSmoke, Cond.code yX2_senseSmoke cX2_senseSmoke 2 none, Cond.fieldLink RX2 58 "FirePanel$Place" "reading" "F", Cond.fieldLink RX2 22 "FirePanel$Place" "base" "F", Cond.fieldLink RX2 25 "FirePanel$Place" "level" "F", Cond.constantFloat RX2 61 (1056964608), Cond.constantFloat RX2 65 (1031798784), Cond.methodLink RX2 62 yX2_countOver, Cond.instanceMethod yX2_countOver, Cond.selects RX2 yX2_countOver yX2_countOver, Cond.code yX2_countOver cX2_countOver 1 none, Cond.fieldLink RX2 18 "FirePanel$Place" "threshold" "F", Cond.methodLink RX2 52 yX2_senseHeat, Cond.instanceMethod yX2_senseHeat, Cond.selects RX2 yX2_senseHeat yX2_senseHeat, Cond.code yX2_senseHeat cX2_senseHeat 1 none, Cond.constantFloat RX2 66 (1082130432), Cond.constantFloat RX2 67 (1048576000)]
def wsX6_noteAnswer_r3 : List Cond := [Cond.methodLink RX2 55 yX2_senseButton, Cond.instanceMethod yX2_senseButton, Cond.selects RX2 yX2_senseButton yX2_senseButton, Cond.code yX2_senseButton cX2_senseButton 1 none]
def wsX6_noteAnswer : List Cond := .code yX6_noteAnswer cX6_noteAnswer 3 none :: ((wsX6_noteAnswer_r1 ++ (wsX6_noteAnswer_r2 ++ wsX6_noteAnswer_r3)) ++ wsX20 ++ wsX60 ++ wsX00)
def wsX6_askPlaces_r1 : List Cond := [Cond.fieldLink RX6 10 "FirePanel" "ring" "LFirePanel$Ring;", Cond.fieldLink RX6 62 "FirePanel$Ring" "places" "[LFirePanel$Place;", Cond.methodLink RX6 156 yX3_reachedPlaces, Cond.instanceMethod yX3_reachedPlaces, Cond.selects RX3 yX3_reachedPlaces yX3_reachedPlaces, Cond.initialized RX3, Cond.code yX3_reachedPlaces cX3_reachedPlaces 4 (some .int), Cond.methodLink RX3 22 yX3_passableWires, Cond.instanceMethod yX3_passableWires, Cond.selects RX3 yX3_passableWires yX3_passableWires, Cond.code yX3_passableWires cX3_passableWires 5 (some .int), Cond.fieldLink RX3 18 "FirePanel$Ring" "wires" "[I", Cond.methodLink RX3 26 yX3_endsStretch, Cond.instanceMethod yX3_endsStretch, Cond.selects RX3 yX3_endsStretch yX3_endsStretch, Cond.code yX3_endsStretch cX3_endsStretch 2 (some .boolean), Cond.fieldLink RX3 11 "FirePanel$Ring" "places" "[LFirePanel$Place;", Cond.fieldLink RX3 30 "FirePanel$Place" "kind" "I", Cond.methodLink RX6 201 yX2_isSensor, Cond.instanceMethod yX2_isSensor, Cond.selects RX2 yX2_isSensor yX2_isSensor, Cond.initialized RX2, Cond.code yX2_isSensor cX2_isSensor 1 (some .boolean), Cond.fieldLink RX2 9 "FirePanel$Place" "kind" "I"]
def wsX6_askPlaces_r2 : List Cond := [Cond.methodLink RX6 205 yX6_noteMiss, Cond.instanceMethod yX6_noteMiss, Cond.selects RX6 yX6_noteMiss yX6_noteMiss, Cond.initialized RX6, Cond.code yX6_noteMiss cX6_noteMiss 3 none, Cond.fieldLink RX6 212 "FirePanel$Place" "missed" "I", Cond.fieldLink RX6 162 "FirePanel$Place" "atFault" "Z", Cond.fieldLink RX6 44 "FirePanel" "entries" "LFirePanel$Log;", Cond.fieldLink RX6 110 "FirePanel" "polls" "I", Cond.methodLink RX6 133 yX0_add, Cond.instanceMethod yX0_add, Cond.selects RX0 yX0_add yX0_add, Cond.initialized RX0, Cond.code yX0_add cX0_add 4 none, Cond.fieldLink RX0 9 "FirePanel$Log" "words" "[I", Cond.methodLink RX0 15 arraycopyName, Cond.native arraycopyName, Cond.static arraycopyName, Cond.initialized "java/lang/System", Cond.fieldLink RX0 21 "FirePanel$Log" "size" "I", Cond.methodLink RX0 25 Lib.Math.min.name, Cond.static Lib.Math.min.name, Cond.initialized "java/lang/Math", Cond.code Lib.Math.min.name Lib.Math.min.code 2 (some .int)]
def wsX6_askPlaces_r3 : List Cond := [Cond.methodLink RX6 209 yX6_noteAnswer, Cond.instanceMethod yX6_noteAnswer, Cond.selects RX6 yX6_noteAnswer yX6_noteAnswer, Cond.code yX6_noteAnswer cX6_noteAnswer 3 none, Cond.fieldLink RX6 149 "FirePanel$Place" "isOff" "Z", Cond.methodLink RX6 215 yX2_sense, Cond.instanceMethod yX2_sense, Cond.selects RX2 yX2_sense yX2_sense, Cond.code yX2_sense cX2_sense 1 none, Cond.fieldLink RX2 28 "FirePanel$Place" "over" "I", Cond.fieldLink RX2 31 "FirePanel$Place" "inAlarm" "Z", Cond.methodLink RX2 49 yX2_senseSmoke, Cond.instanceMethod yX2_senseSmoke, Cond.selects RX2 yX2_senseSmoke yX2_senseSmoke, Cond.code yX2_senseSmoke cX2_senseSmoke 2 none, Cond.fieldLink RX2 58 "FirePanel$Place" "reading" "F", Cond.fieldLink RX2 22 "FirePanel$Place" "base" "F", Cond.fieldLink RX2 25 "FirePanel$Place" "level" "F", Cond.constantFloat RX2 61 (1056964608), Cond.constantFloat RX2 65 (1031798784), Cond.methodLink RX2 62 yX2_countOver, Cond.instanceMethod yX2_countOver, Cond.selects RX2 yX2_countOver yX2_countOver, Cond.code yX2_countOver cX2_countOver 1 none]
def wsX6_askPlaces_r4 : List Cond := [Cond.fieldLink RX2 18 "FirePanel$Place" "threshold" "F", Cond.methodLink RX2 52 yX2_senseHeat, Cond.instanceMethod yX2_senseHeat, Cond.selects RX2 yX2_senseHeat yX2_senseHeat, Cond.code yX2_senseHeat cX2_senseHeat 1 none, Cond.constantFloat RX2 66 (1082130432), Cond.constantFloat RX2 67 (1048576000), Cond.methodLink RX2 55 yX2_senseButton, Cond.instanceMethod yX2_senseButton, Cond.selects RX2 yX2_senseButton yX2_senseButton, Cond.code yX2_senseButton cX2_senseButton 1 none]
def wsX6_askPlaces : List Cond := .code yX6_askPlaces cX6_askPlaces 4 none :: ((wsX6_askPlaces_r1 ++ (wsX6_askPlaces_r2 ++ (wsX6_askPlaces_r3 ++ wsX6_askPlaces_r4))) ++ wsX60 ++ wsX30 ++ wsX20 ++ wsX00)
def wsX6_hasEnoughAlarms : List Cond := .code yX6_hasEnoughAlarms cX6_hasEnoughAlarms 8 (some .boolean) :: ([.fieldLink RX6 10 "FirePanel" "ring" "LFirePanel$Ring;", .fieldLink RX6 62 "FirePanel$Ring" "places" "[LFirePanel$Place;", .fieldLink RX6 159 "FirePanel$Place" "inAlarm" "Z", .fieldLink RX6 165 "FirePanel$Place" "kind" "I", .methodLink RX6 222 yX2_watches, .instanceMethod yX2_watches, .selects RX2 yX2_watches yX2_watches, .initialized RX2, .code yX2_watches cX2_watches 2 (some .boolean), .fieldLink RX2 15 "FirePanel$Place" "zone" "I", .fieldLink RX2 45 "FirePanel$Place" "isOff" "Z", .methodLink RX2 41 yX2_isSensor, .instanceMethod yX2_isSensor, .selects RX2 yX2_isSensor yX2_isSensor, .code yX2_isSensor cX2_isSensor 1 (some .boolean), .fieldLink RX2 9 "FirePanel$Place" "kind" "I"] ++ wsX60 ++ wsX30 ++ wsX20)
def wsX6_watchZones_r1 : List Cond := [Cond.fieldLink RX6 18 "FirePanel" "zones" "[LFirePanel$Zone;", Cond.fieldLink RX6 146 "FirePanel$Zone" "isOff" "Z", Cond.fieldLink RX6 137 "FirePanel$Zone" "inFire" "Z", Cond.fieldLink RX6 72 "FirePanel$Zone" "needed" "I", Cond.fieldLink RX6 129 "FirePanel" "silent" "Z", Cond.fieldLink RX6 44 "FirePanel" "entries" "LFirePanel$Log;", Cond.fieldLink RX6 110 "FirePanel" "polls" "I", Cond.methodLink RX6 218 yX6_hasEnoughAlarms, Cond.instanceMethod yX6_hasEnoughAlarms, Cond.selects RX6 yX6_hasEnoughAlarms yX6_hasEnoughAlarms, Cond.initialized RX6, Cond.code yX6_hasEnoughAlarms cX6_hasEnoughAlarms 8 (some .boolean), Cond.fieldLink RX6 10 "FirePanel" "ring" "LFirePanel$Ring;", Cond.fieldLink RX6 62 "FirePanel$Ring" "places" "[LFirePanel$Place;", Cond.fieldLink RX6 159 "FirePanel$Place" "inAlarm" "Z", Cond.fieldLink RX6 165 "FirePanel$Place" "kind" "I", Cond.methodLink RX6 222 yX2_watches, Cond.instanceMethod yX2_watches, Cond.selects RX2 yX2_watches yX2_watches, Cond.initialized RX2, Cond.code yX2_watches cX2_watches 2 (some .boolean), Cond.fieldLink RX2 15 "FirePanel$Place" "zone" "I", Cond.fieldLink RX2 45 "FirePanel$Place" "isOff" "Z", Cond.methodLink RX2 41 yX2_isSensor]
def wsX6_watchZones_r2 : List Cond := [Cond.instanceMethod yX2_isSensor, Cond.selects RX2 yX2_isSensor yX2_isSensor, Cond.code yX2_isSensor cX2_isSensor 1 (some .boolean), Cond.fieldLink RX2 9 "FirePanel$Place" "kind" "I", Cond.methodLink RX6 133 yX0_add, Cond.instanceMethod yX0_add, Cond.selects RX0 yX0_add yX0_add, Cond.initialized RX0, Cond.code yX0_add cX0_add 4 none, Cond.fieldLink RX0 9 "FirePanel$Log" "words" "[I", Cond.methodLink RX0 15 arraycopyName, Cond.native arraycopyName, Cond.static arraycopyName, Cond.initialized "java/lang/System", Cond.fieldLink RX0 21 "FirePanel$Log" "size" "I", Cond.methodLink RX0 25 Lib.Math.min.name, Cond.static Lib.Math.min.name, Cond.initialized "java/lang/Math", Cond.code Lib.Math.min.name Lib.Math.min.code 2 (some .int)]
def wsX6_watchZones : List Cond := .code yX6_watchZones cX6_watchZones 4 (some .int) :: ((wsX6_watchZones_r1 ++ wsX6_watchZones_r2) ++ wsX60 ++ wsX50 ++ wsX30 ++ wsX20 ++ wsX00)
def wsX6_faults : List Cond := .code yX6_faults cX6_faults 6 (some .int) :: ([.fieldLink RX6 10 "FirePanel" "ring" "LFirePanel$Ring;", .fieldLink RX6 62 "FirePanel$Ring" "places" "[LFirePanel$Place;", .fieldLink RX6 162 "FirePanel$Place" "atFault" "Z"] ++ wsX60 ++ wsX30 ++ wsX20)
def wsX6_hasWarning : List Cond := .code yX6_hasWarning cX6_hasWarning 6 (some .boolean) :: ([.fieldLink RX6 10 "FirePanel" "ring" "LFirePanel$Ring;", .fieldLink RX6 62 "FirePanel$Ring" "places" "[LFirePanel$Place;", .methodLink RX6 222 yX2_watches, .instanceMethod yX2_watches, .selects RX2 yX2_watches yX2_watches, .initialized RX2, .code yX2_watches cX2_watches 2 (some .boolean), .fieldLink RX2 15 "FirePanel$Place" "zone" "I", .fieldLink RX2 45 "FirePanel$Place" "isOff" "Z", .methodLink RX2 41 yX2_isSensor, .instanceMethod yX2_isSensor, .selects RX2 yX2_isSensor yX2_isSensor, .code yX2_isSensor cX2_isSensor 1 (some .boolean), .fieldLink RX2 9 "FirePanel$Place" "kind" "I", .methodLink RX6 225 yX2_warns, .instanceMethod yX2_warns, .selects RX2 yX2_warns yX2_warns, .code yX2_warns cX2_warns 1 (some .boolean), .fieldLink RX2 31 "FirePanel$Place" "inAlarm" "Z", .fieldLink RX2 25 "FirePanel$Place" "level" "F", .fieldLink RX2 18 "FirePanel$Place" "threshold" "F", .constantFloat RX2 48 (1061158912)] ++ wsX60 ++ wsX30 ++ wsX20)
def wsX6_facts_r1 : List Cond := [Cond.fieldLink RX6 18 "FirePanel" "zones" "[LFirePanel$Zone;", Cond.fieldLink RX6 137 "FirePanel$Zone" "inFire" "Z", Cond.methodLink RX6 184 yX6_faults, Cond.instanceMethod yX6_faults, Cond.selects RX6 yX6_faults yX6_faults, Cond.initialized RX6, Cond.code yX6_faults cX6_faults 6 (some .int), Cond.fieldLink RX6 10 "FirePanel" "ring" "LFirePanel$Ring;", Cond.fieldLink RX6 62 "FirePanel$Ring" "places" "[LFirePanel$Place;", Cond.fieldLink RX6 162 "FirePanel$Place" "atFault" "Z", Cond.methodLink RX6 168 yX6_hasWarning, Cond.instanceMethod yX6_hasWarning, Cond.selects RX6 yX6_hasWarning yX6_hasWarning, Cond.code yX6_hasWarning cX6_hasWarning 6 (some .boolean), Cond.methodLink RX6 222 yX2_watches, Cond.instanceMethod yX2_watches, Cond.selects RX2 yX2_watches yX2_watches, Cond.initialized RX2, Cond.code yX2_watches cX2_watches 2 (some .boolean), Cond.fieldLink RX2 15 "FirePanel$Place" "zone" "I", Cond.fieldLink RX2 45 "FirePanel$Place" "isOff" "Z", Cond.methodLink RX2 41 yX2_isSensor, Cond.instanceMethod yX2_isSensor, Cond.selects RX2 yX2_isSensor yX2_isSensor]
def wsX6_facts_r2 : List Cond := [Cond.code yX2_isSensor cX2_isSensor 1 (some .boolean), Cond.fieldLink RX2 9 "FirePanel$Place" "kind" "I", Cond.methodLink RX6 225 yX2_warns, Cond.instanceMethod yX2_warns, Cond.selects RX2 yX2_warns yX2_warns, Cond.code yX2_warns cX2_warns 1 (some .boolean), Cond.fieldLink RX2 31 "FirePanel$Place" "inAlarm" "Z", Cond.fieldLink RX2 25 "FirePanel$Place" "level" "F", Cond.fieldLink RX2 18 "FirePanel$Place" "threshold" "F", Cond.constantFloat RX2 48 (1061158912)]
def wsX6_facts : List Cond := .code yX6_facts cX6_facts 3 (some .int) :: ((wsX6_facts_r1 ++ wsX6_facts_r2) ++ wsX60 ++ wsX50 ++ wsX30 ++ wsX20)
def wsX6_followRules_r1 : List Cond := [Cond.fieldLink RX6 90 "FirePanel" "ruleCount" "I", Cond.fieldLink RX6 25 "FirePanel" "rules" "[LFirePanel$Rule;", Cond.fieldLink RX6 143 "FirePanel$Rule" "held" "I", Cond.methodLink RX6 228 yX6_facts, Cond.instanceMethod yX6_facts, Cond.selects RX6 yX6_facts yX6_facts, Cond.initialized RX6, Cond.code yX6_facts cX6_facts 3 (some .int), Cond.fieldLink RX6 18 "FirePanel" "zones" "[LFirePanel$Zone;", Cond.fieldLink RX6 137 "FirePanel$Zone" "inFire" "Z", Cond.methodLink RX6 184 yX6_faults, Cond.instanceMethod yX6_faults, Cond.selects RX6 yX6_faults yX6_faults, Cond.code yX6_faults cX6_faults 6 (some .int), Cond.fieldLink RX6 10 "FirePanel" "ring" "LFirePanel$Ring;", Cond.fieldLink RX6 62 "FirePanel$Ring" "places" "[LFirePanel$Place;", Cond.fieldLink RX6 162 "FirePanel$Place" "atFault" "Z", Cond.methodLink RX6 168 yX6_hasWarning, Cond.instanceMethod yX6_hasWarning, Cond.selects RX6 yX6_hasWarning yX6_hasWarning, Cond.code yX6_hasWarning cX6_hasWarning 6 (some .boolean), Cond.methodLink RX6 222 yX2_watches, Cond.instanceMethod yX2_watches, Cond.selects RX2 yX2_watches yX2_watches]
def wsX6_followRules_r2 : List Cond := [Cond.initialized RX2, Cond.code yX2_watches cX2_watches 2 (some .boolean), Cond.fieldLink RX2 15 "FirePanel$Place" "zone" "I", Cond.fieldLink RX2 45 "FirePanel$Place" "isOff" "Z", Cond.methodLink RX2 41 yX2_isSensor, Cond.instanceMethod yX2_isSensor, Cond.selects RX2 yX2_isSensor yX2_isSensor, Cond.code yX2_isSensor cX2_isSensor 1 (some .boolean), Cond.fieldLink RX2 9 "FirePanel$Place" "kind" "I", Cond.methodLink RX6 225 yX2_warns, Cond.instanceMethod yX2_warns, Cond.selects RX2 yX2_warns yX2_warns, Cond.code yX2_warns cX2_warns 1 (some .boolean), Cond.fieldLink RX2 31 "FirePanel$Place" "inAlarm" "Z", Cond.fieldLink RX2 25 "FirePanel$Place" "level" "F", Cond.fieldLink RX2 18 "FirePanel$Place" "threshold" "F", Cond.constantFloat RX2 48 (1061158912), Cond.methodLink RX6 231 yX4_isTrue, Cond.instanceMethod yX4_isTrue, Cond.selects RX4 yX4_isTrue yX4_isTrue, Cond.initialized RX4, Cond.code yX4_isTrue cX4_isTrue 4 (some .boolean), Cond.fieldLink RX4 15 "FirePanel$Rule" "stepCount" "I", Cond.fieldLink RX4 9 "FirePanel$Rule" "steps" "[I"]
def wsX6_followRules_r3 : List Cond := [Cond.methodLink RX4 28 yX4_workOff, Cond.static yX4_workOff, Cond.code yX4_workOff cX4_workOff 5 (some .int)]
def wsX6_followRules : List Cond := .code yX6_followRules cX6_followRules 4 none :: ((wsX6_followRules_r1 ++ (wsX6_followRules_r2 ++ wsX6_followRules_r3)) ++ wsX60 ++ wsX40 ++ wsX50 ++ wsX30 ++ wsX20)
def wsX6_isDriven : List Cond := .code yX6_isDriven cX6_isDriven 3 (some .boolean) :: ([.fieldLink RX6 90 "FirePanel" "ruleCount" "I", .fieldLink RX6 25 "FirePanel" "rules" "[LFirePanel$Rule;", .fieldLink RX6 237 "FirePanel$Rule" "output" "I", .fieldLink RX6 143 "FirePanel$Rule" "held" "I", .fieldLink RX6 240 "FirePanel$Rule" "delay" "I"] ++ wsX60 ++ wsX40)
def wsX6_driveOutputs_r1 : List Cond := [Cond.fieldLink RX6 30 "FirePanel" "outputsOn" "[Z", Cond.fieldLink RX6 44 "FirePanel" "entries" "LFirePanel$Log;", Cond.fieldLink RX6 110 "FirePanel" "polls" "I", Cond.methodLink RX6 234 yX6_isDriven, Cond.instanceMethod yX6_isDriven, Cond.selects RX6 yX6_isDriven yX6_isDriven, Cond.initialized RX6, Cond.code yX6_isDriven cX6_isDriven 3 (some .boolean), Cond.fieldLink RX6 90 "FirePanel" "ruleCount" "I", Cond.fieldLink RX6 25 "FirePanel" "rules" "[LFirePanel$Rule;", Cond.fieldLink RX6 237 "FirePanel$Rule" "output" "I", Cond.fieldLink RX6 143 "FirePanel$Rule" "held" "I", Cond.fieldLink RX6 240 "FirePanel$Rule" "delay" "I", Cond.methodLink RX6 133 yX0_add, Cond.instanceMethod yX0_add, Cond.selects RX0 yX0_add yX0_add, Cond.initialized RX0, Cond.code yX0_add cX0_add 4 none, Cond.fieldLink RX0 9 "FirePanel$Log" "words" "[I", Cond.methodLink RX0 15 arraycopyName, Cond.native arraycopyName, Cond.static arraycopyName, Cond.initialized "java/lang/System", Cond.fieldLink RX0 21 "FirePanel$Log" "size" "I"]
def wsX6_driveOutputs_r2 : List Cond := [Cond.methodLink RX0 25 Lib.Math.min.name, Cond.static Lib.Math.min.name, Cond.initialized "java/lang/Math", Cond.code Lib.Math.min.name Lib.Math.min.code 2 (some .int)]
def wsX6_driveOutputs : List Cond := .code yX6_driveOutputs cX6_driveOutputs 3 none :: ((wsX6_driveOutputs_r1 ++ wsX6_driveOutputs_r2) ++ wsX60 ++ wsX40 ++ wsX00)
def wsX6_poll_r1 : List Cond := [Cond.fieldLink RX6 110 "FirePanel" "polls" "I", Cond.methodLink RX6 113 yX6_askPlaces, Cond.instanceMethod yX6_askPlaces, Cond.selects RX6 yX6_askPlaces yX6_askPlaces, Cond.initialized RX6, Cond.code yX6_askPlaces cX6_askPlaces 4 none, Cond.fieldLink RX6 10 "FirePanel" "ring" "LFirePanel$Ring;", Cond.fieldLink RX6 62 "FirePanel$Ring" "places" "[LFirePanel$Place;", Cond.methodLink RX6 156 yX3_reachedPlaces, Cond.instanceMethod yX3_reachedPlaces, Cond.selects RX3 yX3_reachedPlaces yX3_reachedPlaces, Cond.initialized RX3, Cond.code yX3_reachedPlaces cX3_reachedPlaces 4 (some .int), Cond.methodLink RX3 22 yX3_passableWires, Cond.instanceMethod yX3_passableWires, Cond.selects RX3 yX3_passableWires yX3_passableWires, Cond.code yX3_passableWires cX3_passableWires 5 (some .int), Cond.fieldLink RX3 18 "FirePanel$Ring" "wires" "[I", Cond.methodLink RX3 26 yX3_endsStretch, Cond.instanceMethod yX3_endsStretch, Cond.selects RX3 yX3_endsStretch yX3_endsStretch, Cond.code yX3_endsStretch cX3_endsStretch 2 (some .boolean), Cond.fieldLink RX3 11 "FirePanel$Ring" "places" "[LFirePanel$Place;", Cond.fieldLink RX3 30 "FirePanel$Place" "kind" "I"]
def wsX6_poll_r2 : List Cond := [Cond.methodLink RX6 201 yX2_isSensor, Cond.instanceMethod yX2_isSensor, Cond.selects RX2 yX2_isSensor yX2_isSensor, Cond.initialized RX2, Cond.code yX2_isSensor cX2_isSensor 1 (some .boolean), Cond.fieldLink RX2 9 "FirePanel$Place" "kind" "I", Cond.methodLink RX6 205 yX6_noteMiss, Cond.instanceMethod yX6_noteMiss, Cond.selects RX6 yX6_noteMiss yX6_noteMiss, Cond.code yX6_noteMiss cX6_noteMiss 3 none, Cond.fieldLink RX6 212 "FirePanel$Place" "missed" "I", Cond.fieldLink RX6 162 "FirePanel$Place" "atFault" "Z", Cond.fieldLink RX6 44 "FirePanel" "entries" "LFirePanel$Log;", Cond.methodLink RX6 133 yX0_add, Cond.instanceMethod yX0_add, Cond.selects RX0 yX0_add yX0_add, Cond.initialized RX0, Cond.code yX0_add cX0_add 4 none, Cond.fieldLink RX0 9 "FirePanel$Log" "words" "[I", Cond.methodLink RX0 15 arraycopyName, Cond.native arraycopyName, Cond.static arraycopyName, Cond.initialized "java/lang/System", Cond.fieldLink RX0 21 "FirePanel$Log" "size" "I"]
def wsX6_poll_r3 : List Cond := [Cond.methodLink RX0 25 Lib.Math.min.name, Cond.static Lib.Math.min.name, Cond.initialized "java/lang/Math", Cond.code Lib.Math.min.name Lib.Math.min.code 2 (some .int), Cond.methodLink RX6 209 yX6_noteAnswer, Cond.instanceMethod yX6_noteAnswer, Cond.selects RX6 yX6_noteAnswer yX6_noteAnswer, Cond.code yX6_noteAnswer cX6_noteAnswer 3 none, Cond.fieldLink RX6 149 "FirePanel$Place" "isOff" "Z", Cond.methodLink RX6 215 yX2_sense, Cond.instanceMethod yX2_sense, Cond.selects RX2 yX2_sense yX2_sense, Cond.code yX2_sense cX2_sense 1 none, Cond.fieldLink RX2 28 "FirePanel$Place" "over" "I", Cond.fieldLink RX2 31 "FirePanel$Place" "inAlarm" "Z", Cond.methodLink RX2 49 yX2_senseSmoke, Cond.instanceMethod yX2_senseSmoke, Cond.selects RX2 yX2_senseSmoke yX2_senseSmoke, Cond.code yX2_senseSmoke cX2_senseSmoke 2 none, Cond.fieldLink RX2 58 "FirePanel$Place" "reading" "F", Cond.fieldLink RX2 22 "FirePanel$Place" "base" "F", Cond.fieldLink RX2 25 "FirePanel$Place" "level" "F", Cond.constantFloat RX2 61 (1056964608), Cond.constantFloat RX2 65 (1031798784)]
def wsX6_poll_r4 : List Cond := [Cond.methodLink RX2 62 yX2_countOver, Cond.instanceMethod yX2_countOver, Cond.selects RX2 yX2_countOver yX2_countOver, Cond.code yX2_countOver cX2_countOver 1 none, Cond.fieldLink RX2 18 "FirePanel$Place" "threshold" "F", Cond.methodLink RX2 52 yX2_senseHeat, Cond.instanceMethod yX2_senseHeat, Cond.selects RX2 yX2_senseHeat yX2_senseHeat, Cond.code yX2_senseHeat cX2_senseHeat 1 none, Cond.constantFloat RX2 66 (1082130432), Cond.constantFloat RX2 67 (1048576000), Cond.methodLink RX2 55 yX2_senseButton, Cond.instanceMethod yX2_senseButton, Cond.selects RX2 yX2_senseButton yX2_senseButton, Cond.code yX2_senseButton cX2_senseButton 1 none, Cond.methodLink RX6 116 yX6_watchZones, Cond.instanceMethod yX6_watchZones, Cond.selects RX6 yX6_watchZones yX6_watchZones, Cond.code yX6_watchZones cX6_watchZones 4 (some .int), Cond.fieldLink RX6 18 "FirePanel" "zones" "[LFirePanel$Zone;", Cond.fieldLink RX6 146 "FirePanel$Zone" "isOff" "Z", Cond.fieldLink RX6 137 "FirePanel$Zone" "inFire" "Z", Cond.fieldLink RX6 72 "FirePanel$Zone" "needed" "I", Cond.fieldLink RX6 129 "FirePanel" "silent" "Z"]
def wsX6_poll_r5 : List Cond := [Cond.methodLink RX6 218 yX6_hasEnoughAlarms, Cond.instanceMethod yX6_hasEnoughAlarms, Cond.selects RX6 yX6_hasEnoughAlarms yX6_hasEnoughAlarms, Cond.code yX6_hasEnoughAlarms cX6_hasEnoughAlarms 8 (some .boolean), Cond.fieldLink RX6 159 "FirePanel$Place" "inAlarm" "Z", Cond.fieldLink RX6 165 "FirePanel$Place" "kind" "I", Cond.methodLink RX6 222 yX2_watches, Cond.instanceMethod yX2_watches, Cond.selects RX2 yX2_watches yX2_watches, Cond.code yX2_watches cX2_watches 2 (some .boolean), Cond.fieldLink RX2 15 "FirePanel$Place" "zone" "I", Cond.fieldLink RX2 45 "FirePanel$Place" "isOff" "Z", Cond.methodLink RX2 41 yX2_isSensor, Cond.methodLink RX6 120 yX6_followRules, Cond.instanceMethod yX6_followRules, Cond.selects RX6 yX6_followRules yX6_followRules, Cond.code yX6_followRules cX6_followRules 4 none, Cond.fieldLink RX6 90 "FirePanel" "ruleCount" "I", Cond.fieldLink RX6 25 "FirePanel" "rules" "[LFirePanel$Rule;", Cond.fieldLink RX6 143 "FirePanel$Rule" "held" "I", Cond.methodLink RX6 228 yX6_facts, Cond.instanceMethod yX6_facts, Cond.selects RX6 yX6_facts yX6_facts, Cond.code yX6_facts cX6_facts 3 (some .int)]
def wsX6_poll_r6 : List Cond := [Cond.methodLink RX6 184 yX6_faults, Cond.instanceMethod yX6_faults, Cond.selects RX6 yX6_faults yX6_faults, Cond.code yX6_faults cX6_faults 6 (some .int), Cond.methodLink RX6 168 yX6_hasWarning, Cond.instanceMethod yX6_hasWarning, Cond.selects RX6 yX6_hasWarning yX6_hasWarning, Cond.code yX6_hasWarning cX6_hasWarning 6 (some .boolean), Cond.methodLink RX6 225 yX2_warns, Cond.instanceMethod yX2_warns, Cond.selects RX2 yX2_warns yX2_warns, Cond.code yX2_warns cX2_warns 1 (some .boolean), Cond.constantFloat RX2 48 (1061158912), Cond.methodLink RX6 231 yX4_isTrue, Cond.instanceMethod yX4_isTrue, Cond.selects RX4 yX4_isTrue yX4_isTrue, Cond.initialized RX4, Cond.code yX4_isTrue cX4_isTrue 4 (some .boolean), Cond.fieldLink RX4 15 "FirePanel$Rule" "stepCount" "I", Cond.fieldLink RX4 9 "FirePanel$Rule" "steps" "[I", Cond.methodLink RX4 28 yX4_workOff, Cond.static yX4_workOff, Cond.code yX4_workOff cX4_workOff 5 (some .int), Cond.methodLink RX6 123 yX6_driveOutputs]
def wsX6_poll_r7 : List Cond := [Cond.instanceMethod yX6_driveOutputs, Cond.selects RX6 yX6_driveOutputs yX6_driveOutputs, Cond.code yX6_driveOutputs cX6_driveOutputs 3 none, Cond.fieldLink RX6 30 "FirePanel" "outputsOn" "[Z", Cond.methodLink RX6 234 yX6_isDriven, Cond.instanceMethod yX6_isDriven, Cond.selects RX6 yX6_isDriven yX6_isDriven, Cond.code yX6_isDriven cX6_isDriven 3 (some .boolean), Cond.fieldLink RX6 237 "FirePanel$Rule" "output" "I", Cond.fieldLink RX6 240 "FirePanel$Rule" "delay" "I"]
def wsX6_poll : List Cond := .code yX6_poll cX6_poll 2 (some .int) :: ((wsX6_poll_r1 ++ (wsX6_poll_r2 ++ (wsX6_poll_r3 ++ (wsX6_poll_r4 ++ (wsX6_poll_r5 ++ (wsX6_poll_r6 ++ wsX6_poll_r7)))))) ++ wsX60 ++ wsX30 ++ wsX20 ++ wsX00 ++ wsX50 ++ wsX40)
def wsX6_key : List Cond := .code yX6_key cX6_key 2 (some .int) :: ([.fieldLink RX6 126 "FirePanel" "entered" "I"] ++ wsX60)
def wsX6_silence_r1 : List Cond := [Cond.fieldLink RX6 129 "FirePanel" "silent" "Z", Cond.fieldLink RX6 44 "FirePanel" "entries" "LFirePanel$Log;", Cond.fieldLink RX6 110 "FirePanel" "polls" "I", Cond.methodLink RX6 58 yX6_mustHaveEntered, Cond.instanceMethod yX6_mustHaveEntered, Cond.selects RX6 yX6_mustHaveEntered yX6_mustHaveEntered, Cond.initialized RX6, Cond.code yX6_mustHaveEntered cX6_mustHaveEntered 2 none, Cond.classLink RX6 93 "java/lang/IllegalStateException", Cond.initialized "java/lang/IllegalStateException", Cond.fieldLink RX6 126 "FirePanel" "entered" "I", Cond.methodLink RX6 133 yX0_add, Cond.instanceMethod yX0_add, Cond.selects RX0 yX0_add yX0_add, Cond.initialized RX0, Cond.code yX0_add cX0_add 4 none, Cond.fieldLink RX0 9 "FirePanel$Log" "words" "[I", Cond.methodLink RX0 15 arraycopyName, Cond.native arraycopyName, Cond.static arraycopyName, Cond.initialized "java/lang/System", Cond.fieldLink RX0 21 "FirePanel$Log" "size" "I", Cond.methodLink RX0 25 Lib.Math.min.name, Cond.static Lib.Math.min.name]
def wsX6_silence_r2 : List Cond := [Cond.initialized "java/lang/Math", Cond.code Lib.Math.min.name Lib.Math.min.code 2 (some .int)]
def wsX6_silence : List Cond := .code yX6_silence cX6_silence 1 (some .boolean) :: ((wsX6_silence_r1 ++ wsX6_silence_r2) ++ wsX60 ++ wsX00 ++ (vx_atS RX6 97 "java/lang/IllegalStateException" ["java/lang/RuntimeException", "java/lang/Exception"]).filter goodWord)
def wsX6_reset_r1 : List Cond := [Cond.fieldLink RX6 18 "FirePanel" "zones" "[LFirePanel$Zone;", Cond.fieldLink RX6 137 "FirePanel$Zone" "inFire" "Z", Cond.fieldLink RX6 10 "FirePanel" "ring" "LFirePanel$Ring;", Cond.fieldLink RX6 62 "FirePanel$Ring" "places" "[LFirePanel$Place;", Cond.fieldLink RX6 25 "FirePanel" "rules" "[LFirePanel$Rule;", Cond.fieldLink RX6 143 "FirePanel$Rule" "held" "I", Cond.fieldLink RX6 129 "FirePanel" "silent" "Z", Cond.fieldLink RX6 44 "FirePanel" "entries" "LFirePanel$Log;", Cond.fieldLink RX6 110 "FirePanel" "polls" "I", Cond.methodLink RX6 58 yX6_mustHaveEntered, Cond.instanceMethod yX6_mustHaveEntered, Cond.selects RX6 yX6_mustHaveEntered yX6_mustHaveEntered, Cond.initialized RX6, Cond.code yX6_mustHaveEntered cX6_mustHaveEntered 2 none, Cond.classLink RX6 93 "java/lang/IllegalStateException", Cond.initialized "java/lang/IllegalStateException", Cond.fieldLink RX6 126 "FirePanel" "entered" "I", Cond.methodLink RX6 140 yX2_calmDown, Cond.instanceMethod yX2_calmDown, Cond.selects RX2 yX2_calmDown yX2_calmDown, Cond.initialized RX2, Cond.code yX2_calmDown cX2_calmDown 1 none, Cond.fieldLink RX2 31 "FirePanel$Place" "inAlarm" "Z", Cond.fieldLink RX2 28 "FirePanel$Place" "over" "I"]
def wsX6_reset_r2 : List Cond := [Cond.methodLink RX6 107 yX6_allOutputsOff, Cond.instanceMethod yX6_allOutputsOff, Cond.selects RX6 yX6_allOutputsOff yX6_allOutputsOff, Cond.code yX6_allOutputsOff cX6_allOutputsOff 2 none, Cond.fieldLink RX6 30 "FirePanel" "outputsOn" "[Z", Cond.methodLink RX6 133 yX0_add, Cond.instanceMethod yX0_add, Cond.selects RX0 yX0_add yX0_add, Cond.initialized RX0, Cond.code yX0_add cX0_add 4 none, Cond.fieldLink RX0 9 "FirePanel$Log" "words" "[I", Cond.methodLink RX0 15 arraycopyName, Cond.native arraycopyName, Cond.static arraycopyName, Cond.initialized "java/lang/System", Cond.fieldLink RX0 21 "FirePanel$Log" "size" "I", Cond.methodLink RX0 25 Lib.Math.min.name, Cond.static Lib.Math.min.name, Cond.initialized "java/lang/Math", Cond.code Lib.Math.min.name Lib.Math.min.code 2 (some .int)]
def wsX6_reset : List Cond := .code yX6_reset cX6_reset 6 (some .int) :: ((wsX6_reset_r1 ++ wsX6_reset_r2) ++ wsX60 ++ wsX50 ++ wsX30 ++ wsX40 ++ wsX20 ++ wsX00 ++ (vx_atS RX6 97 "java/lang/IllegalStateException" ["java/lang/RuntimeException", "java/lang/Exception"]).filter goodWord)
def wsX6_off_r1 : List Cond := [Cond.fieldLink RX6 18 "FirePanel" "zones" "[LFirePanel$Zone;", Cond.fieldLink RX6 146 "FirePanel$Zone" "isOff" "Z", Cond.fieldLink RX6 10 "FirePanel" "ring" "LFirePanel$Ring;", Cond.fieldLink RX6 62 "FirePanel$Ring" "places" "[LFirePanel$Place;", Cond.fieldLink RX6 149 "FirePanel$Place" "isOff" "Z", Cond.fieldLink RX6 44 "FirePanel" "entries" "LFirePanel$Log;", Cond.fieldLink RX6 110 "FirePanel" "polls" "I", Cond.methodLink RX6 48 yX6_mustExist, Cond.static yX6_mustExist, Cond.initialized RX6, Cond.code yX6_mustExist cX6_mustExist 2 none, Cond.classLink RX6 192 "java/util/NoSuchElementException", Cond.initialized "java/util/NoSuchElementException", Cond.methodLink RX6 58 yX6_mustHaveEntered, Cond.instanceMethod yX6_mustHaveEntered, Cond.selects RX6 yX6_mustHaveEntered yX6_mustHaveEntered, Cond.code yX6_mustHaveEntered cX6_mustHaveEntered 2 none, Cond.classLink RX6 93 "java/lang/IllegalStateException", Cond.initialized "java/lang/IllegalStateException", Cond.fieldLink RX6 126 "FirePanel" "entered" "I", Cond.methodLink RX6 133 yX0_add, Cond.instanceMethod yX0_add, Cond.selects RX0 yX0_add yX0_add, Cond.initialized RX0]
def wsX6_off_r2 : List Cond := [Cond.code yX0_add cX0_add 4 none, Cond.fieldLink RX0 9 "FirePanel$Log" "words" "[I", Cond.methodLink RX0 15 arraycopyName, Cond.native arraycopyName, Cond.static arraycopyName, Cond.initialized "java/lang/System", Cond.fieldLink RX0 21 "FirePanel$Log" "size" "I", Cond.methodLink RX0 25 Lib.Math.min.name, Cond.static Lib.Math.min.name, Cond.initialized "java/lang/Math", Cond.code Lib.Math.min.name Lib.Math.min.code 2 (some .int)]
def wsX6_off : List Cond := .code yX6_off cX6_off 5 (some .boolean) :: ((wsX6_off_r1 ++ wsX6_off_r2) ++ wsX60 ++ wsX50 ++ wsX30 ++ wsX20 ++ wsX00 ++ (vx_atS RX6 196 "java/util/NoSuchElementException" ["java/lang/RuntimeException", "java/lang/Exception"]).filter goodWord ++ (vx_atS RX6 97 "java/lang/IllegalStateException" ["java/lang/RuntimeException", "java/lang/Exception"]).filter goodWord)
def wsX6_level : List Cond := .code yX6_level cX6_level 2 (some .float) :: ([.fieldLink RX6 10 "FirePanel" "ring" "LFirePanel$Ring;", .fieldLink RX6 62 "FirePanel$Ring" "places" "[LFirePanel$Place;", .fieldLink RX6 150 "FirePanel$Place" "level" "F", .methodLink RX6 48 yX6_mustExist, .static yX6_mustExist, .initialized RX6, .code yX6_mustExist cX6_mustExist 2 none, .classLink RX6 192 "java/util/NoSuchElementException", .initialized "java/util/NoSuchElementException"] ++ wsX60 ++ wsX30 ++ wsX20 ++ (vx_atS RX6 196 "java/util/NoSuchElementException" ["java/lang/RuntimeException", "java/lang/Exception"]).filter goodWord)
def wsX6_base : List Cond := .code yX6_base cX6_base 2 (some .float) :: ([.fieldLink RX6 10 "FirePanel" "ring" "LFirePanel$Ring;", .fieldLink RX6 62 "FirePanel$Ring" "places" "[LFirePanel$Place;", .fieldLink RX6 153 "FirePanel$Place" "base" "F", .methodLink RX6 48 yX6_mustExist, .static yX6_mustExist, .initialized RX6, .code yX6_mustExist cX6_mustExist 2 none, .classLink RX6 192 "java/util/NoSuchElementException", .initialized "java/util/NoSuchElementException"] ++ wsX60 ++ wsX30 ++ wsX20 ++ (vx_atS RX6 196 "java/util/NoSuchElementException" ["java/lang/RuntimeException", "java/lang/Exception"]).filter goodWord)
def wsX6_place_r1 : List Cond := [Cond.fieldLink RX6 10 "FirePanel" "ring" "LFirePanel$Ring;", Cond.fieldLink RX6 62 "FirePanel$Ring" "places" "[LFirePanel$Place;", Cond.fieldLink RX6 159 "FirePanel$Place" "inAlarm" "Z", Cond.fieldLink RX6 162 "FirePanel$Place" "atFault" "Z", Cond.fieldLink RX6 149 "FirePanel$Place" "isOff" "Z", Cond.fieldLink RX6 165 "FirePanel$Place" "kind" "I", Cond.methodLink RX6 48 yX6_mustExist, Cond.static yX6_mustExist, Cond.initialized RX6, Cond.code yX6_mustExist cX6_mustExist 2 none, Cond.classLink RX6 192 "java/util/NoSuchElementException", Cond.initialized "java/util/NoSuchElementException", Cond.methodLink RX6 156 yX3_reachedPlaces, Cond.instanceMethod yX3_reachedPlaces, Cond.selects RX3 yX3_reachedPlaces yX3_reachedPlaces, Cond.initialized RX3, Cond.code yX3_reachedPlaces cX3_reachedPlaces 4 (some .int), Cond.methodLink RX3 22 yX3_passableWires, Cond.instanceMethod yX3_passableWires, Cond.selects RX3 yX3_passableWires yX3_passableWires, Cond.code yX3_passableWires cX3_passableWires 5 (some .int), Cond.fieldLink RX3 18 "FirePanel$Ring" "wires" "[I", Cond.methodLink RX3 26 yX3_endsStretch, Cond.instanceMethod yX3_endsStretch]
def wsX6_place_r2 : List Cond := [Cond.selects RX3 yX3_endsStretch yX3_endsStretch, Cond.code yX3_endsStretch cX3_endsStretch 2 (some .boolean), Cond.fieldLink RX3 11 "FirePanel$Ring" "places" "[LFirePanel$Place;", Cond.fieldLink RX3 30 "FirePanel$Place" "kind" "I"]
def wsX6_place : List Cond := .code yX6_place cX6_place 4 (some .int) :: ((wsX6_place_r1 ++ wsX6_place_r2) ++ wsX60 ++ wsX30 ++ wsX20 ++ (vx_atS RX6 196 "java/util/NoSuchElementException" ["java/lang/RuntimeException", "java/lang/Exception"]).filter goodWord)
def wsX6_zone_r1 : List Cond := [Cond.fieldLink RX6 18 "FirePanel" "zones" "[LFirePanel$Zone;", Cond.fieldLink RX6 137 "FirePanel$Zone" "inFire" "Z", Cond.fieldLink RX6 146 "FirePanel$Zone" "isOff" "Z", Cond.methodLink RX6 48 yX6_mustExist, Cond.static yX6_mustExist, Cond.initialized RX6, Cond.code yX6_mustExist cX6_mustExist 2 none, Cond.classLink RX6 192 "java/util/NoSuchElementException", Cond.initialized "java/util/NoSuchElementException", Cond.methodLink RX6 168 yX6_hasWarning, Cond.instanceMethod yX6_hasWarning, Cond.selects RX6 yX6_hasWarning yX6_hasWarning, Cond.code yX6_hasWarning cX6_hasWarning 6 (some .boolean), Cond.fieldLink RX6 10 "FirePanel" "ring" "LFirePanel$Ring;", Cond.fieldLink RX6 62 "FirePanel$Ring" "places" "[LFirePanel$Place;", Cond.methodLink RX6 222 yX2_watches, Cond.instanceMethod yX2_watches, Cond.selects RX2 yX2_watches yX2_watches, Cond.initialized RX2, Cond.code yX2_watches cX2_watches 2 (some .boolean), Cond.fieldLink RX2 15 "FirePanel$Place" "zone" "I", Cond.fieldLink RX2 45 "FirePanel$Place" "isOff" "Z", Cond.methodLink RX2 41 yX2_isSensor, Cond.instanceMethod yX2_isSensor]
def wsX6_zone_r2 : List Cond := [Cond.selects RX2 yX2_isSensor yX2_isSensor, Cond.code yX2_isSensor cX2_isSensor 1 (some .boolean), Cond.fieldLink RX2 9 "FirePanel$Place" "kind" "I", Cond.methodLink RX6 225 yX2_warns, Cond.instanceMethod yX2_warns, Cond.selects RX2 yX2_warns yX2_warns, Cond.code yX2_warns cX2_warns 1 (some .boolean), Cond.fieldLink RX2 31 "FirePanel$Place" "inAlarm" "Z", Cond.fieldLink RX2 25 "FirePanel$Place" "level" "F", Cond.fieldLink RX2 18 "FirePanel$Place" "threshold" "F", Cond.constantFloat RX2 48 (1061158912)]
def wsX6_zone : List Cond := .code yX6_zone cX6_zone 3 (some .int) :: ((wsX6_zone_r1 ++ wsX6_zone_r2) ++ wsX60 ++ wsX50 ++ wsX30 ++ wsX20 ++ (vx_atS RX6 196 "java/util/NoSuchElementException" ["java/lang/RuntimeException", "java/lang/Exception"]).filter goodWord)
def wsX6_output : List Cond := .code yX6_output cX6_output 3 (some .int) :: ([.fieldLink RX6 30 "FirePanel" "outputsOn" "[Z", .fieldLink RX6 129 "FirePanel" "silent" "Z", .methodLink RX6 48 yX6_mustExist, .static yX6_mustExist, .initialized RX6, .code yX6_mustExist cX6_mustExist 2 none, .classLink RX6 192 "java/util/NoSuchElementException", .initialized "java/util/NoSuchElementException"] ++ wsX60 ++ (vx_atS RX6 196 "java/util/NoSuchElementException" ["java/lang/RuntimeException", "java/lang/Exception"]).filter goodWord)
def wsX6_held : List Cond := .code yX6_held cX6_held 2 (some .int) :: ([.fieldLink RX6 90 "FirePanel" "ruleCount" "I", .methodLink RX6 172 Lib.Math.min.name, .static Lib.Math.min.name, .initialized "java/lang/Math", .code Lib.Math.min.name Lib.Math.min.code 2 (some .int), .fieldLink RX6 25 "FirePanel" "rules" "[LFirePanel$Rule;", .fieldLink RX6 143 "FirePanel$Rule" "held" "I", .methodLink RX6 48 yX6_mustExist, .static yX6_mustExist, .initialized RX6, .code yX6_mustExist cX6_mustExist 2 none, .classLink RX6 192 "java/util/NoSuchElementException", .initialized "java/util/NoSuchElementException"] ++ wsX60 ++ wsX40 ++ (vx_atS RX6 196 "java/util/NoSuchElementException" ["java/lang/RuntimeException", "java/lang/Exception"]).filter goodWord)
def wsX6_log : List Cond := .code yX6_log cX6_log 3 (some .int) :: ([.fieldLink RX6 44 "FirePanel" "entries" "LFirePanel$Log;", .fieldLink RX6 178 "FirePanel$Log" "size" "I", .methodLink RX6 172 Lib.Math.min.name, .static Lib.Math.min.name, .initialized "java/lang/Math", .code Lib.Math.min.name Lib.Math.min.code 2 (some .int), .fieldLink RX6 181 "FirePanel$Log" "words" "[I", .methodLink RX6 52 yX6_mustBeAllowed, .static yX6_mustBeAllowed, .initialized RX6, .code yX6_mustBeAllowed cX6_mustBeAllowed 1 none, .classLink RX6 187 "java/lang/IllegalArgumentException", .initialized "java/lang/IllegalArgumentException"] ++ wsX60 ++ wsX00 ++ (vx_atS RX6 191 "java/lang/IllegalArgumentException" ["java/lang/RuntimeException", "java/lang/Exception"]).filter goodWord)
def wsX6_count : List Cond := .code yX6_count cX6_count 2 (some .int) :: ([.classLink RX6 187 "java/lang/IllegalArgumentException", .initialized "java/lang/IllegalArgumentException", .fieldLink RX6 110 "FirePanel" "polls" "I", .fieldLink RX6 90 "FirePanel" "ruleCount" "I", .fieldLink RX6 126 "FirePanel" "entered" "I", .fieldLink RX6 129 "FirePanel" "silent" "Z", .fieldLink RX6 37 "FirePanel" "pad" "LFirePanel$Pad;", .fieldLink RX6 104 "FirePanel$Pad" "length" "I", .methodLink RX6 184 yX6_faults, .instanceMethod yX6_faults, .selects RX6 yX6_faults yX6_faults, .initialized RX6, .code yX6_faults cX6_faults 6 (some .int), .fieldLink RX6 10 "FirePanel" "ring" "LFirePanel$Ring;", .fieldLink RX6 62 "FirePanel$Ring" "places" "[LFirePanel$Place;", .fieldLink RX6 162 "FirePanel$Place" "atFault" "Z"] ++ wsX60 ++ wsX10 ++ wsX30 ++ wsX20 ++ (vx_atS RX6 191 "java/lang/IllegalArgumentException" ["java/lang/RuntimeException", "java/lang/Exception"]).filter goodWord)
def wsX7_init_r1 : List Cond := [Cond.methodLink RX7 1 objectInit, Cond.instanceMethod objectInit, Cond.code objectInit ⟨#[0xb1]⟩ 1 none, Cond.arrayClass .int, Cond.fieldLink RX7 7 "FirePanelModel" "wires" "[I", Cond.fieldLink RX7 13 "FirePanelModel" "kind" "[I", Cond.fieldLink RX7 16 "FirePanelModel" "zoneOf" "[I", Cond.arrayClass .float, Cond.fieldLink RX7 19 "FirePanelModel" "threshold" "[F", Cond.fieldLink RX7 23 "FirePanelModel" "readings" "[F", Cond.fieldLink RX7 26 "FirePanelModel" "bases" "[F", Cond.fieldLink RX7 29 "FirePanelModel" "levels" "[F", Cond.fieldLink RX7 32 "FirePanelModel" "over" "[I", Cond.arrayClass .boolean, Cond.fieldLink RX7 35 "FirePanelModel" "alarm" "[Z", Cond.fieldLink RX7 39 "FirePanelModel" "missed" "[I", Cond.fieldLink RX7 42 "FirePanelModel" "fault" "[Z", Cond.fieldLink RX7 45 "FirePanelModel" "placeOff" "[Z", Cond.fieldLink RX7 48 "FirePanelModel" "zoneOff" "[Z", Cond.fieldLink RX7 51 "FirePanelModel" "needs" "[I", Cond.fieldLink RX7 54 "FirePanelModel" "fire" "[Z", Cond.fieldLink RX7 57 "FirePanelModel" "words" "[I", Cond.fieldLink RX7 60 "FirePanelModel" "length" "[I", Cond.fieldLink RX7 63 "FirePanelModel" "drives" "[I"]
def wsX7_init_r2 : List Cond := [Cond.fieldLink RX7 66 "FirePanelModel" "delay" "[I", Cond.fieldLink RX7 69 "FirePanelModel" "heldFor" "[I", Cond.fieldLink RX7 72 "FirePanelModel" "on" "[Z", Cond.arrayClass .char, Cond.fieldLink RX7 75 "FirePanelModel" "pad" "[C", Cond.fieldLink RX7 79 "FirePanelModel" "logged" "[I", Cond.fieldLink RX7 82 "FirePanelModel" "waiting" "[C", Cond.fieldLink RX7 85 "FirePanelModel" "making" "[I"]
def wsX7_init : List Cond := .code yX7_init cX7_init 2 none :: ((wsX7_init_r1 ++ wsX7_init_r2) ++ wsX70)
def wsX7_thrown : List Cond := .code yX7_thrown cX7_thrown 1 (some .int) :: ([.fieldLink RX7 88 "FirePanelModel" "thrown" "I"] ++ wsX70)
def wsX7_in : List Cond := .code yX7_in cX7_in 3 (some .boolean) :: ([])
def wsX7_stretchShort : List Cond := .code yX7_stretchShort cX7_stretchShort 4 (some .boolean) :: ([.fieldLink RX7 7 "FirePanelModel" "wires" "[I", .fieldLink RX7 13 "FirePanelModel" "kind" "[I"] ++ wsX70)
def wsX7_goes : List Cond := .code yX7_goes cX7_goes 2 (some .boolean) :: ([.fieldLink RX7 7 "FirePanelModel" "wires" "[I", .methodLink RX7 92 yX7_stretchShort, .instanceMethod yX7_stretchShort, .selects RX7 yX7_stretchShort yX7_stretchShort, .initialized RX7, .code yX7_stretchShort cX7_stretchShort 4 (some .boolean), .fieldLink RX7 13 "FirePanelModel" "kind" "[I"] ++ wsX70)
def wsX7_reached : List Cond := .code yX7_reached cX7_reached 5 (some .boolean) :: ([.methodLink RX7 96 yX7_goes, .instanceMethod yX7_goes, .selects RX7 yX7_goes yX7_goes, .initialized RX7, .code yX7_goes cX7_goes 2 (some .boolean), .fieldLink RX7 7 "FirePanelModel" "wires" "[I", .methodLink RX7 92 yX7_stretchShort, .instanceMethod yX7_stretchShort, .selects RX7 yX7_stretchShort yX7_stretchShort, .code yX7_stretchShort cX7_stretchShort 4 (some .boolean), .fieldLink RX7 13 "FirePanelModel" "kind" "[I"] ++ wsX70)
def wsX7_isSensor : List Cond := .code yX7_isSensor cX7_isSensor 2 (some .boolean) :: ([.fieldLink RX7 13 "FirePanelModel" "kind" "[I", .methodLink RX7 99 yX7_in, .static yX7_in, .initialized RX7, .code yX7_in cX7_in 3 (some .boolean)] ++ wsX70)
def wsX7_fit : List Cond := .code yX7_fit cX7_fit 5 none :: ([.constantFloat RX7 103 (1056964608), .constantFloat RX7 104 (1120403456), .fieldLink RX7 105 "FirePanelModel" "access" "I", .fieldLink RX7 88 "FirePanelModel" "thrown" "I", .fieldLink RX7 13 "FirePanelModel" "kind" "[I", .fieldLink RX7 16 "FirePanelModel" "zoneOf" "[I", .fieldLink RX7 19 "FirePanelModel" "threshold" "[F", .fieldLink RX7 26 "FirePanelModel" "bases" "[F", .fieldLink RX7 29 "FirePanelModel" "levels" "[F", .fieldLink RX7 32 "FirePanelModel" "over" "[I", .fieldLink RX7 35 "FirePanelModel" "alarm" "[Z", .fieldLink RX7 39 "FirePanelModel" "missed" "[I", .fieldLink RX7 42 "FirePanelModel" "fault" "[Z", .methodLink RX7 99 yX7_in, .static yX7_in, .initialized RX7, .code yX7_in cX7_in 3 (some .boolean)] ++ wsX70)
def wsX7_need : List Cond := .code yX7_need cX7_need 3 none :: ([.fieldLink RX7 105 "FirePanelModel" "access" "I", .fieldLink RX7 88 "FirePanelModel" "thrown" "I", .fieldLink RX7 51 "FirePanelModel" "needs" "[I", .methodLink RX7 99 yX7_in, .static yX7_in, .initialized RX7, .code yX7_in cX7_in 3 (some .boolean)] ++ wsX70)
def wsX7_wire : List Cond := .code yX7_wire cX7_wire 3 none :: ([.fieldLink RX7 88 "FirePanelModel" "thrown" "I", .fieldLink RX7 7 "FirePanelModel" "wires" "[I", .methodLink RX7 99 yX7_in, .static yX7_in, .initialized RX7, .code yX7_in cX7_in 3 (some .boolean)] ++ wsX70)
def wsX7_reading : List Cond := .code yX7_reading cX7_reading 3 none :: ([.constantFloat RX7 108 (3267887104), .constantFloat RX7 109 (1128792064), .fieldLink RX7 88 "FirePanelModel" "thrown" "I", .fieldLink RX7 23 "FirePanelModel" "readings" "[F", .methodLink RX7 99 yX7_in, .static yX7_in, .initialized RX7, .code yX7_in cX7_in 3 (some .boolean)] ++ wsX70)
def wsX7_type : List Cond := .code yX7_type cX7_type 3 (some .boolean) :: ([.fieldLink RX7 88 "FirePanelModel" "thrown" "I", .fieldLink RX7 110 "FirePanelModel" "typed" "I", .fieldLink RX7 75 "FirePanelModel" "pad" "[C"] ++ wsX70)
def wsX7_look : List Cond := .code yX7_look cX7_look 2 (some .char) :: ([.fieldLink RX7 110 "FirePanelModel" "typed" "I", .fieldLink RX7 75 "FirePanelModel" "pad" "[C"] ++ wsX70)
def wsX7_word : List Cond := .code yX7_word cX7_word 2 none :: ([.fieldLink RX7 85 "FirePanelModel" "making" "[I", .fieldLink RX7 113 "FirePanelModel" "made" "I"] ++ wsX70)
def wsX7_deepness : List Cond := .code yX7_deepness cX7_deepness 3 (some .int) :: ([.fieldLink RX7 116 "FirePanelModel" "waits" "I", .fieldLink RX7 82 "FirePanelModel" "waiting" "[C"] ++ wsX70)
def wsX7_termDone : List Cond := .code yX7_termDone cX7_termDone 1 none :: ([.fieldLink RX7 116 "FirePanelModel" "waits" "I", .fieldLink RX7 82 "FirePanelModel" "waiting" "[C", .methodLink RX7 119 yX7_word, .instanceMethod yX7_word, .selects RX7 yX7_word yX7_word, .initialized RX7, .code yX7_word cX7_word 2 none, .fieldLink RX7 85 "FirePanelModel" "making" "[I", .fieldLink RX7 113 "FirePanelModel" "made" "I"] ++ wsX70)
def wsX7_put : List Cond := .code yX7_put cX7_put 2 none :: ([.fieldLink RX7 82 "FirePanelModel" "waiting" "[C", .fieldLink RX7 116 "FirePanelModel" "waits" "I"] ++ wsX70)
def wsX7_condition_r1 : List Cond := [Cond.fieldLink RX7 116 "FirePanelModel" "waits" "I", Cond.fieldLink RX7 113 "FirePanelModel" "made" "I", Cond.fieldLink RX7 110 "FirePanelModel" "typed" "I", Cond.methodLink RX7 123 yX7_look, Cond.instanceMethod yX7_look, Cond.selects RX7 yX7_look yX7_look, Cond.initialized RX7, Cond.code yX7_look cX7_look 2 (some .char), Cond.fieldLink RX7 75 "FirePanelModel" "pad" "[C", Cond.methodLink RX7 127 yX7_deepness, Cond.instanceMethod yX7_deepness, Cond.selects RX7 yX7_deepness yX7_deepness, Cond.code yX7_deepness cX7_deepness 3 (some .int), Cond.fieldLink RX7 82 "FirePanelModel" "waiting" "[C", Cond.methodLink RX7 131 yX7_put, Cond.instanceMethod yX7_put, Cond.selects RX7 yX7_put yX7_put, Cond.code yX7_put cX7_put 2 none, Cond.methodLink RX7 119 yX7_word, Cond.instanceMethod yX7_word, Cond.selects RX7 yX7_word yX7_word, Cond.code yX7_word cX7_word 2 none, Cond.fieldLink RX7 85 "FirePanelModel" "making" "[I", Cond.methodLink RX7 135 yX7_termDone]
def wsX7_condition_r2 : List Cond := [Cond.instanceMethod yX7_termDone, Cond.selects RX7 yX7_termDone yX7_termDone, Cond.code yX7_termDone cX7_termDone 1 none]
def wsX7_condition : List Cond := .code yX7_condition cX7_condition 5 (some .int) :: ((wsX7_condition_r1 ++ wsX7_condition_r2) ++ wsX70)
def wsX7_read_r1 : List Cond := [Cond.fieldLink RX7 110 "FirePanelModel" "typed" "I", Cond.fieldLink RX7 113 "FirePanelModel" "made" "I", Cond.fieldLink RX7 57 "FirePanelModel" "words" "[I", Cond.fieldLink RX7 85 "FirePanelModel" "making" "[I", Cond.fieldLink RX7 60 "FirePanelModel" "length" "[I", Cond.fieldLink RX7 63 "FirePanelModel" "drives" "[I", Cond.fieldLink RX7 66 "FirePanelModel" "delay" "[I", Cond.fieldLink RX7 69 "FirePanelModel" "heldFor" "[I", Cond.methodLink RX7 138 yX7_condition, Cond.instanceMethod yX7_condition, Cond.selects RX7 yX7_condition yX7_condition, Cond.initialized RX7, Cond.code yX7_condition cX7_condition 5 (some .int), Cond.fieldLink RX7 116 "FirePanelModel" "waits" "I", Cond.methodLink RX7 123 yX7_look, Cond.instanceMethod yX7_look, Cond.selects RX7 yX7_look yX7_look, Cond.code yX7_look cX7_look 2 (some .char), Cond.fieldLink RX7 75 "FirePanelModel" "pad" "[C", Cond.methodLink RX7 127 yX7_deepness, Cond.instanceMethod yX7_deepness, Cond.selects RX7 yX7_deepness yX7_deepness, Cond.code yX7_deepness cX7_deepness 3 (some .int), Cond.fieldLink RX7 82 "FirePanelModel" "waiting" "[C"]
def wsX7_read_r2 : List Cond := [Cond.methodLink RX7 131 yX7_put, Cond.instanceMethod yX7_put, Cond.selects RX7 yX7_put yX7_put, Cond.code yX7_put cX7_put 2 none, Cond.methodLink RX7 119 yX7_word, Cond.instanceMethod yX7_word, Cond.selects RX7 yX7_word yX7_word, Cond.code yX7_word cX7_word 2 none, Cond.methodLink RX7 135 yX7_termDone, Cond.instanceMethod yX7_termDone, Cond.selects RX7 yX7_termDone yX7_termDone, Cond.code yX7_termDone cX7_termDone 1 none]
def wsX7_read : List Cond := .code yX7_read cX7_read 5 (some .int) :: ((wsX7_read_r1 ++ wsX7_read_r2) ++ wsX70)
def wsX7_rule_r1 : List Cond := [Cond.fieldLink RX7 105 "FirePanelModel" "access" "I", Cond.fieldLink RX7 141 "FirePanelModel" "rules" "I", Cond.fieldLink RX7 88 "FirePanelModel" "thrown" "I", Cond.fieldLink RX7 110 "FirePanelModel" "typed" "I", Cond.methodLink RX7 144 yX7_read, Cond.instanceMethod yX7_read, Cond.selects RX7 yX7_read yX7_read, Cond.initialized RX7, Cond.code yX7_read cX7_read 5 (some .int), Cond.fieldLink RX7 113 "FirePanelModel" "made" "I", Cond.fieldLink RX7 57 "FirePanelModel" "words" "[I", Cond.fieldLink RX7 85 "FirePanelModel" "making" "[I", Cond.fieldLink RX7 60 "FirePanelModel" "length" "[I", Cond.fieldLink RX7 63 "FirePanelModel" "drives" "[I", Cond.fieldLink RX7 66 "FirePanelModel" "delay" "[I", Cond.fieldLink RX7 69 "FirePanelModel" "heldFor" "[I", Cond.methodLink RX7 138 yX7_condition, Cond.instanceMethod yX7_condition, Cond.selects RX7 yX7_condition yX7_condition, Cond.code yX7_condition cX7_condition 5 (some .int), Cond.fieldLink RX7 116 "FirePanelModel" "waits" "I", Cond.methodLink RX7 123 yX7_look, Cond.instanceMethod yX7_look, Cond.selects RX7 yX7_look yX7_look]
def wsX7_rule_r2 : List Cond := [Cond.code yX7_look cX7_look 2 (some .char), Cond.fieldLink RX7 75 "FirePanelModel" "pad" "[C", Cond.methodLink RX7 127 yX7_deepness, Cond.instanceMethod yX7_deepness, Cond.selects RX7 yX7_deepness yX7_deepness, Cond.code yX7_deepness cX7_deepness 3 (some .int), Cond.fieldLink RX7 82 "FirePanelModel" "waiting" "[C", Cond.methodLink RX7 131 yX7_put, Cond.instanceMethod yX7_put, Cond.selects RX7 yX7_put yX7_put, Cond.code yX7_put cX7_put 2 none, Cond.methodLink RX7 119 yX7_word, Cond.instanceMethod yX7_word, Cond.selects RX7 yX7_word yX7_word, Cond.code yX7_word cX7_word 2 none, Cond.methodLink RX7 135 yX7_termDone, Cond.instanceMethod yX7_termDone, Cond.selects RX7 yX7_termDone yX7_termDone, Cond.code yX7_termDone cX7_termDone 1 none]
def wsX7_rule : List Cond := .code yX7_rule cX7_rule 2 (some .int) :: ((wsX7_rule_r1 ++ wsX7_rule_r2) ++ wsX70)
def wsX7_forget : List Cond := .code yX7_forget cX7_forget 3 (some .int) :: ([.fieldLink RX7 105 "FirePanelModel" "access" "I", .fieldLink RX7 88 "FirePanelModel" "thrown" "I", .fieldLink RX7 141 "FirePanelModel" "rules" "I", .fieldLink RX7 72 "FirePanelModel" "on" "[Z"] ++ wsX70)
def wsX7_note : List Cond := .code yX7_note cX7_note 4 none :: ([.fieldLink RX7 79 "FirePanelModel" "logged" "[I", .fieldLink RX7 148 "FirePanelModel" "polls" "I", .fieldLink RX7 151 "FirePanelModel" "entries" "I"] ++ wsX70)
def wsX7_warns : List Cond := .code yX7_warns cX7_warns 5 (some .boolean) :: ([.fieldLink RX7 16 "FirePanelModel" "zoneOf" "[I", .fieldLink RX7 45 "FirePanelModel" "placeOff" "[Z", .fieldLink RX7 35 "FirePanelModel" "alarm" "[Z", .fieldLink RX7 13 "FirePanelModel" "kind" "[I", .fieldLink RX7 29 "FirePanelModel" "levels" "[F", .fieldLink RX7 19 "FirePanelModel" "threshold" "[F", .constantFloat RX7 157 (1061158912), .methodLink RX7 154 yX7_isSensor, .instanceMethod yX7_isSensor, .selects RX7 yX7_isSensor yX7_isSensor, .initialized RX7, .code yX7_isSensor cX7_isSensor 2 (some .boolean), .methodLink RX7 99 yX7_in, .static yX7_in, .code yX7_in cX7_in 3 (some .boolean)] ++ wsX70)
def wsX7_faults : List Cond := .code yX7_faults cX7_faults 3 (some .int) :: ([.fieldLink RX7 42 "FirePanelModel" "fault" "[Z"] ++ wsX70)
def wsX7_sense : List Cond := .code yX7_sense cX7_sense 4 none :: ([.fieldLink RX7 23 "FirePanelModel" "readings" "[F", .fieldLink RX7 13 "FirePanelModel" "kind" "[I", .fieldLink RX7 32 "FirePanelModel" "over" "[I", .fieldLink RX7 29 "FirePanelModel" "levels" "[F", .fieldLink RX7 26 "FirePanelModel" "bases" "[F", .constantFloat RX7 103 (1056964608), .constantFloat RX7 158 (1082130432), .constantFloat RX7 159 (1048576000), .fieldLink RX7 19 "FirePanelModel" "threshold" "[F", .constantFloat RX7 160 (1031798784), .fieldLink RX7 35 "FirePanelModel" "alarm" "[Z"] ++ wsX70)
def wsX7_ask_r1 : List Cond := [Cond.fieldLink RX7 39 "FirePanelModel" "missed" "[I", Cond.fieldLink RX7 42 "FirePanelModel" "fault" "[Z", Cond.fieldLink RX7 45 "FirePanelModel" "placeOff" "[Z", Cond.methodLink RX7 161 yX7_reached, Cond.instanceMethod yX7_reached, Cond.selects RX7 yX7_reached yX7_reached, Cond.initialized RX7, Cond.code yX7_reached cX7_reached 5 (some .boolean), Cond.methodLink RX7 96 yX7_goes, Cond.instanceMethod yX7_goes, Cond.selects RX7 yX7_goes yX7_goes, Cond.code yX7_goes cX7_goes 2 (some .boolean), Cond.fieldLink RX7 7 "FirePanelModel" "wires" "[I", Cond.methodLink RX7 92 yX7_stretchShort, Cond.instanceMethod yX7_stretchShort, Cond.selects RX7 yX7_stretchShort yX7_stretchShort, Cond.code yX7_stretchShort cX7_stretchShort 4 (some .boolean), Cond.fieldLink RX7 13 "FirePanelModel" "kind" "[I", Cond.methodLink RX7 164 yX7_note, Cond.instanceMethod yX7_note, Cond.selects RX7 yX7_note yX7_note, Cond.code yX7_note cX7_note 4 none, Cond.fieldLink RX7 79 "FirePanelModel" "logged" "[I", Cond.fieldLink RX7 148 "FirePanelModel" "polls" "I"]
def wsX7_ask_r2 : List Cond := [Cond.fieldLink RX7 151 "FirePanelModel" "entries" "I", Cond.methodLink RX7 168 yX7_sense, Cond.instanceMethod yX7_sense, Cond.selects RX7 yX7_sense yX7_sense, Cond.code yX7_sense cX7_sense 4 none, Cond.fieldLink RX7 23 "FirePanelModel" "readings" "[F", Cond.fieldLink RX7 32 "FirePanelModel" "over" "[I", Cond.fieldLink RX7 29 "FirePanelModel" "levels" "[F", Cond.fieldLink RX7 26 "FirePanelModel" "bases" "[F", Cond.constantFloat RX7 103 (1056964608), Cond.constantFloat RX7 158 (1082130432), Cond.constantFloat RX7 159 (1048576000), Cond.fieldLink RX7 19 "FirePanelModel" "threshold" "[F", Cond.constantFloat RX7 160 (1031798784), Cond.fieldLink RX7 35 "FirePanelModel" "alarm" "[Z"]
def wsX7_ask : List Cond := .code yX7_ask cX7_ask 2 none :: ((wsX7_ask_r1 ++ wsX7_ask_r2) ++ wsX70)
def wsX7_burns : List Cond := .code yX7_burns cX7_burns 6 (some .boolean) :: ([.fieldLink RX7 16 "FirePanelModel" "zoneOf" "[I", .fieldLink RX7 45 "FirePanelModel" "placeOff" "[Z", .fieldLink RX7 35 "FirePanelModel" "alarm" "[Z", .fieldLink RX7 13 "FirePanelModel" "kind" "[I", .fieldLink RX7 48 "FirePanelModel" "zoneOff" "[Z", .fieldLink RX7 54 "FirePanelModel" "fire" "[Z", .fieldLink RX7 51 "FirePanelModel" "needs" "[I", .methodLink RX7 154 yX7_isSensor, .instanceMethod yX7_isSensor, .selects RX7 yX7_isSensor yX7_isSensor, .initialized RX7, .code yX7_isSensor cX7_isSensor 2 (some .boolean), .methodLink RX7 99 yX7_in, .static yX7_in, .code yX7_in cX7_in 3 (some .boolean)] ++ wsX70)
def wsX7_holds_r1 : List Cond := [Cond.fieldLink RX7 60 "FirePanelModel" "length" "[I", Cond.fieldLink RX7 57 "FirePanelModel" "words" "[I", Cond.fieldLink RX7 54 "FirePanelModel" "fire" "[Z", Cond.methodLink RX7 171 yX7_faults, Cond.instanceMethod yX7_faults, Cond.selects RX7 yX7_faults yX7_faults, Cond.initialized RX7, Cond.code yX7_faults cX7_faults 3 (some .int), Cond.fieldLink RX7 42 "FirePanelModel" "fault" "[Z", Cond.methodLink RX7 174 yX7_warns, Cond.instanceMethod yX7_warns, Cond.selects RX7 yX7_warns yX7_warns, Cond.code yX7_warns cX7_warns 5 (some .boolean), Cond.fieldLink RX7 16 "FirePanelModel" "zoneOf" "[I", Cond.fieldLink RX7 45 "FirePanelModel" "placeOff" "[Z", Cond.fieldLink RX7 35 "FirePanelModel" "alarm" "[Z", Cond.fieldLink RX7 13 "FirePanelModel" "kind" "[I", Cond.fieldLink RX7 29 "FirePanelModel" "levels" "[F", Cond.fieldLink RX7 19 "FirePanelModel" "threshold" "[F", Cond.constantFloat RX7 157 (1061158912), Cond.methodLink RX7 154 yX7_isSensor, Cond.instanceMethod yX7_isSensor, Cond.selects RX7 yX7_isSensor yX7_isSensor, Cond.code yX7_isSensor cX7_isSensor 2 (some .boolean)]
def wsX7_holds_r2 : List Cond := [Cond.methodLink RX7 99 yX7_in, Cond.static yX7_in, Cond.code yX7_in cX7_in 3 (some .boolean)]
def wsX7_holds : List Cond := .code yX7_holds cX7_holds 7 (some .boolean) :: ((wsX7_holds_r1 ++ wsX7_holds_r2) ++ wsX70)
def wsX7_drive_r1 : List Cond := [Cond.fieldLink RX7 141 "FirePanelModel" "rules" "I", Cond.fieldLink RX7 69 "FirePanelModel" "heldFor" "[I", Cond.fieldLink RX7 63 "FirePanelModel" "drives" "[I", Cond.fieldLink RX7 66 "FirePanelModel" "delay" "[I", Cond.fieldLink RX7 72 "FirePanelModel" "on" "[Z", Cond.methodLink RX7 177 yX7_holds, Cond.instanceMethod yX7_holds, Cond.selects RX7 yX7_holds yX7_holds, Cond.initialized RX7, Cond.code yX7_holds cX7_holds 7 (some .boolean), Cond.fieldLink RX7 60 "FirePanelModel" "length" "[I", Cond.fieldLink RX7 57 "FirePanelModel" "words" "[I", Cond.fieldLink RX7 54 "FirePanelModel" "fire" "[Z", Cond.methodLink RX7 171 yX7_faults, Cond.instanceMethod yX7_faults, Cond.selects RX7 yX7_faults yX7_faults, Cond.code yX7_faults cX7_faults 3 (some .int), Cond.fieldLink RX7 42 "FirePanelModel" "fault" "[Z", Cond.methodLink RX7 174 yX7_warns, Cond.instanceMethod yX7_warns, Cond.selects RX7 yX7_warns yX7_warns, Cond.code yX7_warns cX7_warns 5 (some .boolean), Cond.fieldLink RX7 16 "FirePanelModel" "zoneOf" "[I", Cond.fieldLink RX7 45 "FirePanelModel" "placeOff" "[Z"]
def wsX7_drive_r2 : List Cond := [Cond.fieldLink RX7 35 "FirePanelModel" "alarm" "[Z", Cond.fieldLink RX7 13 "FirePanelModel" "kind" "[I", Cond.fieldLink RX7 29 "FirePanelModel" "levels" "[F", Cond.fieldLink RX7 19 "FirePanelModel" "threshold" "[F", Cond.constantFloat RX7 157 (1061158912), Cond.methodLink RX7 154 yX7_isSensor, Cond.instanceMethod yX7_isSensor, Cond.selects RX7 yX7_isSensor yX7_isSensor, Cond.code yX7_isSensor cX7_isSensor 2 (some .boolean), Cond.methodLink RX7 99 yX7_in, Cond.static yX7_in, Cond.code yX7_in cX7_in 3 (some .boolean), Cond.methodLink RX7 164 yX7_note, Cond.instanceMethod yX7_note, Cond.selects RX7 yX7_note yX7_note, Cond.code yX7_note cX7_note 4 none, Cond.fieldLink RX7 79 "FirePanelModel" "logged" "[I", Cond.fieldLink RX7 148 "FirePanelModel" "polls" "I", Cond.fieldLink RX7 151 "FirePanelModel" "entries" "I"]
def wsX7_drive : List Cond := .code yX7_drive cX7_drive 4 none :: ((wsX7_drive_r1 ++ wsX7_drive_r2) ++ wsX70)
def wsX7_poll_r1 : List Cond := [Cond.fieldLink RX7 88 "FirePanelModel" "thrown" "I", Cond.fieldLink RX7 148 "FirePanelModel" "polls" "I", Cond.fieldLink RX7 54 "FirePanelModel" "fire" "[Z", Cond.fieldLink RX7 186 "FirePanelModel" "quiet" "Z", Cond.methodLink RX7 154 yX7_isSensor, Cond.instanceMethod yX7_isSensor, Cond.selects RX7 yX7_isSensor yX7_isSensor, Cond.initialized RX7, Cond.code yX7_isSensor cX7_isSensor 2 (some .boolean), Cond.fieldLink RX7 13 "FirePanelModel" "kind" "[I", Cond.methodLink RX7 99 yX7_in, Cond.static yX7_in, Cond.code yX7_in cX7_in 3 (some .boolean), Cond.methodLink RX7 180 yX7_ask, Cond.instanceMethod yX7_ask, Cond.selects RX7 yX7_ask yX7_ask, Cond.code yX7_ask cX7_ask 2 none, Cond.fieldLink RX7 39 "FirePanelModel" "missed" "[I", Cond.fieldLink RX7 42 "FirePanelModel" "fault" "[Z", Cond.fieldLink RX7 45 "FirePanelModel" "placeOff" "[Z", Cond.methodLink RX7 161 yX7_reached, Cond.instanceMethod yX7_reached, Cond.selects RX7 yX7_reached yX7_reached, Cond.code yX7_reached cX7_reached 5 (some .boolean)]
def wsX7_poll_r2 : List Cond := [Cond.methodLink RX7 96 yX7_goes, Cond.instanceMethod yX7_goes, Cond.selects RX7 yX7_goes yX7_goes, Cond.code yX7_goes cX7_goes 2 (some .boolean), Cond.fieldLink RX7 7 "FirePanelModel" "wires" "[I", Cond.methodLink RX7 92 yX7_stretchShort, Cond.instanceMethod yX7_stretchShort, Cond.selects RX7 yX7_stretchShort yX7_stretchShort, Cond.code yX7_stretchShort cX7_stretchShort 4 (some .boolean), Cond.methodLink RX7 164 yX7_note, Cond.instanceMethod yX7_note, Cond.selects RX7 yX7_note yX7_note, Cond.code yX7_note cX7_note 4 none, Cond.fieldLink RX7 79 "FirePanelModel" "logged" "[I", Cond.fieldLink RX7 151 "FirePanelModel" "entries" "I", Cond.methodLink RX7 168 yX7_sense, Cond.instanceMethod yX7_sense, Cond.selects RX7 yX7_sense yX7_sense, Cond.code yX7_sense cX7_sense 4 none, Cond.fieldLink RX7 23 "FirePanelModel" "readings" "[F", Cond.fieldLink RX7 32 "FirePanelModel" "over" "[I", Cond.fieldLink RX7 29 "FirePanelModel" "levels" "[F", Cond.fieldLink RX7 26 "FirePanelModel" "bases" "[F", Cond.constantFloat RX7 103 (1056964608)]
def wsX7_poll_r3 : List Cond := [Cond.constantFloat RX7 158 (1082130432), Cond.constantFloat RX7 159 (1048576000), Cond.fieldLink RX7 19 "FirePanelModel" "threshold" "[F", Cond.constantFloat RX7 160 (1031798784), Cond.fieldLink RX7 35 "FirePanelModel" "alarm" "[Z", Cond.methodLink RX7 183 yX7_burns, Cond.instanceMethod yX7_burns, Cond.selects RX7 yX7_burns yX7_burns, Cond.code yX7_burns cX7_burns 6 (some .boolean), Cond.fieldLink RX7 16 "FirePanelModel" "zoneOf" "[I", Cond.fieldLink RX7 48 "FirePanelModel" "zoneOff" "[Z", Cond.fieldLink RX7 51 "FirePanelModel" "needs" "[I", Cond.methodLink RX7 190 yX7_drive, Cond.instanceMethod yX7_drive, Cond.selects RX7 yX7_drive yX7_drive, Cond.code yX7_drive cX7_drive 4 none, Cond.fieldLink RX7 141 "FirePanelModel" "rules" "I", Cond.fieldLink RX7 69 "FirePanelModel" "heldFor" "[I", Cond.fieldLink RX7 63 "FirePanelModel" "drives" "[I", Cond.fieldLink RX7 66 "FirePanelModel" "delay" "[I", Cond.fieldLink RX7 72 "FirePanelModel" "on" "[Z", Cond.methodLink RX7 177 yX7_holds, Cond.instanceMethod yX7_holds, Cond.selects RX7 yX7_holds yX7_holds]
def wsX7_poll_r4 : List Cond := [Cond.code yX7_holds cX7_holds 7 (some .boolean), Cond.fieldLink RX7 60 "FirePanelModel" "length" "[I", Cond.fieldLink RX7 57 "FirePanelModel" "words" "[I", Cond.methodLink RX7 171 yX7_faults, Cond.instanceMethod yX7_faults, Cond.selects RX7 yX7_faults yX7_faults, Cond.code yX7_faults cX7_faults 3 (some .int), Cond.methodLink RX7 174 yX7_warns, Cond.instanceMethod yX7_warns, Cond.selects RX7 yX7_warns yX7_warns, Cond.code yX7_warns cX7_warns 5 (some .boolean), Cond.constantFloat RX7 157 (1061158912)]
def wsX7_poll : List Cond := .code yX7_poll cX7_poll 3 (some .int) :: ((wsX7_poll_r1 ++ (wsX7_poll_r2 ++ (wsX7_poll_r3 ++ wsX7_poll_r4))) ++ wsX70)
def wsX7_key : List Cond := .code yX7_key cX7_key 2 (some .int) :: ([.fieldLink RX7 88 "FirePanelModel" "thrown" "I", .fieldLink RX7 105 "FirePanelModel" "access" "I"] ++ wsX70)
def wsX7_silence : List Cond := .code yX7_silence cX7_silence 1 (some .boolean) :: ([.fieldLink RX7 105 "FirePanelModel" "access" "I", .fieldLink RX7 88 "FirePanelModel" "thrown" "I", .fieldLink RX7 186 "FirePanelModel" "quiet" "Z", .methodLink RX7 164 yX7_note, .instanceMethod yX7_note, .selects RX7 yX7_note yX7_note, .initialized RX7, .code yX7_note cX7_note 4 none, .fieldLink RX7 79 "FirePanelModel" "logged" "[I", .fieldLink RX7 148 "FirePanelModel" "polls" "I", .fieldLink RX7 151 "FirePanelModel" "entries" "I"] ++ wsX70)
def wsX7_reset : List Cond := .code yX7_reset cX7_reset 3 (some .int) :: ([.fieldLink RX7 105 "FirePanelModel" "access" "I", .fieldLink RX7 88 "FirePanelModel" "thrown" "I", .fieldLink RX7 54 "FirePanelModel" "fire" "[Z", .fieldLink RX7 35 "FirePanelModel" "alarm" "[Z", .fieldLink RX7 32 "FirePanelModel" "over" "[I", .fieldLink RX7 69 "FirePanelModel" "heldFor" "[I", .fieldLink RX7 72 "FirePanelModel" "on" "[Z", .fieldLink RX7 186 "FirePanelModel" "quiet" "Z", .methodLink RX7 164 yX7_note, .instanceMethod yX7_note, .selects RX7 yX7_note yX7_note, .initialized RX7, .code yX7_note cX7_note 4 none, .fieldLink RX7 79 "FirePanelModel" "logged" "[I", .fieldLink RX7 148 "FirePanelModel" "polls" "I", .fieldLink RX7 151 "FirePanelModel" "entries" "I"] ++ wsX70)
def wsX7_off : List Cond := .code yX7_off cX7_off 5 (some .boolean) :: ([.fieldLink RX7 105 "FirePanelModel" "access" "I", .fieldLink RX7 88 "FirePanelModel" "thrown" "I", .fieldLink RX7 48 "FirePanelModel" "zoneOff" "[Z", .fieldLink RX7 45 "FirePanelModel" "placeOff" "[Z", .methodLink RX7 99 yX7_in, .static yX7_in, .initialized RX7, .code yX7_in cX7_in 3 (some .boolean), .methodLink RX7 164 yX7_note, .instanceMethod yX7_note, .selects RX7 yX7_note yX7_note, .code yX7_note cX7_note 4 none, .fieldLink RX7 79 "FirePanelModel" "logged" "[I", .fieldLink RX7 148 "FirePanelModel" "polls" "I", .fieldLink RX7 151 "FirePanelModel" "entries" "I"] ++ wsX70)
def wsX7_level : List Cond := .code yX7_level cX7_level 2 (some .float) :: ([.fieldLink RX7 88 "FirePanelModel" "thrown" "I", .fieldLink RX7 29 "FirePanelModel" "levels" "[F", .methodLink RX7 99 yX7_in, .static yX7_in, .initialized RX7, .code yX7_in cX7_in 3 (some .boolean)] ++ wsX70)
def wsX7_base : List Cond := .code yX7_base cX7_base 2 (some .float) :: ([.fieldLink RX7 88 "FirePanelModel" "thrown" "I", .fieldLink RX7 26 "FirePanelModel" "bases" "[F", .methodLink RX7 99 yX7_in, .static yX7_in, .initialized RX7, .code yX7_in cX7_in 3 (some .boolean)] ++ wsX70)
def wsX7_place : List Cond := .code yX7_place cX7_place 2 (some .int) :: ([.fieldLink RX7 88 "FirePanelModel" "thrown" "I", .fieldLink RX7 35 "FirePanelModel" "alarm" "[Z", .fieldLink RX7 42 "FirePanelModel" "fault" "[Z", .fieldLink RX7 45 "FirePanelModel" "placeOff" "[Z", .fieldLink RX7 13 "FirePanelModel" "kind" "[I", .methodLink RX7 99 yX7_in, .static yX7_in, .initialized RX7, .code yX7_in cX7_in 3 (some .boolean), .methodLink RX7 161 yX7_reached, .instanceMethod yX7_reached, .selects RX7 yX7_reached yX7_reached, .code yX7_reached cX7_reached 5 (some .boolean), .methodLink RX7 96 yX7_goes, .instanceMethod yX7_goes, .selects RX7 yX7_goes yX7_goes, .code yX7_goes cX7_goes 2 (some .boolean), .fieldLink RX7 7 "FirePanelModel" "wires" "[I", .methodLink RX7 92 yX7_stretchShort, .instanceMethod yX7_stretchShort, .selects RX7 yX7_stretchShort yX7_stretchShort, .code yX7_stretchShort cX7_stretchShort 4 (some .boolean)] ++ wsX70)
def wsX7_zone : List Cond := .code yX7_zone cX7_zone 2 (some .int) :: ([.fieldLink RX7 88 "FirePanelModel" "thrown" "I", .fieldLink RX7 54 "FirePanelModel" "fire" "[Z", .fieldLink RX7 48 "FirePanelModel" "zoneOff" "[Z", .methodLink RX7 99 yX7_in, .static yX7_in, .initialized RX7, .code yX7_in cX7_in 3 (some .boolean), .methodLink RX7 174 yX7_warns, .instanceMethod yX7_warns, .selects RX7 yX7_warns yX7_warns, .code yX7_warns cX7_warns 5 (some .boolean), .fieldLink RX7 16 "FirePanelModel" "zoneOf" "[I", .fieldLink RX7 45 "FirePanelModel" "placeOff" "[Z", .fieldLink RX7 35 "FirePanelModel" "alarm" "[Z", .fieldLink RX7 13 "FirePanelModel" "kind" "[I", .fieldLink RX7 29 "FirePanelModel" "levels" "[F", .fieldLink RX7 19 "FirePanelModel" "threshold" "[F", .constantFloat RX7 157 (1061158912), .methodLink RX7 154 yX7_isSensor, .instanceMethod yX7_isSensor, .selects RX7 yX7_isSensor yX7_isSensor, .code yX7_isSensor cX7_isSensor 2 (some .boolean)] ++ wsX70)
def wsX7_output : List Cond := .code yX7_output cX7_output 2 (some .int) :: ([.fieldLink RX7 88 "FirePanelModel" "thrown" "I", .fieldLink RX7 72 "FirePanelModel" "on" "[Z", .fieldLink RX7 186 "FirePanelModel" "quiet" "Z", .methodLink RX7 99 yX7_in, .static yX7_in, .initialized RX7, .code yX7_in cX7_in 3 (some .boolean)] ++ wsX70)
def wsX7_held : List Cond := .code yX7_held cX7_held 2 (some .int) :: ([.fieldLink RX7 141 "FirePanelModel" "rules" "I", .fieldLink RX7 88 "FirePanelModel" "thrown" "I", .fieldLink RX7 69 "FirePanelModel" "heldFor" "[I", .methodLink RX7 99 yX7_in, .static yX7_in, .initialized RX7, .code yX7_in cX7_in 3 (some .boolean)] ++ wsX70)
def wsX7_log : List Cond := .code yX7_log cX7_log 3 (some .int) :: ([.fieldLink RX7 151 "FirePanelModel" "entries" "I", .fieldLink RX7 88 "FirePanelModel" "thrown" "I", .fieldLink RX7 79 "FirePanelModel" "logged" "[I", .methodLink RX7 99 yX7_in, .static yX7_in, .initialized RX7, .code yX7_in cX7_in 3 (some .boolean)] ++ wsX70)
def wsX7_count : List Cond := .code yX7_count cX7_count 2 (some .int) :: ([.fieldLink RX7 88 "FirePanelModel" "thrown" "I", .fieldLink RX7 148 "FirePanelModel" "polls" "I", .fieldLink RX7 141 "FirePanelModel" "rules" "I", .fieldLink RX7 105 "FirePanelModel" "access" "I", .fieldLink RX7 186 "FirePanelModel" "quiet" "Z", .fieldLink RX7 110 "FirePanelModel" "typed" "I", .methodLink RX7 99 yX7_in, .static yX7_in, .initialized RX7, .code yX7_in cX7_in 3 (some .boolean), .methodLink RX7 171 yX7_faults, .instanceMethod yX7_faults, .selects RX7 yX7_faults yX7_faults, .code yX7_faults cX7_faults 3 (some .int), .fieldLink RX7 42 "FirePanelModel" "fault" "[Z"] ++ wsX70)
def wsJ9_min_7cf53 : List Cond := .code yJ9_min_7cf53 cJ9_min_7cf53 2 (some .int) :: ([])
def wsL_fit_r1 : List Cond := [Cond.classLink RL 13 "java/util/NoSuchElementException", Cond.classLink RL 15 "java/lang/IllegalArgumentException", Cond.classLink RL 17 "java/lang/IllegalStateException", Cond.methodLink RL 7 yX6_fit, Cond.instanceMethod yX6_fit, Cond.selects RX6 yX6_fit yX6_fit, Cond.initialized RX6, Cond.code yX6_fit cX6_fit 5 none, Cond.constantFloat RX6 56 (1056964608), Cond.constantFloat RX6 57 (1120403456), Cond.fieldLink RX6 10 "FirePanel" "ring" "LFirePanel$Ring;", Cond.fieldLink RX6 62 "FirePanel$Ring" "places" "[LFirePanel$Place;", Cond.methodLink RX6 48 yX6_mustExist, Cond.static yX6_mustExist, Cond.code yX6_mustExist cX6_mustExist 2 none, Cond.classLink RX6 192 "java/util/NoSuchElementException", Cond.initialized "java/util/NoSuchElementException", Cond.methodLink RX6 52 yX6_mustBeAllowed, Cond.static yX6_mustBeAllowed, Cond.code yX6_mustBeAllowed cX6_mustBeAllowed 1 none, Cond.classLink RX6 187 "java/lang/IllegalArgumentException", Cond.initialized "java/lang/IllegalArgumentException", Cond.methodLink RX6 58 yX6_mustHaveEntered, Cond.instanceMethod yX6_mustHaveEntered]
def wsL_fit_r2 : List Cond := [Cond.selects RX6 yX6_mustHaveEntered yX6_mustHaveEntered, Cond.code yX6_mustHaveEntered cX6_mustHaveEntered 2 none, Cond.classLink RX6 93 "java/lang/IllegalStateException", Cond.initialized "java/lang/IllegalStateException", Cond.fieldLink RX6 126 "FirePanel" "entered" "I", Cond.methodLink RX6 66 yX2_begin, Cond.instanceMethod yX2_begin, Cond.selects RX2 yX2_begin yX2_begin, Cond.initialized RX2, Cond.code yX2_begin cX2_begin 4 none, Cond.fieldLink RX2 9 "FirePanel$Place" "kind" "I", Cond.fieldLink RX2 15 "FirePanel$Place" "zone" "I", Cond.fieldLink RX2 18 "FirePanel$Place" "threshold" "F", Cond.fieldLink RX2 22 "FirePanel$Place" "base" "F", Cond.fieldLink RX2 25 "FirePanel$Place" "level" "F", Cond.fieldLink RX2 28 "FirePanel$Place" "over" "I", Cond.fieldLink RX2 31 "FirePanel$Place" "inAlarm" "Z", Cond.fieldLink RX2 35 "FirePanel$Place" "missed" "I", Cond.fieldLink RX2 38 "FirePanel$Place" "atFault" "Z"]
def wsL_fit : List Cond := .codeWith yL_fit cL_fit 6 (some .int) [(0, 9, 12, 13), (0, 9, 16, 15), (0, 9, 20, 17)] :: ((wsL_fit_r1 ++ wsL_fit_r2) ++ wsX60 ++ wsX30 ++ wsX20 ++ (vx_atS RX6 196 "java/util/NoSuchElementException" ["java/lang/RuntimeException", "java/lang/Exception"]).filter goodWord ++ (vx_atS RX6 191 "java/lang/IllegalArgumentException" ["java/lang/RuntimeException", "java/lang/Exception"]).filter goodWord ++ (vx_atS RX6 97 "java/lang/IllegalStateException" ["java/lang/RuntimeException", "java/lang/Exception"]).filter goodWord)
def wsL_need_r1 : List Cond := [Cond.classLink RL 13 "java/util/NoSuchElementException", Cond.classLink RL 15 "java/lang/IllegalArgumentException", Cond.classLink RL 17 "java/lang/IllegalStateException", Cond.methodLink RL 19 yX6_need, Cond.instanceMethod yX6_need, Cond.selects RX6 yX6_need yX6_need, Cond.initialized RX6, Cond.code yX6_need cX6_need 3 none, Cond.fieldLink RX6 18 "FirePanel" "zones" "[LFirePanel$Zone;", Cond.fieldLink RX6 72 "FirePanel$Zone" "needed" "I", Cond.methodLink RX6 48 yX6_mustExist, Cond.static yX6_mustExist, Cond.code yX6_mustExist cX6_mustExist 2 none, Cond.classLink RX6 192 "java/util/NoSuchElementException", Cond.initialized "java/util/NoSuchElementException", Cond.methodLink RX6 52 yX6_mustBeAllowed, Cond.static yX6_mustBeAllowed, Cond.code yX6_mustBeAllowed cX6_mustBeAllowed 1 none, Cond.classLink RX6 187 "java/lang/IllegalArgumentException", Cond.initialized "java/lang/IllegalArgumentException", Cond.methodLink RX6 58 yX6_mustHaveEntered, Cond.instanceMethod yX6_mustHaveEntered, Cond.selects RX6 yX6_mustHaveEntered yX6_mustHaveEntered, Cond.code yX6_mustHaveEntered cX6_mustHaveEntered 2 none]
def wsL_need_r2 : List Cond := [Cond.classLink RX6 93 "java/lang/IllegalStateException", Cond.initialized "java/lang/IllegalStateException", Cond.fieldLink RX6 126 "FirePanel" "entered" "I"]
def wsL_need : List Cond := .codeWith yL_need cL_need 4 (some .int) [(0, 6, 9, 13), (0, 6, 12, 15), (0, 6, 15, 17)] :: ((wsL_need_r1 ++ wsL_need_r2) ++ wsX60 ++ wsX50 ++ (vx_atS RX6 196 "java/util/NoSuchElementException" ["java/lang/RuntimeException", "java/lang/Exception"]).filter goodWord ++ (vx_atS RX6 191 "java/lang/IllegalArgumentException" ["java/lang/RuntimeException", "java/lang/Exception"]).filter goodWord ++ (vx_atS RX6 97 "java/lang/IllegalStateException" ["java/lang/RuntimeException", "java/lang/Exception"]).filter goodWord)
def wsL_wire : List Cond := .codeWith yL_wire cL_wire 4 (some .int) [(0, 6, 9, 13), (0, 6, 12, 15)] :: ([.classLink RL 13 "java/util/NoSuchElementException", .classLink RL 15 "java/lang/IllegalArgumentException", .methodLink RL 23 yX6_wire, .instanceMethod yX6_wire, .selects RX6 yX6_wire yX6_wire, .initialized RX6, .code yX6_wire cX6_wire 3 none, .fieldLink RX6 10 "FirePanel" "ring" "LFirePanel$Ring;", .fieldLink RX6 76 "FirePanel$Ring" "wires" "[I", .methodLink RX6 48 yX6_mustExist, .static yX6_mustExist, .code yX6_mustExist cX6_mustExist 2 none, .classLink RX6 192 "java/util/NoSuchElementException", .initialized "java/util/NoSuchElementException", .methodLink RX6 52 yX6_mustBeAllowed, .static yX6_mustBeAllowed, .code yX6_mustBeAllowed cX6_mustBeAllowed 1 none, .classLink RX6 187 "java/lang/IllegalArgumentException", .initialized "java/lang/IllegalArgumentException"] ++ wsX60 ++ wsX30 ++ (vx_atS RX6 196 "java/util/NoSuchElementException" ["java/lang/RuntimeException", "java/lang/Exception"]).filter goodWord ++ (vx_atS RX6 191 "java/lang/IllegalArgumentException" ["java/lang/RuntimeException", "java/lang/Exception"]).filter goodWord)
def wsL_reading : List Cond := .codeWith yL_reading cL_reading 4 (some .int) [(0, 6, 9, 13), (0, 6, 12, 15)] :: ([.classLink RL 13 "java/util/NoSuchElementException", .classLink RL 15 "java/lang/IllegalArgumentException", .methodLink RL 26 yX6_reading, .instanceMethod yX6_reading, .selects RX6 yX6_reading yX6_reading, .initialized RX6, .code yX6_reading cX6_reading 3 none, .constantFloat RX6 80 (3267887104), .constantFloat RX6 81 (1128792064), .fieldLink RX6 10 "FirePanel" "ring" "LFirePanel$Ring;", .fieldLink RX6 62 "FirePanel$Ring" "places" "[LFirePanel$Place;", .fieldLink RX6 82 "FirePanel$Place" "reading" "F", .methodLink RX6 48 yX6_mustExist, .static yX6_mustExist, .code yX6_mustExist cX6_mustExist 2 none, .classLink RX6 192 "java/util/NoSuchElementException", .initialized "java/util/NoSuchElementException", .methodLink RX6 52 yX6_mustBeAllowed, .static yX6_mustBeAllowed, .code yX6_mustBeAllowed cX6_mustBeAllowed 1 none, .classLink RX6 187 "java/lang/IllegalArgumentException", .initialized "java/lang/IllegalArgumentException"] ++ wsX60 ++ wsX30 ++ wsX20 ++ (vx_atS RX6 196 "java/util/NoSuchElementException" ["java/lang/RuntimeException", "java/lang/Exception"]).filter goodWord ++ (vx_atS RX6 191 "java/lang/IllegalArgumentException" ["java/lang/RuntimeException", "java/lang/Exception"]).filter goodWord)
def wsL_rule_r1 : List Cond := [Cond.classLink RL 17 "java/lang/IllegalStateException", Cond.methodLink RL 30 yX6_rule, Cond.instanceMethod yX6_rule, Cond.selects RX6 yX6_rule yX6_rule, Cond.initialized RX6, Cond.code yX6_rule cX6_rule 2 (some .int), Cond.classLink RX6 93 "java/lang/IllegalStateException", Cond.initialized "java/lang/IllegalStateException", Cond.fieldLink RX6 90 "FirePanel" "ruleCount" "I", Cond.fieldLink RX6 37 "FirePanel" "pad" "LFirePanel$Pad;", Cond.fieldLink RX6 25 "FirePanel" "rules" "[LFirePanel$Rule;", Cond.fieldLink RX6 104 "FirePanel$Pad" "length" "I", Cond.methodLink RX6 58 yX6_mustHaveEntered, Cond.instanceMethod yX6_mustHaveEntered, Cond.selects RX6 yX6_mustHaveEntered yX6_mustHaveEntered, Cond.code yX6_mustHaveEntered cX6_mustHaveEntered 2 none, Cond.fieldLink RX6 126 "FirePanel" "entered" "I", Cond.methodLink RX6 100 yX1_readInto, Cond.instanceMethod yX1_readInto, Cond.selects RX1 yX1_readInto yX1_readInto, Cond.initialized RX1, Cond.code yX1_readInto cX1_readInto 3 (some .int), Cond.fieldLink RX1 23 "FirePanel$Pad" "at" "I", Cond.fieldLink RX1 19 "FirePanel$Pad" "length" "I"]
def wsL_rule_r2 : List Cond := [Cond.methodLink RX1 26 yX4_clear, Cond.instanceMethod yX4_clear, Cond.selects RX4 yX4_clear yX4_clear, Cond.initialized RX4, Cond.code yX4_clear cX4_clear 1 none, Cond.fieldLink RX4 15 "FirePanel$Rule" "stepCount" "I", Cond.fieldLink RX4 19 "FirePanel$Rule" "output" "I", Cond.fieldLink RX4 22 "FirePanel$Rule" "delay" "I", Cond.fieldLink RX4 25 "FirePanel$Rule" "held" "I", Cond.methodLink RX1 31 yX1_readCondition, Cond.instanceMethod yX1_readCondition, Cond.selects RX1 yX1_readCondition yX1_readCondition, Cond.code yX1_readCondition cX1_readCondition 5 (some .boolean), Cond.methodLink RX1 39 yX1_readTerm, Cond.instanceMethod yX1_readTerm, Cond.selects RX1 yX1_readTerm yX1_readTerm, Cond.methodLink RX1 42 yX1_sees, Cond.instanceMethod yX1_sees, Cond.selects RX1 yX1_sees yX1_sees, Cond.code yX1_sees cX1_sees 2 (some .boolean), Cond.fieldLink RX1 9 "FirePanel$Pad" "text" "[C", Cond.methodLink RX1 45 yX4_addStep, Cond.instanceMethod yX4_addStep, Cond.selects RX4 yX4_addStep yX4_addStep]
def wsL_rule_r3 : List Cond := [Cond.code yX4_addStep cX4_addStep 2 none, Cond.fieldLink RX4 9 "FirePanel$Rule" "steps" "[I", Cond.code yX1_readTerm cX1_readTerm 3 (some .boolean), Cond.methodLink RX1 49 yX1_passes, Cond.instanceMethod yX1_passes, Cond.selects RX1 yX1_passes yX1_passes, Cond.code yX1_passes cX1_passes 2 (some .boolean), Cond.methodLink RX1 52 yX1_readZone, Cond.instanceMethod yX1_readZone, Cond.selects RX1 yX1_readZone yX1_readZone, Cond.code yX1_readZone cX1_readZone 4 (some .boolean), Cond.methodLink RX1 55 yX1_readDigit, Cond.instanceMethod yX1_readDigit, Cond.selects RX1 yX1_readDigit yX1_readDigit, Cond.code yX1_readDigit cX1_readDigit 3 (some .int), Cond.methodLink RX1 35 yX1_readTarget, Cond.instanceMethod yX1_readTarget, Cond.selects RX1 yX1_readTarget yX1_readTarget, Cond.code yX1_readTarget cX1_readTarget 2 (some .boolean), Cond.fieldLink RX1 59 "FirePanel$Rule" "output" "I", Cond.fieldLink RX1 62 "FirePanel$Rule" "delay" "I"]
def wsL_rule : List Cond := .codeWith yL_rule cL_rule 3 (some .int) [(0, 8, 11, 17)] :: ((wsL_rule_r1 ++ (wsL_rule_r2 ++ wsL_rule_r3)) ++ wsX60 ++ wsX10 ++ wsX40 ++ (vx_atS RX6 97 "java/lang/IllegalStateException" ["java/lang/RuntimeException", "java/lang/Exception"]).filter goodWord)
def wsL_forget : List Cond := .codeWith yL_forget cL_forget 3 (some .int) [(0, 8, 11, 17)] :: ([.classLink RL 17 "java/lang/IllegalStateException", .methodLink RL 34 yX6_forget, .instanceMethod yX6_forget, .selects RX6 yX6_forget yX6_forget, .initialized RX6, .code yX6_forget cX6_forget 2 (some .int), .fieldLink RX6 90 "FirePanel" "ruleCount" "I", .methodLink RX6 58 yX6_mustHaveEntered, .instanceMethod yX6_mustHaveEntered, .selects RX6 yX6_mustHaveEntered yX6_mustHaveEntered, .code yX6_mustHaveEntered cX6_mustHaveEntered 2 none, .classLink RX6 93 "java/lang/IllegalStateException", .initialized "java/lang/IllegalStateException", .fieldLink RX6 126 "FirePanel" "entered" "I", .methodLink RX6 107 yX6_allOutputsOff, .instanceMethod yX6_allOutputsOff, .selects RX6 yX6_allOutputsOff yX6_allOutputsOff, .code yX6_allOutputsOff cX6_allOutputsOff 2 none, .fieldLink RX6 30 "FirePanel" "outputsOn" "[Z"] ++ wsX60 ++ (vx_atS RX6 97 "java/lang/IllegalStateException" ["java/lang/RuntimeException", "java/lang/Exception"]).filter goodWord)
def wsL_silence_r1 : List Cond := [Cond.classLink RL 17 "java/lang/IllegalStateException", Cond.methodLink RL 37 yX6_silence, Cond.instanceMethod yX6_silence, Cond.selects RX6 yX6_silence yX6_silence, Cond.initialized RX6, Cond.code yX6_silence cX6_silence 1 (some .boolean), Cond.fieldLink RX6 129 "FirePanel" "silent" "Z", Cond.fieldLink RX6 44 "FirePanel" "entries" "LFirePanel$Log;", Cond.fieldLink RX6 110 "FirePanel" "polls" "I", Cond.methodLink RX6 58 yX6_mustHaveEntered, Cond.instanceMethod yX6_mustHaveEntered, Cond.selects RX6 yX6_mustHaveEntered yX6_mustHaveEntered, Cond.code yX6_mustHaveEntered cX6_mustHaveEntered 2 none, Cond.classLink RX6 93 "java/lang/IllegalStateException", Cond.initialized "java/lang/IllegalStateException", Cond.fieldLink RX6 126 "FirePanel" "entered" "I", Cond.methodLink RX6 133 yX0_add, Cond.instanceMethod yX0_add, Cond.selects RX0 yX0_add yX0_add, Cond.initialized RX0, Cond.code yX0_add cX0_add 4 none, Cond.fieldLink RX0 9 "FirePanel$Log" "words" "[I", Cond.methodLink RX0 15 arraycopyName, Cond.native arraycopyName]
def wsL_silence_r2 : List Cond := [Cond.static arraycopyName, Cond.initialized "java/lang/System", Cond.fieldLink RX0 21 "FirePanel$Log" "size" "I", Cond.methodLink RX0 25 Lib.Math.min.name, Cond.static Lib.Math.min.name, Cond.initialized "java/lang/Math", Cond.code Lib.Math.min.name Lib.Math.min.code 2 (some .int)]
def wsL_silence : List Cond := .codeWith yL_silence cL_silence 3 (some .int) [(0, 15, 18, 17)] :: ((wsL_silence_r1 ++ wsL_silence_r2) ++ wsX60 ++ wsX00 ++ (vx_atS RX6 97 "java/lang/IllegalStateException" ["java/lang/RuntimeException", "java/lang/Exception"]).filter goodWord)
def wsL_reset_r1 : List Cond := [Cond.classLink RL 17 "java/lang/IllegalStateException", Cond.methodLink RL 41 yX6_reset, Cond.instanceMethod yX6_reset, Cond.selects RX6 yX6_reset yX6_reset, Cond.initialized RX6, Cond.code yX6_reset cX6_reset 6 (some .int), Cond.fieldLink RX6 18 "FirePanel" "zones" "[LFirePanel$Zone;", Cond.fieldLink RX6 137 "FirePanel$Zone" "inFire" "Z", Cond.fieldLink RX6 10 "FirePanel" "ring" "LFirePanel$Ring;", Cond.fieldLink RX6 62 "FirePanel$Ring" "places" "[LFirePanel$Place;", Cond.fieldLink RX6 25 "FirePanel" "rules" "[LFirePanel$Rule;", Cond.fieldLink RX6 143 "FirePanel$Rule" "held" "I", Cond.fieldLink RX6 129 "FirePanel" "silent" "Z", Cond.fieldLink RX6 44 "FirePanel" "entries" "LFirePanel$Log;", Cond.fieldLink RX6 110 "FirePanel" "polls" "I", Cond.methodLink RX6 58 yX6_mustHaveEntered, Cond.instanceMethod yX6_mustHaveEntered, Cond.selects RX6 yX6_mustHaveEntered yX6_mustHaveEntered, Cond.code yX6_mustHaveEntered cX6_mustHaveEntered 2 none, Cond.classLink RX6 93 "java/lang/IllegalStateException", Cond.initialized "java/lang/IllegalStateException", Cond.fieldLink RX6 126 "FirePanel" "entered" "I", Cond.methodLink RX6 140 yX2_calmDown, Cond.instanceMethod yX2_calmDown]
def wsL_reset_r2 : List Cond := [Cond.selects RX2 yX2_calmDown yX2_calmDown, Cond.initialized RX2, Cond.code yX2_calmDown cX2_calmDown 1 none, Cond.fieldLink RX2 31 "FirePanel$Place" "inAlarm" "Z", Cond.fieldLink RX2 28 "FirePanel$Place" "over" "I", Cond.methodLink RX6 107 yX6_allOutputsOff, Cond.instanceMethod yX6_allOutputsOff, Cond.selects RX6 yX6_allOutputsOff yX6_allOutputsOff, Cond.code yX6_allOutputsOff cX6_allOutputsOff 2 none, Cond.fieldLink RX6 30 "FirePanel" "outputsOn" "[Z", Cond.methodLink RX6 133 yX0_add, Cond.instanceMethod yX0_add, Cond.selects RX0 yX0_add yX0_add, Cond.initialized RX0, Cond.code yX0_add cX0_add 4 none, Cond.fieldLink RX0 9 "FirePanel$Log" "words" "[I", Cond.methodLink RX0 15 arraycopyName, Cond.native arraycopyName, Cond.static arraycopyName, Cond.initialized "java/lang/System", Cond.fieldLink RX0 21 "FirePanel$Log" "size" "I", Cond.methodLink RX0 25 Lib.Math.min.name, Cond.static Lib.Math.min.name, Cond.initialized "java/lang/Math"]
def wsL_reset_r3 : List Cond := [Cond.code Lib.Math.min.name Lib.Math.min.code 2 (some .int)]
def wsL_reset : List Cond := .codeWith yL_reset cL_reset 3 (some .int) [(0, 8, 11, 17)] :: ((wsL_reset_r1 ++ (wsL_reset_r2 ++ wsL_reset_r3)) ++ wsX60 ++ wsX50 ++ wsX30 ++ wsX40 ++ wsX20 ++ wsX00 ++ (vx_atS RX6 97 "java/lang/IllegalStateException" ["java/lang/RuntimeException", "java/lang/Exception"]).filter goodWord)
def wsL_off_r1 : List Cond := [Cond.classLink RL 13 "java/util/NoSuchElementException", Cond.classLink RL 17 "java/lang/IllegalStateException", Cond.methodLink RL 44 yX6_off, Cond.instanceMethod yX6_off, Cond.selects RX6 yX6_off yX6_off, Cond.initialized RX6, Cond.code yX6_off cX6_off 5 (some .boolean), Cond.fieldLink RX6 18 "FirePanel" "zones" "[LFirePanel$Zone;", Cond.fieldLink RX6 146 "FirePanel$Zone" "isOff" "Z", Cond.fieldLink RX6 10 "FirePanel" "ring" "LFirePanel$Ring;", Cond.fieldLink RX6 62 "FirePanel$Ring" "places" "[LFirePanel$Place;", Cond.fieldLink RX6 149 "FirePanel$Place" "isOff" "Z", Cond.fieldLink RX6 44 "FirePanel" "entries" "LFirePanel$Log;", Cond.fieldLink RX6 110 "FirePanel" "polls" "I", Cond.methodLink RX6 48 yX6_mustExist, Cond.static yX6_mustExist, Cond.code yX6_mustExist cX6_mustExist 2 none, Cond.classLink RX6 192 "java/util/NoSuchElementException", Cond.initialized "java/util/NoSuchElementException", Cond.methodLink RX6 58 yX6_mustHaveEntered, Cond.instanceMethod yX6_mustHaveEntered, Cond.selects RX6 yX6_mustHaveEntered yX6_mustHaveEntered, Cond.code yX6_mustHaveEntered cX6_mustHaveEntered 2 none, Cond.classLink RX6 93 "java/lang/IllegalStateException"]
def wsL_off_r2 : List Cond := [Cond.initialized "java/lang/IllegalStateException", Cond.fieldLink RX6 126 "FirePanel" "entered" "I", Cond.methodLink RX6 133 yX0_add, Cond.instanceMethod yX0_add, Cond.selects RX0 yX0_add yX0_add, Cond.initialized RX0, Cond.code yX0_add cX0_add 4 none, Cond.fieldLink RX0 9 "FirePanel$Log" "words" "[I", Cond.methodLink RX0 15 arraycopyName, Cond.native arraycopyName, Cond.static arraycopyName, Cond.initialized "java/lang/System", Cond.fieldLink RX0 21 "FirePanel$Log" "size" "I", Cond.methodLink RX0 25 Lib.Math.min.name, Cond.static Lib.Math.min.name, Cond.initialized "java/lang/Math", Cond.code Lib.Math.min.name Lib.Math.min.code 2 (some .int)]
def wsL_off : List Cond := .codeWith yL_off cL_off 6 (some .int) [(0, 19, 22, 13), (0, 19, 26, 17)] :: ((wsL_off_r1 ++ wsL_off_r2) ++ wsX60 ++ wsX50 ++ wsX30 ++ wsX20 ++ wsX00 ++ (vx_atS RX6 196 "java/util/NoSuchElementException" ["java/lang/RuntimeException", "java/lang/Exception"]).filter goodWord ++ (vx_atS RX6 97 "java/lang/IllegalStateException" ["java/lang/RuntimeException", "java/lang/Exception"]).filter goodWord)
def wsL_level : List Cond := .codeWith yL_level cL_level 4 (some .int) [(0, 9, 12, 13)] :: ([.classLink RL 13 "java/util/NoSuchElementException", .methodLink RL 48 yX6_level, .instanceMethod yX6_level, .selects RX6 yX6_level yX6_level, .initialized RX6, .code yX6_level cX6_level 2 (some .float), .fieldLink RX6 10 "FirePanel" "ring" "LFirePanel$Ring;", .fieldLink RX6 62 "FirePanel$Ring" "places" "[LFirePanel$Place;", .fieldLink RX6 150 "FirePanel$Place" "level" "F", .methodLink RX6 48 yX6_mustExist, .static yX6_mustExist, .code yX6_mustExist cX6_mustExist 2 none, .classLink RX6 192 "java/util/NoSuchElementException", .initialized "java/util/NoSuchElementException"] ++ wsX60 ++ wsX30 ++ wsX20 ++ (vx_atS RX6 196 "java/util/NoSuchElementException" ["java/lang/RuntimeException", "java/lang/Exception"]).filter goodWord)
def wsL_base : List Cond := .codeWith yL_base cL_base 4 (some .int) [(0, 9, 12, 13)] :: ([.classLink RL 13 "java/util/NoSuchElementException", .methodLink RL 52 yX6_base, .instanceMethod yX6_base, .selects RX6 yX6_base yX6_base, .initialized RX6, .code yX6_base cX6_base 2 (some .float), .fieldLink RX6 10 "FirePanel" "ring" "LFirePanel$Ring;", .fieldLink RX6 62 "FirePanel$Ring" "places" "[LFirePanel$Place;", .fieldLink RX6 153 "FirePanel$Place" "base" "F", .methodLink RX6 48 yX6_mustExist, .static yX6_mustExist, .code yX6_mustExist cX6_mustExist 2 none, .classLink RX6 192 "java/util/NoSuchElementException", .initialized "java/util/NoSuchElementException"] ++ wsX60 ++ wsX30 ++ wsX20 ++ (vx_atS RX6 196 "java/util/NoSuchElementException" ["java/lang/RuntimeException", "java/lang/Exception"]).filter goodWord)
def wsL_place_r1 : List Cond := [Cond.classLink RL 13 "java/util/NoSuchElementException", Cond.methodLink RL 55 yX6_place, Cond.instanceMethod yX6_place, Cond.selects RX6 yX6_place yX6_place, Cond.initialized RX6, Cond.code yX6_place cX6_place 4 (some .int), Cond.fieldLink RX6 10 "FirePanel" "ring" "LFirePanel$Ring;", Cond.fieldLink RX6 62 "FirePanel$Ring" "places" "[LFirePanel$Place;", Cond.fieldLink RX6 159 "FirePanel$Place" "inAlarm" "Z", Cond.fieldLink RX6 162 "FirePanel$Place" "atFault" "Z", Cond.fieldLink RX6 149 "FirePanel$Place" "isOff" "Z", Cond.fieldLink RX6 165 "FirePanel$Place" "kind" "I", Cond.methodLink RX6 48 yX6_mustExist, Cond.static yX6_mustExist, Cond.code yX6_mustExist cX6_mustExist 2 none, Cond.classLink RX6 192 "java/util/NoSuchElementException", Cond.initialized "java/util/NoSuchElementException", Cond.methodLink RX6 156 yX3_reachedPlaces, Cond.instanceMethod yX3_reachedPlaces, Cond.selects RX3 yX3_reachedPlaces yX3_reachedPlaces, Cond.initialized RX3, Cond.code yX3_reachedPlaces cX3_reachedPlaces 4 (some .int), Cond.methodLink RX3 22 yX3_passableWires, Cond.instanceMethod yX3_passableWires]
def wsL_place_r2 : List Cond := [Cond.selects RX3 yX3_passableWires yX3_passableWires, Cond.code yX3_passableWires cX3_passableWires 5 (some .int), Cond.fieldLink RX3 18 "FirePanel$Ring" "wires" "[I", Cond.methodLink RX3 26 yX3_endsStretch, Cond.instanceMethod yX3_endsStretch, Cond.selects RX3 yX3_endsStretch yX3_endsStretch, Cond.code yX3_endsStretch cX3_endsStretch 2 (some .boolean), Cond.fieldLink RX3 11 "FirePanel$Ring" "places" "[LFirePanel$Place;", Cond.fieldLink RX3 30 "FirePanel$Place" "kind" "I"]
def wsL_place : List Cond := .codeWith yL_place cL_place 4 (some .int) [(0, 9, 12, 13)] :: ((wsL_place_r1 ++ wsL_place_r2) ++ wsX60 ++ wsX30 ++ wsX20 ++ (vx_atS RX6 196 "java/util/NoSuchElementException" ["java/lang/RuntimeException", "java/lang/Exception"]).filter goodWord)
def wsL_zone_r1 : List Cond := [Cond.classLink RL 13 "java/util/NoSuchElementException", Cond.methodLink RL 59 yX6_zone, Cond.instanceMethod yX6_zone, Cond.selects RX6 yX6_zone yX6_zone, Cond.initialized RX6, Cond.code yX6_zone cX6_zone 3 (some .int), Cond.fieldLink RX6 18 "FirePanel" "zones" "[LFirePanel$Zone;", Cond.fieldLink RX6 137 "FirePanel$Zone" "inFire" "Z", Cond.fieldLink RX6 146 "FirePanel$Zone" "isOff" "Z", Cond.methodLink RX6 48 yX6_mustExist, Cond.static yX6_mustExist, Cond.code yX6_mustExist cX6_mustExist 2 none, Cond.classLink RX6 192 "java/util/NoSuchElementException", Cond.initialized "java/util/NoSuchElementException", Cond.methodLink RX6 168 yX6_hasWarning, Cond.instanceMethod yX6_hasWarning, Cond.selects RX6 yX6_hasWarning yX6_hasWarning, Cond.code yX6_hasWarning cX6_hasWarning 6 (some .boolean), Cond.fieldLink RX6 10 "FirePanel" "ring" "LFirePanel$Ring;", Cond.fieldLink RX6 62 "FirePanel$Ring" "places" "[LFirePanel$Place;", Cond.methodLink RX6 222 yX2_watches, Cond.instanceMethod yX2_watches, Cond.selects RX2 yX2_watches yX2_watches, Cond.initialized RX2]
def wsL_zone_r2 : List Cond := [Cond.code yX2_watches cX2_watches 2 (some .boolean), Cond.fieldLink RX2 15 "FirePanel$Place" "zone" "I", Cond.fieldLink RX2 45 "FirePanel$Place" "isOff" "Z", Cond.methodLink RX2 41 yX2_isSensor, Cond.instanceMethod yX2_isSensor, Cond.selects RX2 yX2_isSensor yX2_isSensor, Cond.code yX2_isSensor cX2_isSensor 1 (some .boolean), Cond.fieldLink RX2 9 "FirePanel$Place" "kind" "I", Cond.methodLink RX6 225 yX2_warns, Cond.instanceMethod yX2_warns, Cond.selects RX2 yX2_warns yX2_warns, Cond.code yX2_warns cX2_warns 1 (some .boolean), Cond.fieldLink RX2 31 "FirePanel$Place" "inAlarm" "Z", Cond.fieldLink RX2 25 "FirePanel$Place" "level" "F", Cond.fieldLink RX2 18 "FirePanel$Place" "threshold" "F", Cond.constantFloat RX2 48 (1061158912)]
def wsL_zone : List Cond := .codeWith yL_zone cL_zone 4 (some .int) [(0, 9, 12, 13)] :: ((wsL_zone_r1 ++ wsL_zone_r2) ++ wsX60 ++ wsX50 ++ wsX30 ++ wsX20 ++ (vx_atS RX6 196 "java/util/NoSuchElementException" ["java/lang/RuntimeException", "java/lang/Exception"]).filter goodWord)
def wsL_output : List Cond := .codeWith yL_output cL_output 4 (some .int) [(0, 9, 12, 13)] :: ([.classLink RL 13 "java/util/NoSuchElementException", .methodLink RL 62 yX6_output, .instanceMethod yX6_output, .selects RX6 yX6_output yX6_output, .initialized RX6, .code yX6_output cX6_output 3 (some .int), .fieldLink RX6 30 "FirePanel" "outputsOn" "[Z", .fieldLink RX6 129 "FirePanel" "silent" "Z", .methodLink RX6 48 yX6_mustExist, .static yX6_mustExist, .code yX6_mustExist cX6_mustExist 2 none, .classLink RX6 192 "java/util/NoSuchElementException", .initialized "java/util/NoSuchElementException"] ++ wsX60 ++ (vx_atS RX6 196 "java/util/NoSuchElementException" ["java/lang/RuntimeException", "java/lang/Exception"]).filter goodWord)
def wsL_held : List Cond := .codeWith yL_held cL_held 4 (some .int) [(0, 9, 12, 13)] :: ([.classLink RL 13 "java/util/NoSuchElementException", .methodLink RL 65 yX6_held, .instanceMethod yX6_held, .selects RX6 yX6_held yX6_held, .initialized RX6, .code yX6_held cX6_held 2 (some .int), .fieldLink RX6 90 "FirePanel" "ruleCount" "I", .methodLink RX6 172 Lib.Math.min.name, .static Lib.Math.min.name, .initialized "java/lang/Math", .code Lib.Math.min.name Lib.Math.min.code 2 (some .int), .fieldLink RX6 25 "FirePanel" "rules" "[LFirePanel$Rule;", .fieldLink RX6 143 "FirePanel$Rule" "held" "I", .methodLink RX6 48 yX6_mustExist, .static yX6_mustExist, .code yX6_mustExist cX6_mustExist 2 none, .classLink RX6 192 "java/util/NoSuchElementException", .initialized "java/util/NoSuchElementException"] ++ wsX60 ++ wsX40 ++ (vx_atS RX6 196 "java/util/NoSuchElementException" ["java/lang/RuntimeException", "java/lang/Exception"]).filter goodWord)
def wsL_log : List Cond := .codeWith yL_log cL_log 5 (some .int) [(0, 10, 13, 15)] :: ([.classLink RL 15 "java/lang/IllegalArgumentException", .methodLink RL 68 yX6_log, .instanceMethod yX6_log, .selects RX6 yX6_log yX6_log, .initialized RX6, .code yX6_log cX6_log 3 (some .int), .fieldLink RX6 44 "FirePanel" "entries" "LFirePanel$Log;", .fieldLink RX6 178 "FirePanel$Log" "size" "I", .methodLink RX6 172 Lib.Math.min.name, .static Lib.Math.min.name, .initialized "java/lang/Math", .code Lib.Math.min.name Lib.Math.min.code 2 (some .int), .fieldLink RX6 181 "FirePanel$Log" "words" "[I", .methodLink RX6 52 yX6_mustBeAllowed, .static yX6_mustBeAllowed, .code yX6_mustBeAllowed cX6_mustBeAllowed 1 none, .classLink RX6 187 "java/lang/IllegalArgumentException", .initialized "java/lang/IllegalArgumentException"] ++ wsX60 ++ wsX00 ++ (vx_atS RX6 191 "java/lang/IllegalArgumentException" ["java/lang/RuntimeException", "java/lang/Exception"]).filter goodWord)
def wsL_count : List Cond := .codeWith yL_count cL_count 4 (some .int) [(0, 9, 12, 15)] :: ([.classLink RL 15 "java/lang/IllegalArgumentException", .methodLink RL 72 yX6_count, .instanceMethod yX6_count, .selects RX6 yX6_count yX6_count, .initialized RX6, .code yX6_count cX6_count 2 (some .int), .classLink RX6 187 "java/lang/IllegalArgumentException", .initialized "java/lang/IllegalArgumentException", .fieldLink RX6 110 "FirePanel" "polls" "I", .fieldLink RX6 90 "FirePanel" "ruleCount" "I", .fieldLink RX6 126 "FirePanel" "entered" "I", .fieldLink RX6 129 "FirePanel" "silent" "Z", .fieldLink RX6 37 "FirePanel" "pad" "LFirePanel$Pad;", .fieldLink RX6 104 "FirePanel$Pad" "length" "I", .methodLink RX6 184 yX6_faults, .instanceMethod yX6_faults, .selects RX6 yX6_faults yX6_faults, .code yX6_faults cX6_faults 6 (some .int), .fieldLink RX6 10 "FirePanel" "ring" "LFirePanel$Ring;", .fieldLink RX6 62 "FirePanel$Ring" "places" "[LFirePanel$Place;", .fieldLink RX6 162 "FirePanel$Place" "atFault" "Z"] ++ wsX60 ++ wsX10 ++ wsX30 ++ wsX20 ++ (vx_atS RX6 191 "java/lang/IllegalArgumentException" ["java/lang/RuntimeException", "java/lang/Exception"]).filter goodWord)
end
section
abbrev vwCl : List vw_C := [(RX0, TX0, 2), (RX1, TX1, 3), (RX2, TX2, 11), (RX3, TX3, 2), (RX4, TX4, 5), (RX5, TX5, 3), (RX6, TX6, 10), (RX7, TX7, 34)]
end
section
/-! THE POOL: the cells of a world by their addresses. A shape G = (addresses, kind of each, length of each array, references of each), and a memory M = (whole numbers, floats): what stands at an address, by slot or index. Kinds 0 .. 7: objects of the classes vwCl; 8 char, 9 float, 10 int, 11 boolean arrays; 12, 13, 14 arrays of Place, Rule, Zone. -/
abbrev pG : Type := List Nat × (Nat → Nat) × (Nat → Nat) × (Nat → Nat → Option Nat)
abbrev pM : Type := (Nat → Nat → Int32) × (Nat → Nat → UInt32)
/-- one whole number, one float, a whole row is put -/
def pI (M : pM) (a k : Nat) (v : Int32) : pM := (va_up M.1 a (va_up (M.1 a) k v), M.2)
def pF (M : pM) (a k : Nat) (v : UInt32) : pM := (M.1, va_up M.2 a (va_up (M.2 a) k v))
def pR (M : pM) (a : Nat) (f : Nat → Int32) : pM := (va_up M.1 a f, M.2)
/-- the fields of a class: 0 a whole number, 1 a float, 2 a reference -/
def pty : Nat → List Nat
  | 0 => [2, 0]
  | 1 => [2, 0, 0]
  | 2 => [0, 0, 1, 1, 1, 1, 0, 0, 0, 0, 0]
  | 3 => [2, 2]
  | 4 => [2, 0, 0, 0, 0]
  | 5 => [0, 0, 0]
  | 6 => [2, 2, 2, 2, 2, 2, 0, 0, 0, 0]
  | 7 => [0, 2, 2, 2, 2, 2, 2, 2, 2, 2, 2, 2, 2, 2, 2, 2, 0, 2, 2, 2, 2, 2, 2, 0, 2, 0, 0, 0, 0, 2, 0, 2, 0, 2]
  | _ => []
def pval (M : pM) (P : Nat → Nat → Option Nat) (a t i : Nat) : Value := match t with
  | 0 => .int (M.1 a i)
  | 1 => .float (M.2 a i)
  | _ => va_rf (P a i)
def pfl (M : pM) (P : Nat → Nat → Option Nat) (a : Nat) : List Nat → Nat → List Value
  | [], _ => []
  | t :: ts, i => pval M P a t i :: pfl M P a ts (i + 1)
def pcell (cy : Nat → ClassId) (G : pG) (M : pM) (a : Nat) : va_E :=
  if G.2.1 a < 8 then .inr (G.2.1 a, pfl M G.2.2.2 a (pty (G.2.1 a)) 0)
  else if G.2.1 a = 8 then .inl (cy 0, G.2.2.1 a, .inl (M.1 a))
  else if G.2.1 a = 9 then .inl (cy 1, G.2.2.1 a, .inr (.inr (.inl (M.2 a))))
  else if G.2.1 a = 10 then .inl (cy 2, G.2.2.1 a, .inl (M.1 a))
  else if G.2.1 a = 11 then .inl (cy 3, G.2.2.1 a, .inl (M.1 a))
  else .inl (cy (G.2.1 a - 8), G.2.2.1 a, .inr (.inr (.inr (.inr (G.2.2.2 a)))))
def pW (cy : Nat → ClassId) (X : va_W) (G : pG) (M : pM) : va_W := X ++ va_pl G.1 (pcell cy G M)
abbrev ptys (cy : Nat → ClassId) : List (ClassId × FieldType) := [(cy 0, .char), (cy 1, .float), (cy 2, .int), (cy 3, .boolean), (cy 4, .object RX2), (cy 5, .object RX4), (cy 6, .object RX5), (cy 7, .long), (cy 8, .double)]
theorem pI_1s (M : pM) (a k : Nat) (v : Int32) : (pI M a k v).1 a = va_up (M.1 a) k v := by simp [pI, va_up]
theorem pI_1n (M : pM) {a b : Nat} (k : Nat) (v : Int32) (h : b ≠ a) : (pI M a k v).1 b = M.1 b := by simp [pI, va_up, h]
theorem pI_2 (M : pM) (a k : Nat) (v : Int32) : (pI M a k v).2 = M.2 := rfl
theorem pF_1 (M : pM) (a k : Nat) (v : UInt32) : (pF M a k v).1 = M.1 := rfl
theorem pF_2s (M : pM) (a k : Nat) (v : UInt32) : (pF M a k v).2 a = va_up (M.2 a) k v := by simp [pF, va_up]
theorem pF_2n (M : pM) {a b : Nat} (k : Nat) (v : UInt32) (h : b ≠ a) : (pF M a k v).2 b = M.2 b := by simp [pF, va_up, h]
theorem pR_1s (M : pM) (a : Nat) (f : Nat → Int32) : (pR M a f).1 a = f := by simp [pR, va_up]
theorem pR_1n (M : pM) {a b : Nat} (f : Nat → Int32) (h : b ≠ a) : (pR M a f).1 b = M.1 b := by simp [pR, va_up, h]
theorem pfl_len (M : pM) (P : Nat → Nat → Option Nat) (a : Nat) : ∀ (ts : List Nat) (i : Nat), (pfl M P a ts i).length = ts.length
  | [], _ => rfl
  | t :: ts, i => by simp [pfl, pfl_len M P a ts (i + 1)]
theorem pfl_get (M : pM) (P : Nat → Nat → Option Nat) (a : Nat) : ∀ (ts : List Nat) (i j t : Nat), ts[j]? = some t → (pfl M P a ts i)[j]? = some (pval M P a t (i + j))
  | [], i, j, t, h => by simp at h
  | t0 :: ts, i, 0, t, h => by
    simp at h
    subst h
    simp [pfl]
  | t0 :: ts, i, j + 1, t, h => by
    have h1 : ts[j]? = some t := by simpa using h
    have h2 := pfl_get M P a ts (i + 1) j t h1
    simp only [pfl, List.getElem?_cons_succ]
    rw [h2, show i + 1 + j = i + (j + 1) by omega]
theorem pfl_congr {M M' : pM} (P : Nat → Nat → Option Nat) {a : Nat} (h1 : M.1 a = M'.1 a) (h2 : M.2 a = M'.2 a) : ∀ (ts : List Nat) (i : Nat), pfl M P a ts i = pfl M' P a ts i
  | [], _ => rfl
  | t :: ts, i => by
    simp only [pfl]
    rw [pfl_congr P h1 h2 ts (i + 1)]
    congr 1
    unfold pval
    split <;> simp [h1, h2]
theorem pcell_congr {M M' : pM} (cy : Nat → ClassId) (G : pG) {a : Nat} (h1 : M.1 a = M'.1 a) (h2 : M.2 a = M'.2 a) : pcell cy G M a = pcell cy G M' a := by
  unfold pcell
  rw [pfl_congr _ h1 h2, h1, h2]
theorem pval_ne {M M' : pM} (P : Nat → Nat → Option Nat) {a i : Nat} (t : Nat) (h1 : M.1 a i = M'.1 a i) (h2 : M.2 a i = M'.2 a i) : pval M P a t i = pval M' P a t i := by
  unfold pval
  split <;> simp [h1, h2]
theorem pfl_set {M M' : pM} (P : Nat → Nat → Option Nat) {a : Nat} (ts : List Nat) {j t : Nat} {v : Value} (ht : ts[j]? = some t) (hv : v = pval M' P a t j) (h : ∀ i, i ≠ j → M.1 a i = M'.1 a i ∧ M.2 a i = M'.2 a i) : (pfl M P a ts 0).set j v = pfl M' P a ts 0 := by
  apply List.ext_getElem?
  intro k
  rw [List.getElem?_set]
  by_cases hk : j = k
  · subst hk
    have hj : j < ts.length := (List.getElem?_eq_some_iff.mp ht).1
    have h2 := pfl_get M' P a ts 0 j t ht
    rw [h2]
    simp [pfl_len, hj, hv]
  · rw [if_neg hk]
    cases h3 : ts[k]? with
    | none =>
      have h4 : ts.length ≤ k := by simpa using h3
      rw [List.getElem?_eq_none (by rw [pfl_len]; exact h4), List.getElem?_eq_none (by rw [pfl_len]; exact h4)]
    | some t' =>
      rw [pfl_get M P a ts 0 k t' h3, pfl_get M' P a ts 0 k t' h3]
      obtain ⟨e1, e2⟩ := h (0 + k) (by omega)
      rw [pval_ne P t' e1 e2]
/-- the cell of an object, of an array -/
theorem pcell_o (cy : Nat → ClassId) (G : pG) (M : pM) {a c : Nat} (hK : G.2.1 a = c) (hc : c < 8) : pcell cy G M a = .inr (c, pfl M G.2.2.2 a (pty c) 0) := by
  subst hK
  unfold pcell
  rw [if_pos hc]
theorem pcell_C (cy : Nat → ClassId) (G : pG) (M : pM) {a : Nat} (hK : G.2.1 a = 8) : pcell cy G M a = .inl (cy 0, G.2.2.1 a, .inl (M.1 a)) := by simp [pcell, hK]
theorem pcell_F (cy : Nat → ClassId) (G : pG) (M : pM) {a : Nat} (hK : G.2.1 a = 9) : pcell cy G M a = .inl (cy 1, G.2.2.1 a, .inr (.inr (.inl (M.2 a)))) := by simp [pcell, hK]
theorem pcell_I (cy : Nat → ClassId) (G : pG) (M : pM) {a : Nat} (hK : G.2.1 a = 10) : pcell cy G M a = .inl (cy 2, G.2.2.1 a, .inl (M.1 a)) := by simp [pcell, hK]
theorem pcell_Z (cy : Nat → ClassId) (G : pG) (M : pM) {a : Nat} (hK : G.2.1 a = 11) : pcell cy G M a = .inl (cy 3, G.2.2.1 a, .inl (M.1 a)) := by simp [pcell, hK]
theorem pcell_P (cy : Nat → ClassId) (G : pG) (M : pM) {a k : Nat} (hK : G.2.1 a = k) (hk : 12 ≤ k) : pcell cy G M a = .inl (cy (k - 8), G.2.2.1 a, .inr (.inr (.inr (.inr (G.2.2.2 a))))) := by
  subst hK
  unfold pcell
  rw [if_neg (by omega), if_neg (by omega), if_neg (by omega), if_neg (by omega), if_neg (by omega)]
theorem pW_get (cy : Nat → ClassId) (X : va_W) (G : pG) (M : pM) {a : Nat} (hL : a ∈ G.1) : ∃ k : Nat, (pW cy X G M)[k]? = some (a, pcell cy G M a) := va_pl_get (X := X) (f := pcell cy G M) hL
theorem pW_set {cy : Nat → ClassId} {X : va_W} {G : pG} {M M' : pM} {A : Nat → Prop} {a k : Nat} {e : va_E} (hD : va_D A (pW cy X G M)) (hL : a ∈ G.1) (hk : (pW cy X G M)[k]? = some (a, pcell cy G M a)) (he : e = pcell cy G M' a) (ho : ∀ b, b ≠ a → M.1 b = M'.1 b ∧ M.2 b = M'.2 b) : (pW cy X G M).set k (a, e) = pW cy X G M' := by
  have h1 := va_pl_set (X := X) (f := pcell cy G M) (e := e) hD hL hk
  have h2 : va_pl G.1 (va_up (pcell cy G M) a e) = va_pl G.1 (pcell cy G M') := by
    refine va_pl_congr fun b => ?_
    by_cases hb : b = a
    · subst hb
      simp [va_up, he]
    · simp only [va_up, if_neg hb]
      exact pcell_congr cy G (ho b hb).1 (ho b hb).2
  show (X ++ va_pl G.1 (pcell cy G M)).set k (a, e) = X ++ va_pl G.1 (pcell cy G M')
  rw [h1, h2]
theorem pD_any {A : Nat → Prop} {cy : Nat → ClassId} {X : va_W} {G : pG} {M : pM} (M' : pM) (hD : va_D A (pW cy X G M)) : va_D A (pW cy X G M') := by
  have key : ∀ (k : Nat) (q : Nat × va_E), (pW cy X G M')[k]? = some q → ∃ e, (pW cy X G M)[k]? = some (q.1, e) := by
    intro k q hq
    unfold pW va_pl at hq ⊢
    by_cases h1 : k < X.length
    · rw [List.getElem?_append_left h1] at hq ⊢
      exact ⟨q.2, hq⟩
    · rw [List.getElem?_append_right (by omega)] at hq ⊢
      rw [List.getElem?_map] at hq ⊢
      cases h2 : G.1[k - X.length]? with
      | none => rw [h2] at hq; cases hq
      | some a =>
        rw [h2] at hq
        cases hq
        exact ⟨pcell cy G M a, rfl⟩
  constructor
  · intro i j p q hi hj h
    obtain ⟨e1, h1⟩ := key i p hi
    obtain ⟨e2, h2⟩ := key j q hj
    exact hD.1 i j _ _ h1 h2 h
  · intro k q hq
    obtain ⟨e1, h1⟩ := key k q hq
    exact hD.2 k (q.1, e1) h1
end
section
/-! THE JUDGEMENT jW: the machine at pc with locals lv, operand stack st, world X and the pool (shape in C, memory M). C holds all that stays the same within one method. -/
abbrev jC : Type := (Program × Launch × Env × Room × State × MethodId × Array Value × List Frame × Method × Code) × (va_G × (Nat → ClassId) × pG × (Nat → Prop) × Heap)
abbrev jp (C : jC) : Program := C.1.1
abbrev jl (C : jC) : Launch := C.1.2.1
abbrev je (C : jC) : Env := C.1.2.2.1
abbrev jR (C : jC) : Room := C.1.2.2.2.1
abbrev js (C : jC) : State := C.1.2.2.2.2.1
abbrev jm (C : jC) : MethodId := C.1.2.2.2.2.2.1
abbrev ja (C : jC) : Array Value := C.1.2.2.2.2.2.2.1
abbrev jb (C : jC) : List Frame := C.1.2.2.2.2.2.2.2.1
abbrev jme (C : jC) : Method := C.1.2.2.2.2.2.2.2.2.1
abbrev jc (C : jC) : Code := C.1.2.2.2.2.2.2.2.2.2
abbrev jD (C : jC) : va_G := C.2.1
abbrev jcy (C : jC) : Nat → ClassId := C.2.2.1
abbrev jG (C : jC) : pG := C.2.2.2.1
abbrev jA (C : jC) : Nat → Prop := C.2.2.2.2.1
abbrev jH (C : jC) : Heap := C.2.2.2.2.2
def jE (C : jC) (cc : ByteArray) (nL : Nat) (Ts : List Cond) (own : String) (ret : Option FieldType) (rm : Room) : Prop :=
  (jp C).tables.exec = Jvm.exec ∧ (jc C).code = cc ∧ (jc C).maxLocals = nL ∧ (js C).vm.findClass own = some (jm C).cls ∧ (∀ w ∈ Ts, w.before (ja C) (js C) = true) ∧ va_K (jD C) vwCl (ptys (jcy C)) (js C) ∧ (∀ q, (jH C).size ≤ q → jA C q) ∧ (jme C).locks = false ∧ (jme C).sig.returnType = ret ∧ jH C = (js C).heap ∧ jR C = rm
def jW (C : jC) (nL pc : Nat) (lv : List (Nat × Value)) (st : List Value) (X : va_W) (M : pM) (kc ks : Nat) (Q : State → Prop) : Prop :=
  ∀ (H : Heap) (locs : List Loc) (ls : Array Slot), va_P (jD C) vwCl (pW (jcy C) X (jG C) M) H → va_D (jA C) (pW (jcy C) X (jG C) M) → va_S (jA C) (jH C) H locs → lv_has ls nL lv →
    W (jp C) (jl C) (je C) (jR C) (js C) (jm C) (ja C) (jb C) (jme C) (jc C) H locs kc ks Q (F0 (jm C) pc ls st)
theorem jl_in : ∀ {lv : List (Nat × Value)} {i : Nat} {v : Value}, lv.lookup i = some v → (i, v) ∈ lv
  | [], _, _, h => by simp at h
  | (j, u) :: t, i, v, h => by
    cases hb : (i == j) with
    | true =>
      simp [List.lookup, hb] at h
      have e : i = j := by simpa using hb
      subst e; subst h
      exact List.mem_cons_self
    | false =>
      simp [List.lookup, hb] at h
      exact List.mem_cons_of_mem _ (jl_in h)
def jset (lv : List (Nat × Value)) (i : Nat) (v : Value) : List (Nat × Value) := (i, v) :: lv.filter (fun q => !(q.1 == i) && !(q.1 + 1 == i && q.2.category == 2))
def jpick (lv : List (Nat × Value)) (is : List Nat) : List (Nat × Value) := is.filterMap (fun i => (lv.lookup i).map (fun v => (i, v)))
section J
variable {C : jC} {cc : ByteArray} {nL : Nat} {Ts : List Cond} {own : String} {ret : Option FieldType} {rm : Room} {pc : Nat} {lv : List (Nat × Value)} {st : List Value} {X : va_W} {M : pM} {kc ks : Nat} {Q : State → Prop}
theorem j_lv (is : List Nat) {lv' : List (Nat × Value)} (h : jpick lv is = lv') (k : jW C nL pc lv' st X M kc ks Q) : jW C nL pc lv st X M kc ks Q := fun H locs ls hP hD hS hl => k H locs ls hP hD hS ⟨hl.1, hl.2.1, fun q hq => by
  rw [← h] at hq
  obtain ⟨i, -, hi⟩ := List.mem_filterMap.mp hq
  cases hv : lv.lookup i with
  | none => rw [hv] at hi; cases hi
  | some v => rw [hv] at hi; cases hi; exact hl.2.2 _ (jl_in hv)⟩
theorem j_M {M' : pM} (h : M = M') (k : jW C nL pc lv st X M' kc ks Q) : jW C nL pc lv st X M kc ks Q := h ▸ k
theorem j_st {st' : List Value} (h : st = st') (k : jW C nL pc lv st' X M kc ks Q) : jW C nL pc lv st X M kc ks Q := h ▸ k
theorem j_iconst (E : jE C cc nL Ts own ret rm) {n : Int} {v : Int32} (hd : decode cc pc = .ok (.iconst n, 1)) (hv : Int32.ofInt n = v) (k : jW C nL (pc + 1) lv (.int v :: st) X M kc ks Q) : jW C nL pc lv (st) X M kc ks Q := fun H locs ls hP hD hS hl => lv_iconst E.1 E.2.1 hd hv (k H locs ls hP hD hS hl)
theorem j_bipush (E : jE C cc nL Ts own ret rm) {n : Int} {v : Int32} (hd : decode cc pc = .ok (.bipush n, 2)) (hv : (Int8.ofInt n).toInt32 = v) (k : jW C nL (pc + 2) lv (.int v :: st) X M kc ks Q) : jW C nL pc lv (st) X M kc ks Q := fun H locs ls hP hD hS hl => lv_bipush E.1 E.2.1 hd hv (k H locs ls hP hD hS hl)
theorem j_sipush (E : jE C cc nL Ts own ret rm) {n : Int} {v : Int32} (hd : decode cc pc = .ok (.sipush n, 3)) (hv : (Int16.ofInt n).toInt32 = v) (k : jW C nL (pc + 3) lv (.int v :: st) X M kc ks Q) : jW C nL pc lv (st) X M kc ks Q := fun H locs ls hP hD hS hl => lv_sipush E.1 E.2.1 hd hv (k H locs ls hP hD hS hl)
theorem j_iadd (E : jE C cc nL Ts own ret rm) {x y : Int32} (hd : decode cc pc = .ok (.iadd, 1)) (k : jW C nL (pc + 1) lv (.int (x + y) :: st) X M kc ks Q) : jW C nL pc lv (.int y :: .int x :: st) X M kc ks Q := fun H locs ls hP hD hS hl => lv_iadd E.1 E.2.1 hd (k H locs ls hP hD hS hl)
theorem j_isub (E : jE C cc nL Ts own ret rm) {x y : Int32} (hd : decode cc pc = .ok (.isub, 1)) (k : jW C nL (pc + 1) lv (.int (x - y) :: st) X M kc ks Q) : jW C nL pc lv (.int y :: .int x :: st) X M kc ks Q := fun H locs ls hP hD hS hl => lv_isub E.1 E.2.1 hd (k H locs ls hP hD hS hl)
theorem j_imul (E : jE C cc nL Ts own ret rm) {x y : Int32} (hd : decode cc pc = .ok (.imul, 1)) (k : jW C nL (pc + 1) lv (.int (x * y) :: st) X M kc ks Q) : jW C nL pc lv (.int y :: .int x :: st) X M kc ks Q := fun H locs ls hP hD hS hl => lv_imul E.1 E.2.1 hd (k H locs ls hP hD hS hl)
theorem j_iand (E : jE C cc nL Ts own ret rm) {x y : Int32} (hd : decode cc pc = .ok (.iand, 1)) (k : jW C nL (pc + 1) lv (.int (x &&& y) :: st) X M kc ks Q) : jW C nL pc lv (.int y :: .int x :: st) X M kc ks Q := fun H locs ls hP hD hS hl => lv_iand E.1 E.2.1 hd (k H locs ls hP hD hS hl)
theorem j_ior (E : jE C cc nL Ts own ret rm) {x y : Int32} (hd : decode cc pc = .ok (.ior, 1)) (k : jW C nL (pc + 1) lv (.int (x ||| y) :: st) X M kc ks Q) : jW C nL pc lv (.int y :: .int x :: st) X M kc ks Q := fun H locs ls hP hD hS hl => lv_ior E.1 E.2.1 hd (k H locs ls hP hD hS hl)
theorem j_ixor (E : jE C cc nL Ts own ret rm) {x y : Int32} (hd : decode cc pc = .ok (.ixor, 1)) (k : jW C nL (pc + 1) lv (.int (x ^^^ y) :: st) X M kc ks Q) : jW C nL pc lv (.int y :: .int x :: st) X M kc ks Q := fun H locs ls hP hD hS hl => lv_ixor E.1 E.2.1 hd (k H locs ls hP hD hS hl)
theorem j_ishl (E : jE C cc nL Ts own ret rm) {x y : Int32} (hd : decode cc pc = .ok (.ishl, 1)) (k : jW C nL (pc + 1) lv (.int (x <<< (y &&& 31)) :: st) X M kc ks Q) : jW C nL pc lv (.int y :: .int x :: st) X M kc ks Q := fun H locs ls hP hD hS hl => lv_ishl E.1 E.2.1 hd (k H locs ls hP hD hS hl)
theorem j_ishr (E : jE C cc nL Ts own ret rm) {x y : Int32} (hd : decode cc pc = .ok (.ishr, 1)) (k : jW C nL (pc + 1) lv (.int (x >>> (y &&& 31)) :: st) X M kc ks Q) : jW C nL pc lv (.int y :: .int x :: st) X M kc ks Q := fun H locs ls hP hD hS hl => lv_ishr E.1 E.2.1 hd (k H locs ls hP hD hS hl)
theorem j_fadd (E : jE C cc nL Ts own ret rm) {x y : UInt32} (hd : decode cc pc = .ok (.fadd, 1)) (hne : vf_n32 (FP.fadd x y)) (k : jW C nL (pc + 1) lv (.float (FP.fadd x y) :: st) X M kc ks Q) : jW C nL pc lv (.float y :: .float x :: st) X M kc ks Q := fun H locs ls hP hD hS hl => lv_fadd E.1 E.2.1 hd hne (k H locs ls hP hD hS hl)
theorem j_fsub (E : jE C cc nL Ts own ret rm) {x y : UInt32} (hd : decode cc pc = .ok (.fsub, 1)) (hne : vf_n32 (FP.fsub x y)) (k : jW C nL (pc + 1) lv (.float (FP.fsub x y) :: st) X M kc ks Q) : jW C nL pc lv (.float y :: .float x :: st) X M kc ks Q := fun H locs ls hP hD hS hl => lv_fsub E.1 E.2.1 hd hne (k H locs ls hP hD hS hl)
theorem j_fmul (E : jE C cc nL Ts own ret rm) {x y : UInt32} (hd : decode cc pc = .ok (.fmul, 1)) (hne : vf_n32 (FP.fmul x y)) (k : jW C nL (pc + 1) lv (.float (FP.fmul x y) :: st) X M kc ks Q) : jW C nL pc lv (.float y :: .float x :: st) X M kc ks Q := fun H locs ls hP hD hS hl => lv_fmul E.1 E.2.1 hd hne (k H locs ls hP hD hS hl)
theorem j_fcmp (E : jE C cc nL Ts own ret rm) {x y : UInt32} {op : CmpOp} (hd : decode cc pc = .ok (.fcmp op, 1)) (k : jW C nL (pc + 1) lv (.int (Op.cmpValue (FP.fcmp x y) op) :: st) X M kc ks Q) : jW C nL pc lv (.float y :: .float x :: st) X M kc ks Q := fun H locs ls hP hD hS hl => lv_fcmp E.1 E.2.1 hd (k H locs ls hP hD hS hl)
theorem j_dcmp (E : jE C cc nL Ts own ret rm) {x y : UInt64} {op : CmpOp} (hd : decode cc pc = .ok (.dcmp op, 1)) (k : jW C nL (pc + 1) lv (.int (Op.cmpValue (FP.dcmp x y) op) :: st) X M kc ks Q) : jW C nL pc lv (.double y :: .double x :: st) X M kc ks Q := fun H locs ls hP hD hS hl => lv_dcmp E.1 E.2.1 hd (k H locs ls hP hD hS hl)
theorem j_fconst0 (E : jE C cc nL Ts own ret rm) (hd : decode cc pc = .ok (.fconst 0, 1)) (k : jW C nL (pc + 1) lv (.float FP.fconst0 :: st) X M kc ks Q) : jW C nL pc lv (st) X M kc ks Q := fun H locs ls hP hD hS hl => lv_fconst0 E.1 E.2.1 hd (k H locs ls hP hD hS hl)
theorem j_fconst1 (E : jE C cc nL Ts own ret rm) (hd : decode cc pc = .ok (.fconst 1, 1)) (k : jW C nL (pc + 1) lv (.float FP.fconst1 :: st) X M kc ks Q) : jW C nL pc lv (st) X M kc ks Q := fun H locs ls hP hD hS hl => lv_fconst1 E.1 E.2.1 hd (k H locs ls hP hD hS hl)
theorem j_fconst2 (E : jE C cc nL Ts own ret rm) (hd : decode cc pc = .ok (.fconst 2, 1)) (k : jW C nL (pc + 1) lv (.float FP.fconst2 :: st) X M kc ks Q) : jW C nL pc lv (st) X M kc ks Q := fun H locs ls hP hD hS hl => lv_fconst2 E.1 E.2.1 hd (k H locs ls hP hD hS hl)
theorem j_i2f (E : jE C cc nL Ts own ret rm) {x : Int32} (hd : decode cc pc = .ok (.i2f, 1)) (k : jW C nL (pc + 1) lv (.float (FP.i2f x) :: st) X M kc ks Q) : jW C nL pc lv (.int x :: st) X M kc ks Q := fun H locs ls hP hD hS hl => lv_i2f E.1 E.2.1 hd (k H locs ls hP hD hS hl)
theorem j_f2d (E : jE C cc nL Ts own ret rm) {x : UInt32} (hd : decode cc pc = .ok (.f2d, 1)) (hne : vf_n64 (FP.f2d x)) (k : jW C nL (pc + 1) lv (.double (FP.f2d x) :: st) X M kc ks Q) : jW C nL pc lv (.float x :: st) X M kc ks Q := fun H locs ls hP hD hS hl => lv_f2d E.1 E.2.1 hd hne (k H locs ls hP hD hS hl)
theorem j_i2l (E : jE C cc nL Ts own ret rm) {x : Int32} (hd : decode cc pc = .ok (.i2l, 1)) (k : jW C nL (pc + 1) lv (.long x.toInt64 :: st) X M kc ks Q) : jW C nL pc lv (.int x :: st) X M kc ks Q := fun H locs ls hP hD hS hl => lv_i2l E.1 E.2.1 hd rfl (k H locs ls hP hD hS hl)
theorem j_i2c (E : jE C cc nL Ts own ret rm) {x v : Int32} (hd : decode cc pc = .ok (.i2c, 1)) (hv : (x.toUInt32 % 65536).toInt32 = v) (k : jW C nL (pc + 1) lv (.int v :: st) X M kc ks Q) : jW C nL pc lv (.int x :: st) X M kc ks Q := fun H locs ls hP hD hS hl => lv_i2c E.1 E.2.1 hd hv (k H locs ls hP hD hS hl)
theorem j_dup (E : jE C cc nL Ts own ret rm) {va : Value} (hd : decode cc pc = .ok (.dup, 1)) (hva : va.category = 1) (k : jW C nL (pc + 1) lv (va :: va :: st) X M kc ks Q) : jW C nL pc lv (va :: st) X M kc ks Q := fun H locs ls hP hD hS hl => lv_dup E.1 E.2.1 hd hva (k H locs ls hP hD hS hl)
theorem j_pop (E : jE C cc nL Ts own ret rm) {va : Value} (hd : decode cc pc = .ok (.pop, 1)) (hva : va.category = 1) (k : jW C nL (pc + 1) lv (st) X M kc ks Q) : jW C nL pc lv (va :: st) X M kc ks Q := fun H locs ls hP hD hS hl => lv_pop E.1 E.2.1 hd hva (k H locs ls hP hD hS hl)
theorem j_dup2_11 (E : jE C cc nL Ts own ret rm) {va vb : Value} (hd : decode cc pc = .ok (.dup2, 1)) (hva : va.category = 1) (hvb : vb.category = 1) (k : jW C nL (pc + 1) lv (va :: vb :: va :: vb :: st) X M kc ks Q) : jW C nL pc lv (va :: vb :: st) X M kc ks Q := fun H locs ls hP hD hS hl => lv_dup2_11 E.1 E.2.1 hd hva hvb (k H locs ls hP hD hS hl)
theorem j_iload_n (E : jE C cc nL Ts own ret rm) {k : Fin 4} {i : Nat} {x : Int32} (hd : decode cc pc = .ok (.iload_n k, 1)) (hi : (k : Nat) = i) (hv : lv.lookup i = some (.int x)) (kk : jW C nL (pc + 1) lv (.int x :: st) X M kc ks Q) : jW C nL pc lv st X M kc ks Q := fun H locs ls hP hD hS hl => lv_iload_n E.1 E.2.1 hd hi (hl.2.2 _ (jl_in hv)) (kk H locs ls hP hD hS hl)
theorem j_iload (E : jE C cc nL Ts own ret rm) {i : Nat} {x : Int32} (hd : decode cc pc = .ok (.iload i, 2)) (hv : lv.lookup i = some (.int x)) (kk : jW C nL (pc + 2) lv (.int x :: st) X M kc ks Q) : jW C nL pc lv st X M kc ks Q := fun H locs ls hP hD hS hl => lv_iload E.1 E.2.1 hd (hl.2.2 _ (jl_in hv)) (kk H locs ls hP hD hS hl)
theorem j_istore_n (E : jE C cc nL Ts own ret rm) {k : Fin 4} {i : Nat} {x : Int32} (hd : decode cc pc = .ok (.istore_n k, 1)) (hi : (k : Nat) = i) (hn : i < nL) (kk : jW C nL (pc + 1) (jset lv i (.int x)) st X M kc ks Q) : jW C nL pc lv (.int x :: st) X M kc ks Q := fun H locs ls hP hD hS hl => lv_istore_n E.1 E.2.1 hd hi hl hn rfl (fun ls hl => kk H locs ls hP hD hS hl)
theorem j_istore (E : jE C cc nL Ts own ret rm) {i : Nat} {x : Int32} (hd : decode cc pc = .ok (.istore i, 2)) (hn : i < nL) (kk : jW C nL (pc + 2) (jset lv i (.int x)) st X M kc ks Q) : jW C nL pc lv (.int x :: st) X M kc ks Q := fun H locs ls hP hD hS hl => lv_istore E.1 E.2.1 hd hl hn rfl (fun ls hl => kk H locs ls hP hD hS hl)
theorem j_aload_n (E : jE C cc nL Ts own ret rm) {k : Fin 4} {i : Nat} {x : Nat} (hd : decode cc pc = .ok (.aload_n k, 1)) (hi : (k : Nat) = i) (hv : lv.lookup i = some (.ref x)) (kk : jW C nL (pc + 1) lv (.ref x :: st) X M kc ks Q) : jW C nL pc lv st X M kc ks Q := fun H locs ls hP hD hS hl => lv_aload_n E.1 E.2.1 hd hi (hl.2.2 _ (jl_in hv)) (kk H locs ls hP hD hS hl)
theorem j_aload (E : jE C cc nL Ts own ret rm) {i : Nat} {x : Nat} (hd : decode cc pc = .ok (.aload i, 2)) (hv : lv.lookup i = some (.ref x)) (kk : jW C nL (pc + 2) lv (.ref x :: st) X M kc ks Q) : jW C nL pc lv st X M kc ks Q := fun H locs ls hP hD hS hl => lv_aload E.1 E.2.1 hd (hl.2.2 _ (jl_in hv)) (kk H locs ls hP hD hS hl)
theorem j_astore_n (E : jE C cc nL Ts own ret rm) {k : Fin 4} {i : Nat} {x : Nat} (hd : decode cc pc = .ok (.astore_n k, 1)) (hi : (k : Nat) = i) (hn : i < nL) (kk : jW C nL (pc + 1) (jset lv i (.ref x)) st X M kc ks Q) : jW C nL pc lv (.ref x :: st) X M kc ks Q := fun H locs ls hP hD hS hl => lv_astore_n E.1 E.2.1 hd hi hl hn rfl (fun ls hl => kk H locs ls hP hD hS hl)
theorem j_astore (E : jE C cc nL Ts own ret rm) {i : Nat} {x : Nat} (hd : decode cc pc = .ok (.astore i, 2)) (hn : i < nL) (kk : jW C nL (pc + 2) (jset lv i (.ref x)) st X M kc ks Q) : jW C nL pc lv (.ref x :: st) X M kc ks Q := fun H locs ls hP hD hS hl => lv_astore E.1 E.2.1 hd hl hn rfl (fun ls hl => kk H locs ls hP hD hS hl)
theorem j_fload_n (E : jE C cc nL Ts own ret rm) {k : Fin 4} {i : Nat} {x : UInt32} (hd : decode cc pc = .ok (.fload_n k, 1)) (hi : (k : Nat) = i) (hv : lv.lookup i = some (.float x)) (kk : jW C nL (pc + 1) lv (.float x :: st) X M kc ks Q) : jW C nL pc lv st X M kc ks Q := fun H locs ls hP hD hS hl => lv_fload_n E.1 E.2.1 hd hi (hl.2.2 _ (jl_in hv)) (kk H locs ls hP hD hS hl)
theorem j_fload (E : jE C cc nL Ts own ret rm) {i : Nat} {x : UInt32} (hd : decode cc pc = .ok (.fload i, 2)) (hv : lv.lookup i = some (.float x)) (kk : jW C nL (pc + 2) lv (.float x :: st) X M kc ks Q) : jW C nL pc lv st X M kc ks Q := fun H locs ls hP hD hS hl => lv_fload E.1 E.2.1 hd (hl.2.2 _ (jl_in hv)) (kk H locs ls hP hD hS hl)
theorem j_fstore_n (E : jE C cc nL Ts own ret rm) {k : Fin 4} {i : Nat} {x : UInt32} (hd : decode cc pc = .ok (.fstore_n k, 1)) (hi : (k : Nat) = i) (hn : i < nL) (kk : jW C nL (pc + 1) (jset lv i (.float x)) st X M kc ks Q) : jW C nL pc lv (.float x :: st) X M kc ks Q := fun H locs ls hP hD hS hl => lv_fstore_n E.1 E.2.1 hd hi hl hn rfl (fun ls hl => kk H locs ls hP hD hS hl)
theorem j_fstore (E : jE C cc nL Ts own ret rm) {i : Nat} {x : UInt32} (hd : decode cc pc = .ok (.fstore i, 2)) (hn : i < nL) (kk : jW C nL (pc + 2) (jset lv i (.float x)) st X M kc ks Q) : jW C nL pc lv (.float x :: st) X M kc ks Q := fun H locs ls hP hD hS hl => lv_fstore E.1 E.2.1 hd hl hn rfl (fun ls hl => kk H locs ls hP hD hS hl)
theorem j_iinc (E : jE C cc nL Ts own ret rm) {i : Nat} {n : Int} {x : Int32} (hd : decode cc pc = .ok (.iinc i n, 3)) (hv : lv.lookup i = some (.int x)) (hn : i < nL) (kk : jW C nL (pc + 3) (jset lv i (.int (x + Int32.ofInt n))) st X M kc ks Q) : jW C nL pc lv st X M kc ks Q := fun H locs ls hP hD hS hl => by
  obtain ⟨k, hk⟩ := List.mem_iff_getElem?.mp (jl_in hv)
  exact lv_iinc E.1 E.2.1 hd hl hk rfl hn rfl (fun ls hl => kk H locs ls hP hD hS hl)
theorem j_if_eq (E : jE C cc nL Ts own ret rm) {x : Int32} {off : Int} {tgt : Nat} (hd : decode cc pc = .ok (.ifCond .eq off, 3)) (ht : (pc : Int) + off = (tgt : Int)) (kt : x = 0 → jW C nL tgt lv st X M kc ks Q) (kf : ¬ x = 0 → jW C nL (pc + 3) lv st X M kc ks Q) : jW C nL pc lv (.int x :: st) X M kc ks Q := fun H locs ls hP hD hS hl => lv_if_eq E.1 E.2.1 hd ht (fun h => kt h H locs ls hP hD hS hl) (fun h => kf h H locs ls hP hD hS hl)
theorem j_if_ne (E : jE C cc nL Ts own ret rm) {x : Int32} {off : Int} {tgt : Nat} (hd : decode cc pc = .ok (.ifCond .ne off, 3)) (ht : (pc : Int) + off = (tgt : Int)) (kt : ¬ x = 0 → jW C nL tgt lv st X M kc ks Q) (kf : x = 0 → jW C nL (pc + 3) lv st X M kc ks Q) : jW C nL pc lv (.int x :: st) X M kc ks Q := fun H locs ls hP hD hS hl => lv_if_ne E.1 E.2.1 hd ht (fun h => kt h H locs ls hP hD hS hl) (fun h => kf h H locs ls hP hD hS hl)
theorem j_if_lt (E : jE C cc nL Ts own ret rm) {x : Int32} {off : Int} {tgt : Nat} (hd : decode cc pc = .ok (.ifCond .lt off, 3)) (ht : (pc : Int) + off = (tgt : Int)) (kt : x < 0 → jW C nL tgt lv st X M kc ks Q) (kf : ¬ x < 0 → jW C nL (pc + 3) lv st X M kc ks Q) : jW C nL pc lv (.int x :: st) X M kc ks Q := fun H locs ls hP hD hS hl => lv_if_lt E.1 E.2.1 hd ht (fun h => kt h H locs ls hP hD hS hl) (fun h => kf h H locs ls hP hD hS hl)
theorem j_if_ge (E : jE C cc nL Ts own ret rm) {x : Int32} {off : Int} {tgt : Nat} (hd : decode cc pc = .ok (.ifCond .ge off, 3)) (ht : (pc : Int) + off = (tgt : Int)) (kt : 0 ≤ x → jW C nL tgt lv st X M kc ks Q) (kf : ¬ 0 ≤ x → jW C nL (pc + 3) lv st X M kc ks Q) : jW C nL pc lv (.int x :: st) X M kc ks Q := fun H locs ls hP hD hS hl => lv_if_ge E.1 E.2.1 hd ht (fun h => kt h H locs ls hP hD hS hl) (fun h => kf h H locs ls hP hD hS hl)
theorem j_if_gt (E : jE C cc nL Ts own ret rm) {x : Int32} {off : Int} {tgt : Nat} (hd : decode cc pc = .ok (.ifCond .gt off, 3)) (ht : (pc : Int) + off = (tgt : Int)) (kt : 0 < x → jW C nL tgt lv st X M kc ks Q) (kf : ¬ 0 < x → jW C nL (pc + 3) lv st X M kc ks Q) : jW C nL pc lv (.int x :: st) X M kc ks Q := fun H locs ls hP hD hS hl => lv_if_gt E.1 E.2.1 hd ht (fun h => kt h H locs ls hP hD hS hl) (fun h => kf h H locs ls hP hD hS hl)
theorem j_if_le (E : jE C cc nL Ts own ret rm) {x : Int32} {off : Int} {tgt : Nat} (hd : decode cc pc = .ok (.ifCond .le off, 3)) (ht : (pc : Int) + off = (tgt : Int)) (kt : x ≤ 0 → jW C nL tgt lv st X M kc ks Q) (kf : ¬ x ≤ 0 → jW C nL (pc + 3) lv st X M kc ks Q) : jW C nL pc lv (.int x :: st) X M kc ks Q := fun H locs ls hP hD hS hl => lv_if_le E.1 E.2.1 hd ht (fun h => kt h H locs ls hP hD hS hl) (fun h => kf h H locs ls hP hD hS hl)
theorem j_icmp_eq (E : jE C cc nL Ts own ret rm) {x y : Int32} {off : Int} {tgt : Nat} (hd : decode cc pc = .ok (.if_icmp .eq off, 3)) (ht : (pc : Int) + off = (tgt : Int)) (kt : x = y → jW C nL tgt lv st X M kc ks Q) (kf : ¬ x = y → jW C nL (pc + 3) lv st X M kc ks Q) : jW C nL pc lv (.int y :: .int x :: st) X M kc ks Q := fun H locs ls hP hD hS hl => lv_icmp_eq E.1 E.2.1 hd ht (fun h => kt h H locs ls hP hD hS hl) (fun h => kf h H locs ls hP hD hS hl)
theorem j_icmp_ne (E : jE C cc nL Ts own ret rm) {x y : Int32} {off : Int} {tgt : Nat} (hd : decode cc pc = .ok (.if_icmp .ne off, 3)) (ht : (pc : Int) + off = (tgt : Int)) (kt : ¬ x = y → jW C nL tgt lv st X M kc ks Q) (kf : x = y → jW C nL (pc + 3) lv st X M kc ks Q) : jW C nL pc lv (.int y :: .int x :: st) X M kc ks Q := fun H locs ls hP hD hS hl => lv_icmp_ne E.1 E.2.1 hd ht (fun h => kt h H locs ls hP hD hS hl) (fun h => kf h H locs ls hP hD hS hl)
theorem j_icmp_lt (E : jE C cc nL Ts own ret rm) {x y : Int32} {off : Int} {tgt : Nat} (hd : decode cc pc = .ok (.if_icmp .lt off, 3)) (ht : (pc : Int) + off = (tgt : Int)) (kt : x < y → jW C nL tgt lv st X M kc ks Q) (kf : ¬ x < y → jW C nL (pc + 3) lv st X M kc ks Q) : jW C nL pc lv (.int y :: .int x :: st) X M kc ks Q := fun H locs ls hP hD hS hl => lv_icmp_lt E.1 E.2.1 hd ht (fun h => kt h H locs ls hP hD hS hl) (fun h => kf h H locs ls hP hD hS hl)
theorem j_icmp_ge (E : jE C cc nL Ts own ret rm) {x y : Int32} {off : Int} {tgt : Nat} (hd : decode cc pc = .ok (.if_icmp .ge off, 3)) (ht : (pc : Int) + off = (tgt : Int)) (kt : y ≤ x → jW C nL tgt lv st X M kc ks Q) (kf : ¬ y ≤ x → jW C nL (pc + 3) lv st X M kc ks Q) : jW C nL pc lv (.int y :: .int x :: st) X M kc ks Q := fun H locs ls hP hD hS hl => lv_icmp_ge E.1 E.2.1 hd ht (fun h => kt h H locs ls hP hD hS hl) (fun h => kf h H locs ls hP hD hS hl)
theorem j_icmp_gt (E : jE C cc nL Ts own ret rm) {x y : Int32} {off : Int} {tgt : Nat} (hd : decode cc pc = .ok (.if_icmp .gt off, 3)) (ht : (pc : Int) + off = (tgt : Int)) (kt : y < x → jW C nL tgt lv st X M kc ks Q) (kf : ¬ y < x → jW C nL (pc + 3) lv st X M kc ks Q) : jW C nL pc lv (.int y :: .int x :: st) X M kc ks Q := fun H locs ls hP hD hS hl => lv_icmp_gt E.1 E.2.1 hd ht (fun h => kt h H locs ls hP hD hS hl) (fun h => kf h H locs ls hP hD hS hl)
theorem j_icmp_le (E : jE C cc nL Ts own ret rm) {x y : Int32} {off : Int} {tgt : Nat} (hd : decode cc pc = .ok (.if_icmp .le off, 3)) (ht : (pc : Int) + off = (tgt : Int)) (kt : x ≤ y → jW C nL tgt lv st X M kc ks Q) (kf : ¬ x ≤ y → jW C nL (pc + 3) lv st X M kc ks Q) : jW C nL pc lv (.int y :: .int x :: st) X M kc ks Q := fun H locs ls hP hD hS hl => lv_icmp_le E.1 E.2.1 hd ht (fun h => kt h H locs ls hP hD hS hl) (fun h => kf h H locs ls hP hD hS hl)
theorem j_goto (E : jE C cc nL Ts own ret rm) {off : Int} {tgt : Nat} (hd : decode cc pc = .ok (.goto off, 3)) (ht : (pc : Int) + off = (tgt : Int)) (k : jW C nL tgt lv st X M kc ks Q) : jW C nL pc lv st X M kc ks Q := fun H locs ls hP hD hS hl => lv_goto E.1 E.2.1 hd ht (k H locs ls hP hD hS hl)
theorem j_ldcf (E : jE C cc nL Ts own ret rm) {index : Nat} {v : UInt32} (hc : Jvm.Cond.constantFloat own index v ∈ Ts) (hd : decode cc pc = .ok (.ldc index, 2)) (k : jW C nL (pc + 2) lv (.float v :: st) X M kc ks Q) : jW C nL pc lv st X M kc ks Q := fun H locs ls hP hD hS hl => lv_ldcf E.1 E.2.1 E.2.2.2.1 (E.2.2.2.2.1 _ hc) hd (k H locs ls hP hD hS hl)
theorem j_ldc (E : jE C cc nL Ts own ret rm) {index : Nat} {v : Int32} (hc : Jvm.Cond.constant own index v ∈ Ts) (hd : decode cc pc = .ok (.ldc index, 2)) (k : jW C nL (pc + 2) lv (.int v :: st) X M kc ks Q) : jW C nL pc lv st X M kc ks Q := fun H locs ls hP hD hS hl => lv_ldc E.1 E.2.1 E.2.2.2.1 (E.2.2.2.2.1 _ hc) hd (k H locs ls hP hD hS hl)
theorem j_tabIn (E : jE C cc nL Ts own ret rm) {dflt lo hi : Int} {offs : Array Int} {len : Nat} {x : Int32} {off : Int} {tgt : Nat} (hd : decode cc pc = .ok (.tableswitch dflt lo hi offs, len)) (h1 : ¬ x.toInt < lo) (h2 : ¬ hi < x.toInt) (ho : offs[(x.toInt - lo).toNat]? = some off) (ht : (pc : Int) + off = (tgt : Int)) (k : jW C nL tgt lv st X M kc ks Q) : jW C nL pc lv (.int x :: st) X M kc ks Q := fun H locs ls hP hD hS hl => lv_tableIn E.1 E.2.1 hd h1 h2 ho ht (k H locs ls hP hD hS hl)
theorem j_tabOut (E : jE C cc nL Ts own ret rm) {dflt lo hi : Int} {offs : Array Int} {len : Nat} {x : Int32} {tgt : Nat} (hd : decode cc pc = .ok (.tableswitch dflt lo hi offs, len)) (h : x.toInt < lo ∨ hi < x.toInt) (ht : (pc : Int) + dflt = (tgt : Int)) (k : jW C nL tgt lv st X M kc ks Q) : jW C nL pc lv (.int x :: st) X M kc ks Q := fun H locs ls hP hD hS hl => lv_tableOut E.1 E.2.1 hd h ht (k H locs ls hP hD hS hl)
theorem j_getI (E : jE C cc nL Ts own ret rm) {a ci k N index : Nat} {Cn : String} {T : u_T} (hd : decode cc pc = .ok (.getfield index, 3)) (hL : a ∈ (jG C).1) (hK : (jG C).2.1 a = ci) (hcl : vwCl[ci]? = some (Cn, T, N)) (hk : k < N) (hin : ∀ w ∈ u_ws Cn T N, w ∈ Ts) (hlk : Cond.fieldLink own index (T k).1 (T k).2.1 (T k).2.2.1 ∈ Ts) (ht : (pty ci)[k]? = some 0) (kk : jW C nL (pc + 3) lv (.int (M.1 a k) :: st) X M kc ks Q) : jW C nL pc lv (.ref a :: st) X M kc ks Q := fun H locs ls hP hD hS hl => by
  obtain ⟨q, hq⟩ := pW_get (jcy C) X (jG C) M hL
  rw [pcell_o (jcy C) (jG C) M hK (List.getElem?_eq_some_iff.mp hcl).1] at hq
  exact va_get (D := jD C) (ci := ci) (C := Cn) (T := T) (N := N) E.1 E.2.1 E.2.2.2.2.1 hin E.2.2.2.1 E.2.2.2.2.2.1 hP q hq hcl k hk (E.2.2.2.2.1 _ hlk) (fun _ h => h) (by rw [pfl_get M (jG C).2.2.2 a (pty ci) 0 k 0 ht]; simp [pval]) hd (kk H locs ls hP hD hS hl)
theorem j_getF (E : jE C cc nL Ts own ret rm) {a ci k N index : Nat} {Cn : String} {T : u_T} (hd : decode cc pc = .ok (.getfield index, 3)) (hL : a ∈ (jG C).1) (hK : (jG C).2.1 a = ci) (hcl : vwCl[ci]? = some (Cn, T, N)) (hk : k < N) (hin : ∀ w ∈ u_ws Cn T N, w ∈ Ts) (hlk : Cond.fieldLink own index (T k).1 (T k).2.1 (T k).2.2.1 ∈ Ts) (ht : (pty ci)[k]? = some 1) (kk : jW C nL (pc + 3) lv (.float (M.2 a k) :: st) X M kc ks Q) : jW C nL pc lv (.ref a :: st) X M kc ks Q := fun H locs ls hP hD hS hl => by
  obtain ⟨q, hq⟩ := pW_get (jcy C) X (jG C) M hL
  rw [pcell_o (jcy C) (jG C) M hK (List.getElem?_eq_some_iff.mp hcl).1] at hq
  exact va_get (D := jD C) (ci := ci) (C := Cn) (T := T) (N := N) E.1 E.2.1 E.2.2.2.2.1 hin E.2.2.2.1 E.2.2.2.2.2.1 hP q hq hcl k hk (E.2.2.2.2.1 _ hlk) (fun _ h => h) (by rw [pfl_get M (jG C).2.2.2 a (pty ci) 0 k 1 ht]; simp [pval]) hd (kk H locs ls hP hD hS hl)
theorem j_getP (E : jE C cc nL Ts own ret rm) {a ci k N index : Nat} {Cn : String} {T : u_T} (hd : decode cc pc = .ok (.getfield index, 3)) (hL : a ∈ (jG C).1) (hK : (jG C).2.1 a = ci) (hcl : vwCl[ci]? = some (Cn, T, N)) (hk : k < N) (hin : ∀ w ∈ u_ws Cn T N, w ∈ Ts) (hlk : Cond.fieldLink own index (T k).1 (T k).2.1 (T k).2.2.1 ∈ Ts) (ht : (pty ci)[k]? = some 2) {b : Nat} (hp : (jG C).2.2.2 a k = some b) (kk : jW C nL (pc + 3) lv (.ref b :: st) X M kc ks Q) : jW C nL pc lv (.ref a :: st) X M kc ks Q := fun H locs ls hP hD hS hl => by
  obtain ⟨q, hq⟩ := pW_get (jcy C) X (jG C) M hL
  rw [pcell_o (jcy C) (jG C) M hK (List.getElem?_eq_some_iff.mp hcl).1] at hq
  exact va_get (D := jD C) (ci := ci) (C := Cn) (T := T) (N := N) E.1 E.2.1 E.2.2.2.2.1 hin E.2.2.2.1 E.2.2.2.2.2.1 hP q hq hcl k hk (E.2.2.2.2.1 _ hlk) (fun _ h => h) (by rw [pfl_get M (jG C).2.2.2 a (pty ci) 0 k 2 ht]; simp [pval, va_rf, hp]) hd (kk H locs ls hP hD hS hl)
theorem j_putI (E : jE C cc nL Ts own ret rm) {a ci k N index : Nat} {Cn : String} {T : u_T} {v : Int32} {ty : FieldType} (hd : decode cc pc = .ok (.putfield index, 3)) (hL : a ∈ (jG C).1) (hK : (jG C).2.1 a = ci) (hcl : vwCl[ci]? = some (Cn, T, N)) (hk : k < N) (hin : ∀ w ∈ u_ws Cn T N, w ∈ Ts) (hlk : Cond.fieldLink own index (T k).1 (T k).2.1 (T k).2.2.1 ∈ Ts) (ht : (pty ci)[k]? = some 0) (ty0 : Nat → FieldType) (hty : ∀ k, k < N → parseFieldDescriptor (T k).2.2.1 = some (ty0 k)) (hnm : ∀ a, a < N → ∀ b, b < N → a ≠ b → (T a).2.1 ≠ (T b).2.1) (hfin : (T k).2.2.2 = false) (hty1 : ty0 k = ty) (hn : narrow ty (.int v) = .int v) (hfit : fits ty (.int v) = true) (kk : jW C nL (pc + 3) lv st X (pI M a k v) kc ks Q) : jW C nL pc lv (.int v :: .ref a :: st) X M kc ks Q := fun H locs ls hP hD hS hl => by
  obtain ⟨q, hq⟩ := pW_get (jcy C) X (jG C) M hL
  have hc8 : ci < 8 := (List.getElem?_eq_some_iff.mp hcl).1
  have hq2 := hq
  rw [pcell_o (jcy C) (jG C) M hK hc8] at hq2
  have hset : (pW (jcy C) X (jG C) M).set q (a, .inr (ci, (pfl M (jG C).2.2.2 a (pty ci) 0).set k (.int v))) = pW (jcy C) X (jG C) (pI M a k v) := by
    refine pW_set hD hL hq ?_ (fun b hb => ?_)
    · rw [pcell_o (jcy C) (jG C) _ hK hc8]
      rw [pfl_set (M' := pI M a k v) (jG C).2.2.2 (pty ci) ht (by simp [pval, pI, va_up]) (fun i hi => by simp [pI, va_up, hi])]
    · simp [pI, va_up, hb]
  refine va_put (D := jD C) (ci := ci) (C := Cn) (T := T) (N := N) E.1 E.2.1 E.2.2.2.2.1 hin ty0 hty hnm E.2.2.2.1 E.2.2.2.2.2.1 hP hD hS q hq2 hcl k hk (E.2.2.2.2.1 _ hlk) (fun _ h => h) hfin (hty1 ▸ hty k hk) hn hfit (by rw [pfl_len]; exact (List.getElem?_eq_some_iff.mp ht).1) hd (fun H locs hP hD hS => ?_)
  rw [hset] at hP hD
  exact kk H locs ls hP hD hS hl
theorem j_putF (E : jE C cc nL Ts own ret rm) {a ci k N index : Nat} {Cn : String} {T : u_T} {v : UInt32} {ty : FieldType} (hd : decode cc pc = .ok (.putfield index, 3)) (hL : a ∈ (jG C).1) (hK : (jG C).2.1 a = ci) (hcl : vwCl[ci]? = some (Cn, T, N)) (hk : k < N) (hin : ∀ w ∈ u_ws Cn T N, w ∈ Ts) (hlk : Cond.fieldLink own index (T k).1 (T k).2.1 (T k).2.2.1 ∈ Ts) (ht : (pty ci)[k]? = some 1) (ty0 : Nat → FieldType) (hty : ∀ k, k < N → parseFieldDescriptor (T k).2.2.1 = some (ty0 k)) (hnm : ∀ a, a < N → ∀ b, b < N → a ≠ b → (T a).2.1 ≠ (T b).2.1) (hfin : (T k).2.2.2 = false) (hty1 : ty0 k = ty) (hn : narrow ty (.float v) = .float v) (hfit : fits ty (.float v) = true) (kk : jW C nL (pc + 3) lv st X (pF M a k v) kc ks Q) : jW C nL pc lv (.float v :: .ref a :: st) X M kc ks Q := fun H locs ls hP hD hS hl => by
  obtain ⟨q, hq⟩ := pW_get (jcy C) X (jG C) M hL
  have hc8 : ci < 8 := (List.getElem?_eq_some_iff.mp hcl).1
  have hq2 := hq
  rw [pcell_o (jcy C) (jG C) M hK hc8] at hq2
  have hset : (pW (jcy C) X (jG C) M).set q (a, .inr (ci, (pfl M (jG C).2.2.2 a (pty ci) 0).set k (.float v))) = pW (jcy C) X (jG C) (pF M a k v) := by
    refine pW_set hD hL hq ?_ (fun b hb => ?_)
    · rw [pcell_o (jcy C) (jG C) _ hK hc8]
      rw [pfl_set (M' := pF M a k v) (jG C).2.2.2 (pty ci) ht (by simp [pval, pF, va_up]) (fun i hi => by simp [pF, va_up, hi])]
    · simp [pF, va_up, hb]
  refine va_put (D := jD C) (ci := ci) (C := Cn) (T := T) (N := N) E.1 E.2.1 E.2.2.2.2.1 hin ty0 hty hnm E.2.2.2.1 E.2.2.2.2.2.1 hP hD hS q hq2 hcl k hk (E.2.2.2.2.1 _ hlk) (fun _ h => h) hfin (hty1 ▸ hty k hk) hn hfit (by rw [pfl_len]; exact (List.getElem?_eq_some_iff.mp ht).1) hd (fun H locs hP hD hS => ?_)
  rw [hset] at hP hD
  exact kk H locs ls hP hD hS hl
theorem j_iald (E : jE C cc nL Ts own ret rm) (hd : decode cc pc = .ok (.iaload, 1)) {a N j : Nat} {i : Int32} (hL : a ∈ (jG C).1) (hlen : (jG C).2.2.1 a = N) (hi : i = nI j) (hj : j < N) (hN : N < 2 ^ 31) (hK : (jG C).2.1 a = 10) (kk : jW C nL (pc + 1) lv (.int (M.1 a j) :: st) X M kc ks Q) : jW C nL pc lv (.int i :: .ref a :: st) X M kc ks Q := fun H locs ls hP hD hS hl => by
  obtain ⟨q, hq⟩ := pW_get (jcy C) X (jG C) M hL
  rw [pcell_I (jcy C) (jG C) M hK] at hq
  subst hi
  have h := kk H locs ls hP hD hS hl
  rw [show j = (nI j).toNatClampNeg from (nI_clamp (by omega)).symm] at h
  exact va_iald (D := jD C) E.1 E.2.1 E.2.2.2.2.2.1 hP q 2 hq rfl (by rw [hlen]; exact vp_in_nI hj hN) hd (by rw [nI_clamp (by omega)] at h ⊢; exact h)
theorem j_zald (E : jE C cc nL Ts own ret rm) (hd : decode cc pc = .ok (.baload, 1)) {a N j : Nat} {i : Int32} (hL : a ∈ (jG C).1) (hlen : (jG C).2.2.1 a = N) (hi : i = nI j) (hj : j < N) (hN : N < 2 ^ 31) (hK : (jG C).2.1 a = 11) (kk : jW C nL (pc + 1) lv (.int (M.1 a j) :: st) X M kc ks Q) : jW C nL pc lv (.int i :: .ref a :: st) X M kc ks Q := fun H locs ls hP hD hS hl => by
  obtain ⟨q, hq⟩ := pW_get (jcy C) X (jG C) M hL
  rw [pcell_Z (jcy C) (jG C) M hK] at hq
  subst hi
  have h := kk H locs ls hP hD hS hl
  rw [show j = (nI j).toNatClampNeg from (nI_clamp (by omega)).symm] at h
  exact va_zald (D := jD C) E.1 E.2.1 E.2.2.2.2.2.1 hP q 3 hq rfl (by rw [hlen]; exact vp_in_nI hj hN) hd (by rw [nI_clamp (by omega)] at h ⊢; exact h)
theorem j_cald (E : jE C cc nL Ts own ret rm) (hd : decode cc pc = .ok (.caload, 1)) {a N j : Nat} {i : Int32} (hL : a ∈ (jG C).1) (hlen : (jG C).2.2.1 a = N) (hi : i = nI j) (hj : j < N) (hN : N < 2 ^ 31) (hK : (jG C).2.1 a = 8) (kk : jW C nL (pc + 1) lv (.int (M.1 a j) :: st) X M kc ks Q) : jW C nL pc lv (.int i :: .ref a :: st) X M kc ks Q := fun H locs ls hP hD hS hl => by
  obtain ⟨q, hq⟩ := pW_get (jcy C) X (jG C) M hL
  rw [pcell_C (jcy C) (jG C) M hK] at hq
  subst hi
  have h := kk H locs ls hP hD hS hl
  rw [show j = (nI j).toNatClampNeg from (nI_clamp (by omega)).symm] at h
  exact va_cald (D := jD C) E.1 E.2.1 E.2.2.2.2.2.1 hP q 0 hq rfl (by rw [hlen]; exact vp_in_nI hj hN) hd (by rw [nI_clamp (by omega)] at h ⊢; exact h)
theorem j_fald (E : jE C cc nL Ts own ret rm) (hd : decode cc pc = .ok (.faload, 1)) {a N j : Nat} {i : Int32} (hL : a ∈ (jG C).1) (hlen : (jG C).2.2.1 a = N) (hi : i = nI j) (hj : j < N) (hN : N < 2 ^ 31) (hK : (jG C).2.1 a = 9) (kk : jW C nL (pc + 1) lv (.float (M.2 a j) :: st) X M kc ks Q) : jW C nL pc lv (.int i :: .ref a :: st) X M kc ks Q := fun H locs ls hP hD hS hl => by
  obtain ⟨q, hq⟩ := pW_get (jcy C) X (jG C) M hL
  rw [pcell_F (jcy C) (jG C) M hK] at hq
  subst hi
  have h := kk H locs ls hP hD hS hl
  rw [show j = (nI j).toNatClampNeg from (nI_clamp (by omega)).symm] at h
  exact va_fald (D := jD C) E.1 E.2.1 E.2.2.2.2.2.1 hP q 1 hq rfl (by rw [hlen]; exact vp_in_nI hj hN) hd (by rw [nI_clamp (by omega)] at h ⊢; exact h)
theorem j_iast (E : jE C cc nL Ts own ret rm) {v : Int32} (hd : decode cc pc = .ok (.iastore, 1)) {a N j : Nat} {i : Int32} (hL : a ∈ (jG C).1) (hlen : (jG C).2.2.1 a = N) (hi : i = nI j) (hj : j < N) (hN : N < 2 ^ 31) (hK : (jG C).2.1 a = 10) (kk : jW C nL (pc + 1) lv st X (pI M a j v) kc ks Q) : jW C nL pc lv (.int v :: .int i :: .ref a :: st) X M kc ks Q := fun H locs ls hP hD hS hl => by
  obtain ⟨q, hq⟩ := pW_get (jcy C) X (jG C) M hL
  have hq2 := hq
  rw [pcell_I (jcy C) (jG C) M hK] at hq2
  subst hi
  have hset : (pW (jcy C) X (jG C) M).set q (a, .inl (jcy C 2, (jG C).2.2.1 a, .inl (upd (M.1 a) j v))) = pW (jcy C) X (jG C) (pI M a j v) := by
    refine pW_set hD hL hq ?_ (fun b hb => ?_)
    · rw [pcell_I (jcy C) (jG C) _ hK]
      simp only [pI, va_up, if_true]
      rfl
    · simp [pI, va_up, hb]
  refine va_iast (D := jD C) E.1 E.2.1 E.2.2.2.2.2.1 hP hD hS q 2 hq2 rfl (by rw [hlen]; exact vp_in_nI hj hN) hd (fun H locs hP hD hS => ?_)
  rw [nI_clamp (by omega), hset] at hP hD
  exact kk H locs ls hP hD hS hl
theorem j_zast (E : jE C cc nL Ts own ret rm) {v : Int32} (hd : decode cc pc = .ok (.bastore, 1)) {a N j : Nat} {i : Int32} (hL : a ∈ (jG C).1) (hlen : (jG C).2.2.1 a = N) (hi : i = nI j) (hj : j < N) (hN : N < 2 ^ 31) (hK : (jG C).2.1 a = 11) (hnar : vp_nar .boolean v = v) (kk : jW C nL (pc + 1) lv st X (pI M a j v) kc ks Q) : jW C nL pc lv (.int v :: .int i :: .ref a :: st) X M kc ks Q := fun H locs ls hP hD hS hl => by
  obtain ⟨q, hq⟩ := pW_get (jcy C) X (jG C) M hL
  have hq2 := hq
  rw [pcell_Z (jcy C) (jG C) M hK] at hq2
  subst hi
  have hset : (pW (jcy C) X (jG C) M).set q (a, .inl (jcy C 3, (jG C).2.2.1 a, .inl (upd (M.1 a) j v))) = pW (jcy C) X (jG C) (pI M a j v) := by
    refine pW_set hD hL hq ?_ (fun b hb => ?_)
    · rw [pcell_Z (jcy C) (jG C) _ hK]
      simp only [pI, va_up, if_true]
      rfl
    · simp [pI, va_up, hb]
  refine va_zast (D := jD C) E.1 E.2.1 E.2.2.2.2.2.1 hP hD hS q 3 hq2 rfl (by rw [hlen]; exact vp_in_nI hj hN) hd (fun H locs hP hD hS => ?_)
  rw [hnar, nI_clamp (by omega), hset] at hP hD
  exact kk H locs ls hP hD hS hl
theorem j_cast (E : jE C cc nL Ts own ret rm) {v : Int32} (hd : decode cc pc = .ok (.castore, 1)) {a N j : Nat} {i : Int32} (hL : a ∈ (jG C).1) (hlen : (jG C).2.2.1 a = N) (hi : i = nI j) (hj : j < N) (hN : N < 2 ^ 31) (hK : (jG C).2.1 a = 8) (hnar : vp_nar .char v = v) (kk : jW C nL (pc + 1) lv st X (pI M a j v) kc ks Q) : jW C nL pc lv (.int v :: .int i :: .ref a :: st) X M kc ks Q := fun H locs ls hP hD hS hl => by
  obtain ⟨q, hq⟩ := pW_get (jcy C) X (jG C) M hL
  have hq2 := hq
  rw [pcell_C (jcy C) (jG C) M hK] at hq2
  subst hi
  have hset : (pW (jcy C) X (jG C) M).set q (a, .inl (jcy C 0, (jG C).2.2.1 a, .inl (upd (M.1 a) j v))) = pW (jcy C) X (jG C) (pI M a j v) := by
    refine pW_set hD hL hq ?_ (fun b hb => ?_)
    · rw [pcell_C (jcy C) (jG C) _ hK]
      simp only [pI, va_up, if_true]
      rfl
    · simp [pI, va_up, hb]
  refine va_cast (D := jD C) E.1 E.2.1 E.2.2.2.2.2.1 hP hD hS q 0 hq2 rfl (by rw [hlen]; exact vp_in_nI hj hN) hd (fun H locs hP hD hS => ?_)
  rw [hnar, nI_clamp (by omega), hset] at hP hD
  exact kk H locs ls hP hD hS hl
theorem j_fast (E : jE C cc nL Ts own ret rm) {v : UInt32} (hd : decode cc pc = .ok (.fastore, 1)) {a N j : Nat} {i : Int32} (hL : a ∈ (jG C).1) (hlen : (jG C).2.2.1 a = N) (hi : i = nI j) (hj : j < N) (hN : N < 2 ^ 31) (hK : (jG C).2.1 a = 9) (kk : jW C nL (pc + 1) lv st X (pF M a j v) kc ks Q) : jW C nL pc lv (.float v :: .int i :: .ref a :: st) X M kc ks Q := fun H locs ls hP hD hS hl => by
  obtain ⟨q, hq⟩ := pW_get (jcy C) X (jG C) M hL
  have hq2 := hq
  rw [pcell_F (jcy C) (jG C) M hK] at hq2
  subst hi
  have hset : (pW (jcy C) X (jG C) M).set q (a, .inl (jcy C 1, (jG C).2.2.1 a, .inr (.inr (.inl (vf_upd (M.2 a) j v))))) = pW (jcy C) X (jG C) (pF M a j v) := by
    refine pW_set hD hL hq ?_ (fun b hb => ?_)
    · rw [pcell_F (jcy C) (jG C) _ hK]
      simp only [pF, va_up, if_true]
      rfl
    · simp [pF, va_up, hb]
  refine va_fast (D := jD C) E.1 E.2.1 E.2.2.2.2.2.1 hP hD hS q 1 hq2 rfl (by rw [hlen]; exact vp_in_nI hj hN) hd (fun H locs hP hD hS => ?_)
  rw [nI_clamp (by omega), hset] at hP hD
  exact kk H locs ls hP hD hS hl
theorem j_aldP (E : jE C cc nL Ts own ret rm) {b : Nat} (hd : decode cc pc = .ok (.aaload, 1)) {a N j : Nat} {i : Int32} (hL : a ∈ (jG C).1) (hlen : (jG C).2.2.1 a = N) (hi : i = nI j) (hj : j < N) (hN : N < 2 ^ 31) (hK : (jG C).2.1 a = 12) (hp : (jG C).2.2.2 a j = some b) (kk : jW C nL (pc + 1) lv (.ref b :: st) X M kc ks Q) : jW C nL pc lv (.int i :: .ref a :: st) X M kc ks Q := fun H locs ls hP hD hS hl => by
  obtain ⟨q, hq⟩ := pW_get (jcy C) X (jG C) M hL
  rw [pcell_P (jcy C) (jG C) M hK (by decide)] at hq
  subst hi
  refine va_aldq (D := jD C) (C := RX2) E.1 E.2.1 E.2.2.2.2.2.1 hP q 4 hq rfl (by rw [hlen]; exact vp_in_nI hj hN) hd ?_
  rw [nI_clamp (by omega), hp]
  exact kk H locs ls hP hD hS hl
theorem j_lenP (E : jE C cc nL Ts own ret rm) {a N : Nat} {v : Int32} (hd : decode cc pc = .ok (.arraylength, 1)) (hL : a ∈ (jG C).1) (hlen : (jG C).2.2.1 a = N) (hK : (jG C).2.1 a = 12) (hv : nI N = v) (kk : jW C nL (pc + 1) lv (.int v :: st) X M kc ks Q) : jW C nL pc lv (.ref a :: st) X M kc ks Q := fun H locs ls hP hD hS hl => by
  obtain ⟨q, hq⟩ := pW_get (jcy C) X (jG C) M hL
  rw [pcell_P (jcy C) (jG C) M hK (by decide)] at hq
  exact va_alen (D := jD C) (ty := .object RX2) E.1 E.2.1 E.2.2.2.2.2.1 hP q 4 hq rfl (by rw [← hv, ← hlen]; rfl) hd (kk H locs ls hP hD hS hl)
theorem j_aldR (E : jE C cc nL Ts own ret rm) {b : Nat} (hd : decode cc pc = .ok (.aaload, 1)) {a N j : Nat} {i : Int32} (hL : a ∈ (jG C).1) (hlen : (jG C).2.2.1 a = N) (hi : i = nI j) (hj : j < N) (hN : N < 2 ^ 31) (hK : (jG C).2.1 a = 13) (hp : (jG C).2.2.2 a j = some b) (kk : jW C nL (pc + 1) lv (.ref b :: st) X M kc ks Q) : jW C nL pc lv (.int i :: .ref a :: st) X M kc ks Q := fun H locs ls hP hD hS hl => by
  obtain ⟨q, hq⟩ := pW_get (jcy C) X (jG C) M hL
  rw [pcell_P (jcy C) (jG C) M hK (by decide)] at hq
  subst hi
  refine va_aldq (D := jD C) (C := RX4) E.1 E.2.1 E.2.2.2.2.2.1 hP q 5 hq rfl (by rw [hlen]; exact vp_in_nI hj hN) hd ?_
  rw [nI_clamp (by omega), hp]
  exact kk H locs ls hP hD hS hl
theorem j_lenR (E : jE C cc nL Ts own ret rm) {a N : Nat} {v : Int32} (hd : decode cc pc = .ok (.arraylength, 1)) (hL : a ∈ (jG C).1) (hlen : (jG C).2.2.1 a = N) (hK : (jG C).2.1 a = 13) (hv : nI N = v) (kk : jW C nL (pc + 1) lv (.int v :: st) X M kc ks Q) : jW C nL pc lv (.ref a :: st) X M kc ks Q := fun H locs ls hP hD hS hl => by
  obtain ⟨q, hq⟩ := pW_get (jcy C) X (jG C) M hL
  rw [pcell_P (jcy C) (jG C) M hK (by decide)] at hq
  exact va_alen (D := jD C) (ty := .object RX4) E.1 E.2.1 E.2.2.2.2.2.1 hP q 5 hq rfl (by rw [← hv, ← hlen]; rfl) hd (kk H locs ls hP hD hS hl)
theorem j_aldZ (E : jE C cc nL Ts own ret rm) {b : Nat} (hd : decode cc pc = .ok (.aaload, 1)) {a N j : Nat} {i : Int32} (hL : a ∈ (jG C).1) (hlen : (jG C).2.2.1 a = N) (hi : i = nI j) (hj : j < N) (hN : N < 2 ^ 31) (hK : (jG C).2.1 a = 14) (hp : (jG C).2.2.2 a j = some b) (kk : jW C nL (pc + 1) lv (.ref b :: st) X M kc ks Q) : jW C nL pc lv (.int i :: .ref a :: st) X M kc ks Q := fun H locs ls hP hD hS hl => by
  obtain ⟨q, hq⟩ := pW_get (jcy C) X (jG C) M hL
  rw [pcell_P (jcy C) (jG C) M hK (by decide)] at hq
  subst hi
  refine va_aldq (D := jD C) (C := RX5) E.1 E.2.1 E.2.2.2.2.2.1 hP q 6 hq rfl (by rw [hlen]; exact vp_in_nI hj hN) hd ?_
  rw [nI_clamp (by omega), hp]
  exact kk H locs ls hP hD hS hl
theorem j_lenZ (E : jE C cc nL Ts own ret rm) {a N : Nat} {v : Int32} (hd : decode cc pc = .ok (.arraylength, 1)) (hL : a ∈ (jG C).1) (hlen : (jG C).2.2.1 a = N) (hK : (jG C).2.1 a = 14) (hv : nI N = v) (kk : jW C nL (pc + 1) lv (.int v :: st) X M kc ks Q) : jW C nL pc lv (.ref a :: st) X M kc ks Q := fun H locs ls hP hD hS hl => by
  obtain ⟨q, hq⟩ := pW_get (jcy C) X (jG C) M hL
  rw [pcell_P (jcy C) (jG C) M hK (by decide)] at hq
  exact va_alen (D := jD C) (ty := .object RX5) E.1 E.2.1 E.2.2.2.2.2.1 hP q 6 hq rfl (by rw [← hv, ← hlen]; rfl) hd (kk H locs ls hP hD hS hl)
theorem j_min (E : jE C cc nL Ts own ret rm) {index : Nat} {x y : Int32} (hd : decode cc pc = .ok (.invokestatic index, 3)) (h1 : Cond.methodLink own index Lib.Math.min.name ∈ Ts) (h2 : Cond.static Lib.Math.min.name ∈ Ts) (h3 : Cond.initialized "java/lang/Math" ∈ Ts) (h4 : Cond.code Lib.Math.min.name Lib.Math.min.code 2 (some .int) ∈ Ts) (hf : 1 ≤ rm.frames) (hlo : (st.map fun v => v.category).sum + 13 ≤ rm.locals) (hkc : kc ≤ rm.cells) (hks : ks ≤ rm.slots) (kk : jW C nL (pc + 3) lv (.int (if y < x then y else x) :: st) X M kc ks Q) : jW C nL pc lv (.int y :: .int x :: st) X M kc ks Q := fun H locs ls hP hD hS hl => by
  have hR := E.2.2.2.2.2.2.2.2.2.2
  refine va_mmin E.1 E.2.1 (E.2.2.1.trans hl.1.symm) E.2.2.2.1 (E.2.2.2.2.1 _ h1) (E.2.2.2.2.1 _ h2) (E.2.2.2.2.1 _ h3) (E.2.2.2.2.1 _ h4) (by rw [hR]; exact hf) (by rw [hR]; exact hlo) (by rw [hR]; exact hkc) (by rw [hR]; exact hks) hd (kk H locs ls hP hD hS hl)
theorem j_copyI (E : jE C cc nL Ts own ret rm) {index : Nat} {sp dp n : Int32} {a N spN dpN nN : Nat} (hd : decode cc pc = .ok (.invokestatic index, 3)) (h1 : Cond.methodLink own index arraycopyName ∈ Ts) (h2 : Cond.native arraycopyName ∈ Ts) (h3 : Cond.static arraycopyName ∈ Ts) (h4 : Cond.initialized "java/lang/System" ∈ Ts) (hf : 1 ≤ rm.frames) (hlo : (st.map fun v => v.category).sum + (nativeFrameWords "java/lang/System" "arraycopy" 5 + 11) ≤ rm.locals)
    (hL : a ∈ (jG C).1) (hlen : (jG C).2.2.1 a = N) (hK : (jG C).2.1 a = 10) (hsp : sp = nI spN) (hdp : dp = nI dpN) (hn : n = nI nN) (hb : spN + nN ≤ N ∧ dpN + nN ≤ N ∧ N < 2 ^ 31) (kk : jW C nL (pc + 3) lv st X (pR M a (va_cpy (M.1 a) (M.1 a) spN dpN nN)) kc ks Q) : jW C nL pc lv (.int n :: .int dp :: .ref a :: .int sp :: .ref a :: st) X M kc ks Q := fun H locs ls hP hD hS hl => by
  have hR := E.2.2.2.2.2.2.2.2.2.2
  obtain ⟨q, hq⟩ := pW_get (jcy C) X (jG C) M hL
  have hq2 := hq
  rw [pcell_I (jcy C) (jG C) M hK] at hq2
  subst hsp; subst hdp; subst hn
  have c1 : (nI spN).toNatClampNeg = spN := nI_clamp (by omega)
  have c2 : (nI dpN).toNatClampNeg = dpN := nI_clamp (by omega)
  have c3 : (nI nN).toNatClampNeg = nN := nI_clamp (by omega)
  have hset : (pW (jcy C) X (jG C) M).set q (a, .inl (jcy C 2, (jG C).2.2.1 a, .inl (va_cpy (M.1 a) (M.1 a) spN dpN nN))) = pW (jcy C) X (jG C) (pR M a (va_cpy (M.1 a) (M.1 a) spN dpN nN)) := by
    refine pW_set hD hL hq ?_ (fun b hb => ?_)
    · rw [pcell_I (jcy C) (jG C) _ hK]
      simp only [pR, va_up, if_true]
    · simp [pR, va_up, hb]
  refine va_copyi (D := jD C) (ty := .int) E.1 E.2.1 (E.2.2.1.trans hl.1.symm) E.2.2.2.1 (E.2.2.2.2.1 _ h1) (E.2.2.2.2.1 _ h2) (E.2.2.2.2.1 _ h3) (E.2.2.2.2.1 _ h4) E.2.2.2.2.2.1 hP hD hS q q 2 2 hq2 hq2 rfl rfl rfl (nI_pos (by omega)) (nI_pos (by omega)) (nI_pos (by omega)) (by rw [c1, c3, hlen]; omega) (by rw [c2, c3, hlen]; omega) (fun i _ => rfl) (by rw [hR]; exact hf) (by rw [hR]; exact hlo) hd (fun H locs hP hD hS => ?_)
  rw [c1, c2, c3, hset] at hP hD
  exact kk H locs ls hP hD hS hl
end J
/-! CONTRACTS: a method y with the arguments av, in the world X and the pool (G, M), returns r, and the pool's memory is M2, the world X2; nothing else has changed, nothing is new. -/
def jQ (D : va_G) (cy : Nat → ClassId) (X : va_W) (G : pG) (M : pM) (A : Nat → Prop) (r : Option Value) : Array Value → State → Outcome → State → Prop := fun _ st oc t =>
  (oc = .returned r ∧ va_P D vwCl (pW cy X G M) t.heap ∧ va_K D vwCl (ptys cy) t ∧ va_D A (pW cy X G M)) ∧ va_F A st t
def jPre (D : va_G) (cy : Nat → ClassId) (X : va_W) (G : pG) (M : pM) (sz : Nat) (U : State) : Prop := U.heap.size = sz ∧ va_P D vwCl (pW cy X G M) U.heap ∧ va_K D vwCl (ptys cy) U ∧ va_D (fun _ => True) (pW cy X G M)
def jK (l : Launch) (y : MethodName) (ws : List Cond) (rm : Room) (D : va_G) (cy : Nat → ClassId) (X : va_W) (G : pG) (M : pM) (av : List Value) (r : Option Value) (X2 : va_W) (M2 : pM) : Prop :=
  ∀ sz : Nat, Met l y ws rm (va_Pc av (jPre D cy X G M sz)) (jQ D cy X2 G M2 (va_A (pW cy X G M) sz) r) 0 0 (va_A (pW cy X G M) sz)
/-- what a method's end must show -/
def jZ (C : jC) (X : va_W) (M : pM) (r : Option Value) (kc ks : Nat) : State → Prop := MQ (jb C) (jQ (jD C) (jcy C) X (jG C) M (jA C) r) (ja C) (js C) kc ks (jA C)
theorem jPre_blind {D : va_G} {cy : Nat → ClassId} {X : va_W} {G : pG} {M : pM} {sz : Nat} {av : List Value} : FrameBlind (va_Pc av (jPre D cy X G M sz)) := fun a U g mk q => by
  obtain ⟨q0, q1, qP, qK, qD⟩ := q
  exact ⟨q0, q1, qP, va_K.moved (u := U) (U := U.calling g mk a) (Vm.Alike.refl U.vm) qK, qD⟩
theorem jK_of {l : Launch} {y : MethodName} {ws ws' : List Cond} {rm : Room} {D : va_G} {cy : Nat → ClassId} {X : va_W} {G : pG} {M : pM} {av : List Value} {r : Option Value} {X2 : va_W} {M2 : pM} {cc : ByteArray} {maxL : Nat} {ret : Option FieldType} {own : String}
    (hy : plainName y.cls = true) (ho : y.cls = own) (hw : ws = Cond.code y cc maxL ret :: ws') (hav : (lg_sl av).length ≤ maxL)
    (body : ∀ C : jC, jE C cc maxL ws own ret rm → jl C = l → jD C = D → jcy C = cy → jG C = G → jW C maxL 0 (lv_args 0 av) [] X M 0 0 (jZ C X2 M2 r 0 0)) : jK l y ws rm D cy X G M av r X2 M2 := by
  intro sz
  refine Met.ofW (cc := cc) (maxL := maxL) (ret := ret) hy hw ?_
  intro p e s m args below meth c s₁ B hml hv
  obtain ⟨rfl, hsz, hP, hK, hD0⟩ := hv
  have hts := atoms_spec (ws := ws) B.pre
  have hown : s.vm.findClass own = some m.cls := by rw [← ho]; exact findClass_of_methodNamed B.named
  subst hsz
  have hD := hD0.self (sz := s.heap.size)
  have hA : ∀ q : Nat, s.heap.size ≤ q → va_A (pW cy X G M) s.heap.size q := fun q h => Or.inr h
  have hl := lv_entry av (n := maxL) hav
  rw [lg_entry_eq]
  exact body ((p, l, e, (headSpec ws rm).room, s, m, av.toArray, below, meth, c), (D, cy, G, va_A (pW cy X G M) s.heap.size, s.heap)) ⟨B.exec, B.bytes, hml, hown, hts, hK, hA, B.notSynchronized, B.returns, rfl, rfl⟩ rfl rfl rfl rfl s.heap [] _ hP hD va_S.rf hl
section JR
variable {C : jC} {cc : ByteArray} {nL : Nat} {Ts : List Cond} {own : String} {ret : Option FieldType} {rm : Room} {pc : Nat} {lv : List (Nat × Value)} {X X2 : va_W} {M M2 : pM} {kc ks : Nat}
theorem j_iret (E : jE C cc nL Ts own (some .int) rm) {v v2 : Int32} (hd : decode cc pc = .ok (.ireturn, 1)) (hv : v = v2) (hX : X = X2) (hM : M = M2) : jW C nL pc lv [.int v] X M kc ks (jZ C X2 M2 (some (.int v2)) kc ks) := fun H locs ls hP hD hS hl => by
  subst hv; subst hX; subst hM
  have hb := E.2.2.2.2.2.2.2.1
  exact W.iret E.1 E.2.1 E.2.2.2.2.2.2.2.2.1 (fun t ht hW => ⟨⟨rfl, by rw [ht]; exact hP, va_K.moved hW.alike E.2.2.2.2.2.1, hD⟩, by have hS9 := hS; rw [E.2.2.2.2.2.2.2.2.2.1] at hS9; exact hS9.F ht⟩) hS.2.2 hd hb
theorem j_zret (E : jE C cc nL Ts own (some .boolean) rm) {v v2 : Int32} (hd : decode cc pc = .ok (.ireturn, 1)) (hn : narrow .boolean (.int v) = .int v) (hv : v = v2) (hX : X = X2) (hM : M = M2) : jW C nL pc lv [.int v] X M kc ks (jZ C X2 M2 (some (.int v2)) kc ks) := fun H locs ls hP hD hS hl => by
  subst hv; subst hX; subst hM
  have hb := E.2.2.2.2.2.2.2.1
  exact W.zret E.1 E.2.1 E.2.2.2.2.2.2.2.2.1 hn (fun t ht hW => ⟨⟨rfl, by rw [ht]; exact hP, va_K.moved hW.alike E.2.2.2.2.2.1, hD⟩, by have hS9 := hS; rw [E.2.2.2.2.2.2.2.2.2.1] at hS9; exact hS9.F ht⟩) hS.2.2 hd hb
theorem j_cret (E : jE C cc nL Ts own (some .char) rm) {v v2 : Int32} (hd : decode cc pc = .ok (.ireturn, 1)) (hn : narrow .char (.int v) = .int v) (hv : v = v2) (hX : X = X2) (hM : M = M2) : jW C nL pc lv [.int v] X M kc ks (jZ C X2 M2 (some (.int v2)) kc ks) := fun H locs ls hP hD hS hl => by
  subst hv; subst hX; subst hM
  have hb := E.2.2.2.2.2.2.2.1
  exact W.zret E.1 E.2.1 E.2.2.2.2.2.2.2.2.1 hn (fun t ht hW => ⟨⟨rfl, by rw [ht]; exact hP, va_K.moved hW.alike E.2.2.2.2.2.1, hD⟩, by have hS9 := hS; rw [E.2.2.2.2.2.2.2.2.2.1] at hS9; exact hS9.F ht⟩) hS.2.2 hd hb
theorem j_fret (E : jE C cc nL Ts own (some .float) rm) {v v2 : UInt32} (hd : decode cc pc = .ok (.freturn, 1)) (hv : v = v2) (hX : X = X2) (hM : M = M2) : jW C nL pc lv [.float v] X M kc ks (jZ C X2 M2 (some (.float v2)) kc ks) := fun H locs ls hP hD hS hl => by
  subst hv; subst hX; subst hM
  have hb := E.2.2.2.2.2.2.2.1
  exact W.fret E.1 E.2.1 E.2.2.2.2.2.2.2.2.1 (fun t ht hW => ⟨⟨rfl, by rw [ht]; exact hP, va_K.moved hW.alike E.2.2.2.2.2.1, hD⟩, by have hS9 := hS; rw [E.2.2.2.2.2.2.2.2.2.1] at hS9; exact hS9.F ht⟩) hS.2.2 hd hb
theorem j_vret (E : jE C cc nL Ts own none rm) (hd : decode cc pc = .ok (.return_, 1)) (hX : X = X2) (hM : M = M2) : jW C nL pc lv [] X M kc ks (jZ C X2 M2 none kc ks) := fun H locs ls hP hD hS hl => by
  subst hX; subst hM
  have hb := E.2.2.2.2.2.2.2.1
  exact W.vret E.1 E.2.1 E.2.2.2.2.2.2.2.2.1 (fun t ht hW => ⟨⟨rfl, by rw [ht]; exact hP, va_K.moved hW.alike E.2.2.2.2.2.1, hD⟩, by have hS9 := hS; rw [E.2.2.2.2.2.2.2.2.2.1] at hS9; exact hS9.F ht⟩) hS.2.2 hd hb
end JR
section JCall
variable {p : Program} {l : Launch} {e : Env} {R : Room} {s : State} {m : MethodId} {args : Array Value} {below : List Frame} {meth : Method} {c : Code} {H H0 : Heap} {locs : List Loc} {cells slots pc : Nat} {ls : Array Slot} {rest st0 : List Value} {Q : State → Prop} {a : Array Value} {free : Addr → Prop} {A0 A1 : Nat → Prop} {D : va_G} {cy : Nat → ClassId} {X : va_W} {G : pG} {M : pM} {r : Option Value}
theorem jx_call (hr : va_Run p l e R s m args below meth c H locs cells slots 0 0 (F0 m pc ls st0) rest (jQ D cy X G M A1 r a) free) (hS : va_S A0 H0 H locs) (hA : ∀ q, q < H.size → A1 q → A0 q) (hf : ∀ q, free q → A0 q)
    (kk : ∀ (H1 : Heap) (locs1 : List Loc), va_P D vwCl (pW cy X G M) H1 → va_S A0 H0 H1 locs1 → W p l e R s m args below meth c H1 locs1 cells slots Q (F0 m (pc + 3) ls (r.toList ++ rest))) : W p l e R s m args below meth c H locs cells slots Q (F0 m pc ls st0) := by
  intro T hT X0
  obtain ⟨v, st₀, t, T', L, h0, X', hL, e1, e2, ⟨⟨hv, hP, hK, hD⟩, hz, hk⟩, st⟩ := hr T hT X0
  cases hv
  rw [h0] at hz hk
  obtain ⟨t2, a1, b1⟩ := kk T'.heap (locs ++ L) (by rw [e1]; exact hP)
    ⟨Nat.le_trans hS.1 (by rw [e1]; exact hz), fun q h1 h2 => by rw [e1, hk q (Nat.lt_of_lt_of_le h1 hS.1) (fun z => h2 (hA q (Nat.lt_of_lt_of_le h1 hS.1) z))]; exact hS.2.1 q h1 h2, fun q hq => by
      rcases List.mem_append.mp hq with h | h
      · exact hS.2.2 q h
      · exact hf _ (hL q h)⟩ T' rfl X'
  exact ⟨t2, st t2 a1, b1⟩
end JCall
section JC2
variable {C : jC} {cc : ByteArray} {nL : Nat} {Ts : List Cond} {own : String} {ret : Option FieldType} {rm : Room} {pc : Nat} {lv : List (Nat × Value)} {st rest : List Value} {X X2 : va_W} {M M2 : pM} {kc ks : Nat} {Q : State → Prop}
theorem jA_sub {A0 : Nat → Prop} {ws : va_W} {H0 H : Heap} {locs : List Loc} (hD : va_D A0 ws) (hS : va_S A0 H0 H locs) (hA : ∀ q, H0.size ≤ q → A0 q) : ∀ q, va_A ws H.size q → A0 q := by
  intro q hq
  rcases hq with ⟨k, e, hk⟩ | hq
  · exact hD.2 k _ hk
  · exact hA q (Nat.le_trans hS.1 hq)
theorem jD_addr {A : Nat → Prop} {ws ws' : va_W} (hD : va_D A ws) (h : ws.map Prod.fst = ws'.map Prod.fst) : va_D A ws' := by
  have key : ∀ (k : Nat) (q : Nat × va_E), ws'[k]? = some q → ∃ e, ws[k]? = some (q.1, e) := by
    intro k q hq
    have h1 : (ws'.map Prod.fst)[k]? = some q.1 := by rw [List.getElem?_map, hq]; rfl
    rw [← h, List.getElem?_map] at h1
    cases h2 : ws[k]? with
    | none => rw [h2] at h1; cases h1
    | some z =>
      rw [h2] at h1
      have h3 : z.1 = q.1 := by simpa using h1
      exact ⟨z.2, by rw [← h3]⟩
  constructor
  · intro i j p q hi hj h
    obtain ⟨e1, h1⟩ := key i p hi
    obtain ⟨e2, h2⟩ := key j q hj
    exact hD.1 i j _ _ h1 h2 h
  · intro k q hq
    obtain ⟨e1, h1⟩ := key k q hq
    exact hD.2 k (q.1, e1) h1
theorem pW_addr {cy : Nat → ClassId} {X X2 : va_W} {G : pG} {M M2 : pM} (hX : X.map Prod.fst = X2.map Prod.fst) : (pW cy X G M).map Prod.fst = (pW cy X2 G M2).map Prod.fst := by
  simp [pW, va_pl, hX, Function.comp_def]
/-- a call of an instance method, by its contract -/
theorem j_callV (E : jE C cc nL Ts own ret rm) {y : MethodName} {bytes : ByteArray} {maxL n index ci N b : Nat} {retY : Option FieldType} {wsY wsY' : List Cond} {rmY : Room} {Cn : String} {T : u_T} {As : List Value} {r : Option Value} (hM : jK (jl C) y wsY rmY (jD C) (jcy C) X (jG C) M (.ref b :: As) r X2 M2)
    (hd : decode cc pc = .ok (.invokevirtual index, 3)) (hg : GoodIn Ts (wsV own index Cn y wsY)) (hw : wsY = Cond.code y bytes maxL retY :: wsY') (hy : y.cls = Cn ∧ y.cls ≠ "java/lang/invoke/MethodHandle" ∧ y.cls ≠ "java/lang/invoke/VarHandle" ∧ (parseMethodDescriptor y.desc).map (fun d => d.parameters.length) = some n)
    (hrm : rmY.cells = 0 ∧ rmY.slots = 0 ∧ rmY.frames + 1 ≤ rm.frames ∧ 8 + (maxL + 11) + rmY.locals ≤ rm.locals) (hk : kc ≤ rm.cells ∧ ks ≤ rm.slots) (hL : b ∈ (jG C).1) (hK : (jG C).2.1 b = ci) (hcl : vwCl[ci]? = some (Cn, T, N)) (hn : As.length = n) (hst : st = As.reverse ++ .ref b :: rest) (hrest : (rest.map fun v => v.category).sum ≤ 8) (hX : X.map Prod.fst = X2.map Prod.fst)
    (kk : jW C nL (pc + 3) lv (r.toList ++ rest) X2 M2 kc ks Q) : jW C nL pc lv st X M kc ks Q := fun H locs ls hP hD hS hl => by
  have hR := E.2.2.2.2.2.2.2.2.2.2
  obtain ⟨q, hq⟩ := pW_get (jcy C) X (jG C) M hL
  rw [pcell_o (jcy C) (jG C) M hK (List.getElem?_eq_some_iff.mp hcl).1] at hq
  subst hst
  have hFc := jA_sub hD hS E.2.2.2.2.2.2.1
  refine jx_call (A0 := jA C) (H0 := jH C) (va_runV (As := As) (rest := rest) (n := n) (C := Cn) ⟨E.1, E.2.1, E.2.2.1, E.2.2.2.1, E.2.2.2.2.1⟩ (hM H.size) (cwV n E.2.2.2.2.1 hg hw hrm.1 hrm.2.1 hy ⟨by rw [hR]; exact hrm.2.2.1, by rw [hR]; exact hrm.2.2.2⟩) ⟨jPre_blind, va_recv E.2.2.2.2.2.1 hP hcl hq, fun U hU hW => ⟨rfl, by rw [hU], by rw [hU]; exact hP, va_K.moved hW.alike E.2.2.2.2.2.1, hD.weaken (fun _ _ _ _ => trivial)⟩⟩ rfl hn hl.1 rfl (lv_room hrest) hd ⟨by rw [hR]; exact hk.1, by rw [hR]; exact hk.2⟩) hS (fun q _ h => hFc q h) hFc (fun H1 locs1 hP1 hS1 => ?_)
  exact kk H1 locs1 ls hP1 (jD_addr hD (pW_addr hX)) hS1 hl
/-- a call of a static method, by its contract -/
theorem j_callS (E : jE C cc nL Ts own ret rm) {y : MethodName} {bytes : ByteArray} {maxL n index : Nat} {retY : Option FieldType} {wsY wsY' : List Cond} {rmY : Room} {As : List Value} {r : Option Value} (hM : jK (jl C) y wsY rmY (jD C) (jcy C) X (jG C) M As r X2 M2)
    (hd : decode cc pc = .ok (.invokestatic index, 3)) (hg : GoodIn Ts (va_wsS own index y wsY)) (hw : wsY = Cond.code y bytes maxL retY :: wsY') (hy : y.cls ≠ "java/lang/invoke/MethodHandle" ∧ y.cls ≠ "java/lang/invoke/VarHandle" ∧ (parseMethodDescriptor y.desc).map (fun d => d.parameters.length) = some n)
    (hrm : rmY.cells = 0 ∧ rmY.slots = 0 ∧ rmY.frames + 1 ≤ rm.frames ∧ 8 + (maxL + 11) + rmY.locals ≤ rm.locals) (hk : kc ≤ rm.cells ∧ ks ≤ rm.slots) (hn : As.length = n) (hst : st = As.reverse ++ rest) (hrest : (rest.map fun v => v.category).sum ≤ 8) (hX : X.map Prod.fst = X2.map Prod.fst)
    (kk : jW C nL (pc + 3) lv (r.toList ++ rest) X2 M2 kc ks Q) : jW C nL pc lv st X M kc ks Q := fun H locs ls hP hD hS hl => by
  have hR := E.2.2.2.2.2.2.2.2.2.2
  subst hst
  have hFc := jA_sub hD hS E.2.2.2.2.2.2.1
  refine jx_call (A0 := jA C) (H0 := jH C) (va_runS (As := As) (rest := rest) (n := n) ⟨E.1, E.2.1, E.2.2.1, E.2.2.2.1, E.2.2.2.2.1⟩ (hM H.size) (va_cwS n E.2.2.2.2.1 hg hw hrm.1 hrm.2.1 hy ⟨by rw [hR]; exact hrm.2.2.1, by rw [hR]; exact hrm.2.2.2⟩) ⟨jPre_blind, fun U hU hW => ⟨rfl, by rw [hU], by rw [hU]; exact hP, va_K.moved hW.alike E.2.2.2.2.2.1, hD.weaken (fun _ _ _ _ => trivial)⟩⟩ rfl hn hl.1 rfl (lv_room hrest) hd ⟨by rw [hR]; exact hk.1, by rw [hR]; exact hk.2⟩) hS (fun q _ h => hFc q h) hFc (fun H1 locs1 hP1 hS1 => ?_)
  exact kk H1 locs1 ls hP1 (jD_addr hD (pW_addr hX)) hS1 hl
end JC2
end
