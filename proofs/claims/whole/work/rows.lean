section
-- ===== PART A: goes FIRST, ahead of the names: the tables' words, and 'selects' of the private methods out of them =====
/-- a private method of a class that the tables say can be made, by its rows of tables_1 -/
def lw_okq (q : MethodName × Nat) : Prop := (q.1.cls ≠ "java/lang/invoke/MethodHandle" ∧ q.1.cls ≠ "java/lang/invoke/VarHandle") ∧ Cond.instantiable q.1.cls q.2 ∈ tables_1 ∧ Cond.privateMethod q.1 ∈ tables_1 ∧ Cond.instanceMethod q.1 ∈ tables_1
theorem lw_p0 : lw_okq (⟨"FirePanel", "askPlaces", "()V"⟩, 10) := ⟨⟨by decide +kernel, by decide +kernel⟩, List.mem_of_getElem? (i := 18) (by decide +kernel), List.mem_of_getElem? (i := 218) (by decide +kernel), List.mem_of_getElem? (i := 219) (by decide +kernel)⟩
theorem lw_p1 : lw_okq (⟨"FirePanel$Ring", "passableWires", "()I"⟩, 2) := ⟨⟨by decide +kernel, by decide +kernel⟩, List.mem_of_getElem? (i := 26) (by decide +kernel), List.mem_of_getElem? (i := 226) (by decide +kernel), List.mem_of_getElem? (i := 227) (by decide +kernel)⟩
theorem lw_p2 : lw_okq (⟨"FirePanel$Ring", "endsStretch", "(I)Z"⟩, 2) := ⟨⟨by decide +kernel, by decide +kernel⟩, List.mem_of_getElem? (i := 26) (by decide +kernel), List.mem_of_getElem? (i := 230) (by decide +kernel), List.mem_of_getElem? (i := 231) (by decide +kernel)⟩
theorem lw_p3 : lw_okq (⟨"FirePanel", "noteMiss", "(LFirePanel$Place;I)V"⟩, 10) := ⟨⟨by decide +kernel, by decide +kernel⟩, List.mem_of_getElem? (i := 18) (by decide +kernel), List.mem_of_getElem? (i := 238) (by decide +kernel), List.mem_of_getElem? (i := 239) (by decide +kernel)⟩
theorem lw_p4 : lw_okq (⟨"FirePanel", "noteAnswer", "(LFirePanel$Place;I)V"⟩, 10) := ⟨⟨by decide +kernel, by decide +kernel⟩, List.mem_of_getElem? (i := 18) (by decide +kernel), List.mem_of_getElem? (i := 252) (by decide +kernel), List.mem_of_getElem? (i := 253) (by decide +kernel)⟩
theorem lw_p5 : lw_okq (⟨"FirePanel$Place", "senseSmoke", "()V"⟩, 11) := ⟨⟨by decide +kernel, by decide +kernel⟩, List.mem_of_getElem? (i := 33) (by decide +kernel), List.mem_of_getElem? (i := 260) (by decide +kernel), List.mem_of_getElem? (i := 261) (by decide +kernel)⟩
theorem lw_p6 : lw_okq (⟨"FirePanel$Place", "countOver", "()V"⟩, 11) := ⟨⟨by decide +kernel, by decide +kernel⟩, List.mem_of_getElem? (i := 33) (by decide +kernel), List.mem_of_getElem? (i := 265) (by decide +kernel), List.mem_of_getElem? (i := 266) (by decide +kernel)⟩
theorem lw_p7 : lw_okq (⟨"FirePanel$Place", "senseHeat", "()V"⟩, 11) := ⟨⟨by decide +kernel, by decide +kernel⟩, List.mem_of_getElem? (i := 33) (by decide +kernel), List.mem_of_getElem? (i := 270) (by decide +kernel), List.mem_of_getElem? (i := 271) (by decide +kernel)⟩
theorem lw_p8 : lw_okq (⟨"FirePanel$Place", "senseButton", "()V"⟩, 11) := ⟨⟨by decide +kernel, by decide +kernel⟩, List.mem_of_getElem? (i := 33) (by decide +kernel), List.mem_of_getElem? (i := 276) (by decide +kernel), List.mem_of_getElem? (i := 277) (by decide +kernel)⟩
theorem lw_p9 : lw_okq (⟨"FirePanel", "watchZones", "()I"⟩, 10) := ⟨⟨by decide +kernel, by decide +kernel⟩, List.mem_of_getElem? (i := 18) (by decide +kernel), List.mem_of_getElem? (i := 280) (by decide +kernel), List.mem_of_getElem? (i := 281) (by decide +kernel)⟩
theorem lw_p10 : lw_okq (⟨"FirePanel", "hasEnoughAlarms", "(II)Z"⟩, 10) := ⟨⟨by decide +kernel, by decide +kernel⟩, List.mem_of_getElem? (i := 18) (by decide +kernel), List.mem_of_getElem? (i := 284) (by decide +kernel), List.mem_of_getElem? (i := 285) (by decide +kernel)⟩
theorem lw_p11 : lw_okq (⟨"FirePanel", "followRules", "()V"⟩, 10) := ⟨⟨by decide +kernel, by decide +kernel⟩, List.mem_of_getElem? (i := 18) (by decide +kernel), List.mem_of_getElem? (i := 293) (by decide +kernel), List.mem_of_getElem? (i := 294) (by decide +kernel)⟩
theorem lw_p12 : lw_okq (⟨"FirePanel", "facts", "()I"⟩, 10) := ⟨⟨by decide +kernel, by decide +kernel⟩, List.mem_of_getElem? (i := 18) (by decide +kernel), List.mem_of_getElem? (i := 297) (by decide +kernel), List.mem_of_getElem? (i := 298) (by decide +kernel)⟩
theorem lw_p13 : lw_okq (⟨"FirePanel", "faults", "()I"⟩, 10) := ⟨⟨by decide +kernel, by decide +kernel⟩, List.mem_of_getElem? (i := 18) (by decide +kernel), List.mem_of_getElem? (i := 301) (by decide +kernel), List.mem_of_getElem? (i := 302) (by decide +kernel)⟩
theorem lw_p14 : lw_okq (⟨"FirePanel", "hasWarning", "(I)Z"⟩, 10) := ⟨⟨by decide +kernel, by decide +kernel⟩, List.mem_of_getElem? (i := 18) (by decide +kernel), List.mem_of_getElem? (i := 305) (by decide +kernel), List.mem_of_getElem? (i := 306) (by decide +kernel)⟩
theorem lw_p15 : lw_okq (⟨"FirePanel", "driveOutputs", "()V"⟩, 10) := ⟨⟨by decide +kernel, by decide +kernel⟩, List.mem_of_getElem? (i := 18) (by decide +kernel), List.mem_of_getElem? (i := 321) (by decide +kernel), List.mem_of_getElem? (i := 322) (by decide +kernel)⟩
def lw_privs_1 : List (MethodName × Nat) := [(⟨"FirePanel", "askPlaces", "()V"⟩, 10), (⟨"FirePanel$Ring", "passableWires", "()I"⟩, 2), (⟨"FirePanel$Ring", "endsStretch", "(I)Z"⟩, 2), (⟨"FirePanel", "noteMiss", "(LFirePanel$Place;I)V"⟩, 10), (⟨"FirePanel", "noteAnswer", "(LFirePanel$Place;I)V"⟩, 10), (⟨"FirePanel$Place", "senseSmoke", "()V"⟩, 11), (⟨"FirePanel$Place", "countOver", "()V"⟩, 11), (⟨"FirePanel$Place", "senseHeat", "()V"⟩, 11), (⟨"FirePanel$Place", "senseButton", "()V"⟩, 11), (⟨"FirePanel", "watchZones", "()I"⟩, 10), (⟨"FirePanel", "hasEnoughAlarms", "(II)Z"⟩, 10), (⟨"FirePanel", "followRules", "()V"⟩, 10), (⟨"FirePanel", "facts", "()I"⟩, 10), (⟨"FirePanel", "faults", "()I"⟩, 10), (⟨"FirePanel", "hasWarning", "(I)Z"⟩, 10), (⟨"FirePanel", "driveOutputs", "()V"⟩, 10)]
theorem lw_r1 : ∀ q ∈ lw_privs_1, lw_okq q := List.forall_mem_cons.mpr ⟨lw_p0, List.forall_mem_cons.mpr ⟨lw_p1, List.forall_mem_cons.mpr ⟨lw_p2, List.forall_mem_cons.mpr ⟨lw_p3, List.forall_mem_cons.mpr ⟨lw_p4, List.forall_mem_cons.mpr ⟨lw_p5, List.forall_mem_cons.mpr ⟨lw_p6, List.forall_mem_cons.mpr ⟨lw_p7, List.forall_mem_cons.mpr ⟨lw_p8, List.forall_mem_cons.mpr ⟨lw_p9, List.forall_mem_cons.mpr ⟨lw_p10, List.forall_mem_cons.mpr ⟨lw_p11, List.forall_mem_cons.mpr ⟨lw_p12, List.forall_mem_cons.mpr ⟨lw_p13, List.forall_mem_cons.mpr ⟨lw_p14, List.forall_mem_cons.mpr ⟨lw_p15, fun _ h => absurd h List.not_mem_nil⟩⟩⟩⟩⟩⟩⟩⟩⟩⟩⟩⟩⟩⟩⟩⟩
theorem lw_p16 : lw_okq (⟨"FirePanel", "isDriven", "(I)Z"⟩, 10) := ⟨⟨by decide +kernel, by decide +kernel⟩, List.mem_of_getElem? (i := 18) (by decide +kernel), List.mem_of_getElem? (i := 325) (by decide +kernel), List.mem_of_getElem? (i := 326) (by decide +kernel)⟩
theorem lw_p17 : lw_okq (⟨"java/lang/Throwable", "fillInStackTrace", "(I)Ljava/lang/Throwable;"⟩, 6) := ⟨⟨by decide +kernel, by decide +kernel⟩, List.mem_of_getElem? (i := 384) (by decide +kernel), List.mem_of_getElem? (i := 382) (by decide +kernel), List.mem_of_getElem? (i := 383) (by decide +kernel)⟩
theorem lw_p18 : lw_okq (⟨"FirePanel", "mustHaveEntered", "(I)V"⟩, 10) := ⟨⟨by decide +kernel, by decide +kernel⟩, List.mem_of_getElem? (i := 18) (by decide +kernel), List.mem_of_getElem? (i := 435) (by decide +kernel), List.mem_of_getElem? (i := 436) (by decide +kernel)⟩
theorem lw_p19 : lw_okq (⟨"FirePanel$Pad", "readCondition", "(LFirePanel$Rule;I)Z"⟩, 3) := ⟨⟨by decide +kernel, by decide +kernel⟩, List.mem_of_getElem? (i := 138) (by decide +kernel), List.mem_of_getElem? (i := 498) (by decide +kernel), List.mem_of_getElem? (i := 499) (by decide +kernel)⟩
theorem lw_p20 : lw_okq (⟨"FirePanel$Pad", "readTerm", "(LFirePanel$Rule;I)Z"⟩, 3) := ⟨⟨by decide +kernel, by decide +kernel⟩, List.mem_of_getElem? (i := 138) (by decide +kernel), List.mem_of_getElem? (i := 502) (by decide +kernel), List.mem_of_getElem? (i := 503) (by decide +kernel)⟩
theorem lw_p21 : lw_okq (⟨"FirePanel$Pad", "passes", "(C)Z"⟩, 3) := ⟨⟨by decide +kernel, by decide +kernel⟩, List.mem_of_getElem? (i := 138) (by decide +kernel), List.mem_of_getElem? (i := 506) (by decide +kernel), List.mem_of_getElem? (i := 507) (by decide +kernel)⟩
theorem lw_p22 : lw_okq (⟨"FirePanel$Pad", "sees", "(C)Z"⟩, 3) := ⟨⟨by decide +kernel, by decide +kernel⟩, List.mem_of_getElem? (i := 138) (by decide +kernel), List.mem_of_getElem? (i := 510) (by decide +kernel), List.mem_of_getElem? (i := 511) (by decide +kernel)⟩
theorem lw_p23 : lw_okq (⟨"FirePanel$Pad", "readZone", "(LFirePanel$Rule;I)Z"⟩, 3) := ⟨⟨by decide +kernel, by decide +kernel⟩, List.mem_of_getElem? (i := 138) (by decide +kernel), List.mem_of_getElem? (i := 514) (by decide +kernel), List.mem_of_getElem? (i := 515) (by decide +kernel)⟩
theorem lw_p24 : lw_okq (⟨"FirePanel$Pad", "readDigit", "(I)I"⟩, 3) := ⟨⟨by decide +kernel, by decide +kernel⟩, List.mem_of_getElem? (i := 138) (by decide +kernel), List.mem_of_getElem? (i := 518) (by decide +kernel), List.mem_of_getElem? (i := 519) (by decide +kernel)⟩
theorem lw_p25 : lw_okq (⟨"FirePanel$Pad", "readTarget", "(LFirePanel$Rule;)Z"⟩, 3) := ⟨⟨by decide +kernel, by decide +kernel⟩, List.mem_of_getElem? (i := 138) (by decide +kernel), List.mem_of_getElem? (i := 526) (by decide +kernel), List.mem_of_getElem? (i := 527) (by decide +kernel)⟩
theorem lw_p26 : lw_okq (⟨"FirePanel", "allOutputsOff", "()V"⟩, 10) := ⟨⟨by decide +kernel, by decide +kernel⟩, List.mem_of_getElem? (i := 18) (by decide +kernel), List.mem_of_getElem? (i := 537) (by decide +kernel), List.mem_of_getElem? (i := 538) (by decide +kernel)⟩
theorem lw_p27 : lw_okq (⟨"FirePanelModel", "read", "(I)I"⟩, 34) := ⟨⟨by decide +kernel, by decide +kernel⟩, List.mem_of_getElem? (i := 624) (by decide +kernel), List.mem_of_getElem? (i := 769) (by decide +kernel), List.mem_of_getElem? (i := 770) (by decide +kernel)⟩
theorem lw_p28 : lw_okq (⟨"FirePanelModel", "condition", "()I"⟩, 34) := ⟨⟨by decide +kernel, by decide +kernel⟩, List.mem_of_getElem? (i := 624) (by decide +kernel), List.mem_of_getElem? (i := 773) (by decide +kernel), List.mem_of_getElem? (i := 774) (by decide +kernel)⟩
theorem lw_p29 : lw_okq (⟨"FirePanelModel", "look", "(I)C"⟩, 34) := ⟨⟨by decide +kernel, by decide +kernel⟩, List.mem_of_getElem? (i := 624) (by decide +kernel), List.mem_of_getElem? (i := 777) (by decide +kernel), List.mem_of_getElem? (i := 778) (by decide +kernel)⟩
theorem lw_p30 : lw_okq (⟨"FirePanelModel", "deepness", "()I"⟩, 34) := ⟨⟨by decide +kernel, by decide +kernel⟩, List.mem_of_getElem? (i := 624) (by decide +kernel), List.mem_of_getElem? (i := 781) (by decide +kernel), List.mem_of_getElem? (i := 782) (by decide +kernel)⟩
theorem lw_p31 : lw_okq (⟨"FirePanelModel", "put", "(C)V"⟩, 34) := ⟨⟨by decide +kernel, by decide +kernel⟩, List.mem_of_getElem? (i := 624) (by decide +kernel), List.mem_of_getElem? (i := 785) (by decide +kernel), List.mem_of_getElem? (i := 786) (by decide +kernel)⟩
def lw_privs_2 : List (MethodName × Nat) := [(⟨"FirePanel", "isDriven", "(I)Z"⟩, 10), (⟨"java/lang/Throwable", "fillInStackTrace", "(I)Ljava/lang/Throwable;"⟩, 6), (⟨"FirePanel", "mustHaveEntered", "(I)V"⟩, 10), (⟨"FirePanel$Pad", "readCondition", "(LFirePanel$Rule;I)Z"⟩, 3), (⟨"FirePanel$Pad", "readTerm", "(LFirePanel$Rule;I)Z"⟩, 3), (⟨"FirePanel$Pad", "passes", "(C)Z"⟩, 3), (⟨"FirePanel$Pad", "sees", "(C)Z"⟩, 3), (⟨"FirePanel$Pad", "readZone", "(LFirePanel$Rule;I)Z"⟩, 3), (⟨"FirePanel$Pad", "readDigit", "(I)I"⟩, 3), (⟨"FirePanel$Pad", "readTarget", "(LFirePanel$Rule;)Z"⟩, 3), (⟨"FirePanel", "allOutputsOff", "()V"⟩, 10), (⟨"FirePanelModel", "read", "(I)I"⟩, 34), (⟨"FirePanelModel", "condition", "()I"⟩, 34), (⟨"FirePanelModel", "look", "(I)C"⟩, 34), (⟨"FirePanelModel", "deepness", "()I"⟩, 34), (⟨"FirePanelModel", "put", "(C)V"⟩, 34)]
theorem lw_r2 : ∀ q ∈ lw_privs_2, lw_okq q := List.forall_mem_cons.mpr ⟨lw_p16, List.forall_mem_cons.mpr ⟨lw_p17, List.forall_mem_cons.mpr ⟨lw_p18, List.forall_mem_cons.mpr ⟨lw_p19, List.forall_mem_cons.mpr ⟨lw_p20, List.forall_mem_cons.mpr ⟨lw_p21, List.forall_mem_cons.mpr ⟨lw_p22, List.forall_mem_cons.mpr ⟨lw_p23, List.forall_mem_cons.mpr ⟨lw_p24, List.forall_mem_cons.mpr ⟨lw_p25, List.forall_mem_cons.mpr ⟨lw_p26, List.forall_mem_cons.mpr ⟨lw_p27, List.forall_mem_cons.mpr ⟨lw_p28, List.forall_mem_cons.mpr ⟨lw_p29, List.forall_mem_cons.mpr ⟨lw_p30, List.forall_mem_cons.mpr ⟨lw_p31, fun _ h => absurd h List.not_mem_nil⟩⟩⟩⟩⟩⟩⟩⟩⟩⟩⟩⟩⟩⟩⟩⟩
theorem lw_p32 : lw_okq (⟨"FirePanelModel", "word", "(I)V"⟩, 34) := ⟨⟨by decide +kernel, by decide +kernel⟩, List.mem_of_getElem? (i := 624) (by decide +kernel), List.mem_of_getElem? (i := 789) (by decide +kernel), List.mem_of_getElem? (i := 790) (by decide +kernel)⟩
theorem lw_p33 : lw_okq (⟨"FirePanelModel", "termDone", "()V"⟩, 34) := ⟨⟨by decide +kernel, by decide +kernel⟩, List.mem_of_getElem? (i := 624) (by decide +kernel), List.mem_of_getElem? (i := 793) (by decide +kernel), List.mem_of_getElem? (i := 794) (by decide +kernel)⟩
theorem lw_p34 : lw_okq (⟨"FirePanelModel", "isSensor", "(I)Z"⟩, 34) := ⟨⟨by decide +kernel, by decide +kernel⟩, List.mem_of_getElem? (i := 624) (by decide +kernel), List.mem_of_getElem? (i := 805) (by decide +kernel), List.mem_of_getElem? (i := 806) (by decide +kernel)⟩
theorem lw_p35 : lw_okq (⟨"FirePanelModel", "ask", "(I)V"⟩, 34) := ⟨⟨by decide +kernel, by decide +kernel⟩, List.mem_of_getElem? (i := 624) (by decide +kernel), List.mem_of_getElem? (i := 809) (by decide +kernel), List.mem_of_getElem? (i := 810) (by decide +kernel)⟩
theorem lw_p36 : lw_okq (⟨"FirePanelModel", "reached", "(I)Z"⟩, 34) := ⟨⟨by decide +kernel, by decide +kernel⟩, List.mem_of_getElem? (i := 624) (by decide +kernel), List.mem_of_getElem? (i := 813) (by decide +kernel), List.mem_of_getElem? (i := 814) (by decide +kernel)⟩
theorem lw_p37 : lw_okq (⟨"FirePanelModel", "goes", "(I)Z"⟩, 34) := ⟨⟨by decide +kernel, by decide +kernel⟩, List.mem_of_getElem? (i := 624) (by decide +kernel), List.mem_of_getElem? (i := 817) (by decide +kernel), List.mem_of_getElem? (i := 818) (by decide +kernel)⟩
theorem lw_p38 : lw_okq (⟨"FirePanelModel", "stretchShort", "(I)Z"⟩, 34) := ⟨⟨by decide +kernel, by decide +kernel⟩, List.mem_of_getElem? (i := 624) (by decide +kernel), List.mem_of_getElem? (i := 821) (by decide +kernel), List.mem_of_getElem? (i := 822) (by decide +kernel)⟩
theorem lw_p39 : lw_okq (⟨"FirePanelModel", "note", "(II)V"⟩, 34) := ⟨⟨by decide +kernel, by decide +kernel⟩, List.mem_of_getElem? (i := 624) (by decide +kernel), List.mem_of_getElem? (i := 825) (by decide +kernel), List.mem_of_getElem? (i := 826) (by decide +kernel)⟩
theorem lw_p40 : lw_okq (⟨"FirePanelModel", "sense", "(I)V"⟩, 34) := ⟨⟨by decide +kernel, by decide +kernel⟩, List.mem_of_getElem? (i := 624) (by decide +kernel), List.mem_of_getElem? (i := 829) (by decide +kernel), List.mem_of_getElem? (i := 830) (by decide +kernel)⟩
theorem lw_p41 : lw_okq (⟨"FirePanelModel", "burns", "(I)Z"⟩, 34) := ⟨⟨by decide +kernel, by decide +kernel⟩, List.mem_of_getElem? (i := 624) (by decide +kernel), List.mem_of_getElem? (i := 836) (by decide +kernel), List.mem_of_getElem? (i := 837) (by decide +kernel)⟩
theorem lw_p42 : lw_okq (⟨"FirePanelModel", "drive", "()V"⟩, 34) := ⟨⟨by decide +kernel, by decide +kernel⟩, List.mem_of_getElem? (i := 624) (by decide +kernel), List.mem_of_getElem? (i := 840) (by decide +kernel), List.mem_of_getElem? (i := 841) (by decide +kernel)⟩
theorem lw_p43 : lw_okq (⟨"FirePanelModel", "holds", "(I)Z"⟩, 34) := ⟨⟨by decide +kernel, by decide +kernel⟩, List.mem_of_getElem? (i := 624) (by decide +kernel), List.mem_of_getElem? (i := 844) (by decide +kernel), List.mem_of_getElem? (i := 845) (by decide +kernel)⟩
theorem lw_p44 : lw_okq (⟨"FirePanelModel", "faults", "()I"⟩, 34) := ⟨⟨by decide +kernel, by decide +kernel⟩, List.mem_of_getElem? (i := 624) (by decide +kernel), List.mem_of_getElem? (i := 848) (by decide +kernel), List.mem_of_getElem? (i := 849) (by decide +kernel)⟩
theorem lw_p45 : lw_okq (⟨"FirePanelModel", "warns", "(I)Z"⟩, 34) := ⟨⟨by decide +kernel, by decide +kernel⟩, List.mem_of_getElem? (i := 624) (by decide +kernel), List.mem_of_getElem? (i := 852) (by decide +kernel), List.mem_of_getElem? (i := 853) (by decide +kernel)⟩
def lw_privs_3 : List (MethodName × Nat) := [(⟨"FirePanelModel", "word", "(I)V"⟩, 34), (⟨"FirePanelModel", "termDone", "()V"⟩, 34), (⟨"FirePanelModel", "isSensor", "(I)Z"⟩, 34), (⟨"FirePanelModel", "ask", "(I)V"⟩, 34), (⟨"FirePanelModel", "reached", "(I)Z"⟩, 34), (⟨"FirePanelModel", "goes", "(I)Z"⟩, 34), (⟨"FirePanelModel", "stretchShort", "(I)Z"⟩, 34), (⟨"FirePanelModel", "note", "(II)V"⟩, 34), (⟨"FirePanelModel", "sense", "(I)V"⟩, 34), (⟨"FirePanelModel", "burns", "(I)Z"⟩, 34), (⟨"FirePanelModel", "drive", "()V"⟩, 34), (⟨"FirePanelModel", "holds", "(I)Z"⟩, 34), (⟨"FirePanelModel", "faults", "()I"⟩, 34), (⟨"FirePanelModel", "warns", "(I)Z"⟩, 34)]
theorem lw_r3 : ∀ q ∈ lw_privs_3, lw_okq q := List.forall_mem_cons.mpr ⟨lw_p32, List.forall_mem_cons.mpr ⟨lw_p33, List.forall_mem_cons.mpr ⟨lw_p34, List.forall_mem_cons.mpr ⟨lw_p35, List.forall_mem_cons.mpr ⟨lw_p36, List.forall_mem_cons.mpr ⟨lw_p37, List.forall_mem_cons.mpr ⟨lw_p38, List.forall_mem_cons.mpr ⟨lw_p39, List.forall_mem_cons.mpr ⟨lw_p40, List.forall_mem_cons.mpr ⟨lw_p41, List.forall_mem_cons.mpr ⟨lw_p42, List.forall_mem_cons.mpr ⟨lw_p43, List.forall_mem_cons.mpr ⟨lw_p44, List.forall_mem_cons.mpr ⟨lw_p45, fun _ h => absurd h List.not_mem_nil⟩⟩⟩⟩⟩⟩⟩⟩⟩⟩⟩⟩⟩⟩
def lw_privs : List (MethodName × Nat) := lw_privs_1 ++ (lw_privs_2 ++ (lw_privs_3))
def lw_tbl : List Cond := k2_sels lw_privs ++ tables_1
theorem lw_privs_ok : ∀ q ∈ lw_privs, lw_okq q := by
  show ∀ q ∈ lw_privs_1 ++ (lw_privs_2 ++ (lw_privs_3)), lw_okq q
  exact List.forall_mem_append.mpr ⟨lw_r1, List.forall_mem_append.mpr ⟨lw_r2, lw_r3⟩⟩
end
section
/-! ===== BEGIN words of one list among another's, by their places ===== -/
theorem goodIn_r {big : List Cond} (ws : List Cond) (ps : List Nat) (hp : ws = ps.filterMap (fun i => big[i]?)) (h : ws.all goodWord = true) : GoodIn big ws := by
  intro w hw
  have h1 := List.all_eq_true.mp h w hw
  rw [hp] at hw
  obtain ⟨i, -, hi⟩ := List.mem_filterMap.mp hw
  have hm : w ∈ big := by first | exact List.mem_of_getElem? hi | exact List.getElem?_mem hi
  exact ⟨hm, good_of_word h1⟩
theorem goodIn_app {big a b : List Cond} (ha : GoodIn big a) (hb : GoodIn big b) : GoodIn big (a ++ b) := fun w h => (List.mem_append.mp h).elim (ha w) (hb w)
theorem goodIn_ca {big a b : List Cond} {c : Cond} (ha : GoodIn big (c :: a)) (hb : GoodIn big b) : GoodIn big (c :: (a ++ b)) := fun w h => (List.mem_cons.mp h).elim (fun e => ha w (List.mem_cons.mpr (Or.inl e))) (fun h => (List.mem_append.mp h).elim (fun h => ha w (List.mem_cons.mpr (Or.inr h))) (hb w))
theorem goodIn_sub {big ws : List Cond} (hm : ∀ w ∈ ws, w ∈ big) (h : ws.all goodWord = true) : GoodIn big ws := fun w hw => ⟨hm w hw, good_of_word (List.all_eq_true.mp h w hw)⟩
/-! ===== END ===== -/

def vx_no (w : Cond) : Bool := decide (w ≠ .isRef (.static Bundle.tN "UNASSIGNED_STACK" Bundle.steD)) && decide (w ≠ .isRef (.static Bundle.tN "SUPPRESSED_SENTINEL" Bundle.listD)) && decide (w ≠ .laysStatic Bundle.tN "UNASSIGNED_STACK" Bundle.steD) && decide (w ≠ .laysStatic Bundle.tN "SUPPRESSED_SENTINEL" Bundle.listD)
def vx_at0 (own : String) (ic : Nat) (X : String) (names : List String) : List Cond := (Bundle.ownAtoms0 own ic X names).filter vx_no
def vx_atS (own : String) (ic : Nat) (X : String) (names : List String) : List Cond := (Bundle.ownAtoms own ic X names).filter vx_no
/-! ===== BEGIN printed: names, fields, word lists, decode rows ===== -/
def RX0 : String := "FirePanel$Log"
def TX0 : u_T := fun k => match k with
  | 0 => ("FirePanel$Log", "words", "[I", true)
  | _ => ("FirePanel$Log", "size", "I", false)
def tyX0 : Nat → FieldType := fun k => match k with
  | 0 => .array .int
  | _ => .int
abbrev wsX00 : List Cond := u_ws RX0 TX0 2
theorem nmX0 : ∀ a, a < 2 → ∀ b, b < 2 → a ≠ b → (TX0 a).2.1 ≠ (TX0 b).2.1 := by decide +kernel
theorem tyX0_ok : ∀ k, k < 2 → parseFieldDescriptor (TX0 k).2.2.1 = some (tyX0 k) := by decide +kernel
abbrev cX0_init : ByteArray := prog_2_method_1_code
def yX0_init : MethodName := ⟨RX0, "<init>", "()V"⟩
abbrev cX0_add : ByteArray := prog_2_method_2_code
def yX0_add : MethodName := ⟨RX0, "add", "(III)V"⟩
def RX1 : String := "FirePanel$Pad"
def TX1 : u_T := fun k => match k with
  | 0 => ("FirePanel$Pad", "text", "[C", true)
  | 1 => ("FirePanel$Pad", "length", "I", false)
  | _ => ("FirePanel$Pad", "at", "I", false)
def tyX1 : Nat → FieldType := fun k => match k with
  | 0 => .array .char
  | 1 => .int
  | _ => .int
abbrev wsX10 : List Cond := u_ws RX1 TX1 3
theorem nmX1 : ∀ a, a < 3 → ∀ b, b < 3 → a ≠ b → (TX1 a).2.1 ≠ (TX1 b).2.1 := by decide +kernel
theorem tyX1_ok : ∀ k, k < 3 → parseFieldDescriptor (TX1 k).2.2.1 = some (tyX1 k) := by decide +kernel
abbrev cX1_init : ByteArray := prog_3_method_1_code
def yX1_init : MethodName := ⟨RX1, "<init>", "()V"⟩
abbrev cX1_append : ByteArray := prog_3_method_2_code
def yX1_append : MethodName := ⟨RX1, "append", "(C)Z"⟩
abbrev cX1_readInto : ByteArray := prog_3_method_3_code
def yX1_readInto : MethodName := ⟨RX1, "readInto", "(LFirePanel$Rule;)I"⟩
abbrev cX1_standsInRules : ByteArray := prog_3_method_4_code
def yX1_standsInRules : MethodName := ⟨RX1, "standsInRules", "(C)Z"⟩
abbrev cX1_readCondition : ByteArray := prog_3_method_5_code
def yX1_readCondition : MethodName := ⟨RX1, "readCondition", "(LFirePanel$Rule;I)Z"⟩
abbrev cX1_readTerm : ByteArray := prog_3_method_6_code
def yX1_readTerm : MethodName := ⟨RX1, "readTerm", "(LFirePanel$Rule;I)Z"⟩
abbrev cX1_readZone : ByteArray := prog_3_method_7_code
def yX1_readZone : MethodName := ⟨RX1, "readZone", "(LFirePanel$Rule;I)Z"⟩
abbrev cX1_readTarget : ByteArray := prog_3_method_8_code
def yX1_readTarget : MethodName := ⟨RX1, "readTarget", "(LFirePanel$Rule;)Z"⟩
abbrev cX1_readDigit : ByteArray := prog_3_method_9_code
def yX1_readDigit : MethodName := ⟨RX1, "readDigit", "(I)I"⟩
abbrev cX1_passes : ByteArray := prog_3_method_10_code
def yX1_passes : MethodName := ⟨RX1, "passes", "(C)Z"⟩
abbrev cX1_sees : ByteArray := prog_3_method_11_code
def yX1_sees : MethodName := ⟨RX1, "sees", "(C)Z"⟩
def RX2 : String := "FirePanel$Place"
def TX2 : u_T := fun k => match k with
  | 0 => ("FirePanel$Place", "kind", "I", false)
  | 1 => ("FirePanel$Place", "zone", "I", false)
  | 2 => ("FirePanel$Place", "threshold", "F", false)
  | 3 => ("FirePanel$Place", "reading", "F", false)
  | 4 => ("FirePanel$Place", "base", "F", false)
  | 5 => ("FirePanel$Place", "level", "F", false)
  | 6 => ("FirePanel$Place", "over", "I", false)
  | 7 => ("FirePanel$Place", "inAlarm", "Z", false)
  | 8 => ("FirePanel$Place", "missed", "I", false)
  | 9 => ("FirePanel$Place", "atFault", "Z", false)
  | _ => ("FirePanel$Place", "isOff", "Z", false)
def tyX2 : Nat → FieldType := fun k => match k with
  | 0 => .int
  | 1 => .int
  | 2 => .float
  | 3 => .float
  | 4 => .float
  | 5 => .float
  | 6 => .int
  | 7 => .boolean
  | 8 => .int
  | 9 => .boolean
  | _ => .boolean
abbrev wsX20 : List Cond := u_ws RX2 TX2 11
theorem nmX2 : ∀ a, a < 11 → ∀ b, b < 11 → a ≠ b → (TX2 a).2.1 ≠ (TX2 b).2.1 := by decide +kernel
theorem tyX2_ok : ∀ k, k < 11 → parseFieldDescriptor (TX2 k).2.2.1 = some (tyX2 k) := by decide +kernel
abbrev cX2_init : ByteArray := prog_4_method_1_code
def yX2_init : MethodName := ⟨RX2, "<init>", "()V"⟩
abbrev cX2_begin : ByteArray := prog_4_method_2_code
def yX2_begin : MethodName := ⟨RX2, "begin", "(IIF)V"⟩
abbrev cX2_isSensor : ByteArray := prog_4_method_3_code
def yX2_isSensor : MethodName := ⟨RX2, "isSensor", "()Z"⟩
abbrev cX2_watches : ByteArray := prog_4_method_4_code
def yX2_watches : MethodName := ⟨RX2, "watches", "(I)Z"⟩
abbrev cX2_warns : ByteArray := prog_4_method_5_code
def yX2_warns : MethodName := ⟨RX2, "warns", "()Z"⟩
abbrev cX2_sense : ByteArray := prog_4_method_6_code
def yX2_sense : MethodName := ⟨RX2, "sense", "()V"⟩
abbrev cX2_calmDown : ByteArray := prog_4_method_7_code
def yX2_calmDown : MethodName := ⟨RX2, "calmDown", "()V"⟩
abbrev cX2_senseSmoke : ByteArray := prog_4_method_8_code
def yX2_senseSmoke : MethodName := ⟨RX2, "senseSmoke", "()V"⟩
abbrev cX2_senseHeat : ByteArray := prog_4_method_9_code
def yX2_senseHeat : MethodName := ⟨RX2, "senseHeat", "()V"⟩
abbrev cX2_senseButton : ByteArray := prog_4_method_10_code
def yX2_senseButton : MethodName := ⟨RX2, "senseButton", "()V"⟩
abbrev cX2_countOver : ByteArray := prog_4_method_11_code
def yX2_countOver : MethodName := ⟨RX2, "countOver", "()V"⟩
def RX3 : String := "FirePanel$Ring"
def TX3 : u_T := fun k => match k with
  | 0 => ("FirePanel$Ring", "places", "[LFirePanel$Place;", true)
  | _ => ("FirePanel$Ring", "wires", "[I", true)
def tyX3 : Nat → FieldType := fun k => match k with
  | 0 => .array (.object "FirePanel$Place")
  | _ => .array .int
abbrev wsX30 : List Cond := u_ws RX3 TX3 2
theorem nmX3 : ∀ a, a < 2 → ∀ b, b < 2 → a ≠ b → (TX3 a).2.1 ≠ (TX3 b).2.1 := by decide +kernel
theorem tyX3_ok : ∀ k, k < 2 → parseFieldDescriptor (TX3 k).2.2.1 = some (tyX3 k) := by decide +kernel
abbrev cX3_init : ByteArray := prog_5_method_1_code
def yX3_init : MethodName := ⟨RX3, "<init>", "()V"⟩
abbrev cX3_reachedPlaces : ByteArray := prog_5_method_2_code
def yX3_reachedPlaces : MethodName := ⟨RX3, "reachedPlaces", "()I"⟩
abbrev cX3_passableWires : ByteArray := prog_5_method_3_code
def yX3_passableWires : MethodName := ⟨RX3, "passableWires", "()I"⟩
abbrev cX3_endsStretch : ByteArray := prog_5_method_4_code
def yX3_endsStretch : MethodName := ⟨RX3, "endsStretch", "(I)Z"⟩
def RX4 : String := "FirePanel$Rule"
def TX4 : u_T := fun k => match k with
  | 0 => ("FirePanel$Rule", "steps", "[I", true)
  | 1 => ("FirePanel$Rule", "stepCount", "I", false)
  | 2 => ("FirePanel$Rule", "output", "I", false)
  | 3 => ("FirePanel$Rule", "delay", "I", false)
  | _ => ("FirePanel$Rule", "held", "I", false)
def tyX4 : Nat → FieldType := fun k => match k with
  | 0 => .array .int
  | 1 => .int
  | 2 => .int
  | 3 => .int
  | _ => .int
abbrev wsX40 : List Cond := u_ws RX4 TX4 5
theorem nmX4 : ∀ a, a < 5 → ∀ b, b < 5 → a ≠ b → (TX4 a).2.1 ≠ (TX4 b).2.1 := by decide +kernel
theorem tyX4_ok : ∀ k, k < 5 → parseFieldDescriptor (TX4 k).2.2.1 = some (tyX4 k) := by decide +kernel
abbrev cX4_init : ByteArray := prog_6_method_1_code
def yX4_init : MethodName := ⟨RX4, "<init>", "()V"⟩
abbrev cX4_clear : ByteArray := prog_6_method_2_code
def yX4_clear : MethodName := ⟨RX4, "clear", "()V"⟩
abbrev cX4_addStep : ByteArray := prog_6_method_3_code
def yX4_addStep : MethodName := ⟨RX4, "addStep", "(I)V"⟩
abbrev cX4_isTrue : ByteArray := prog_6_method_4_code
def yX4_isTrue : MethodName := ⟨RX4, "isTrue", "(I)Z"⟩
abbrev cX4_workOff : ByteArray := prog_6_method_5_code
def yX4_workOff : MethodName := ⟨RX4, "workOff", "(III)I"⟩
def RX5 : String := "FirePanel$Zone"
def TX5 : u_T := fun k => match k with
  | 0 => ("FirePanel$Zone", "needed", "I", false)
  | 1 => ("FirePanel$Zone", "inFire", "Z", false)
  | _ => ("FirePanel$Zone", "isOff", "Z", false)
def tyX5 : Nat → FieldType := fun k => match k with
  | 0 => .int
  | 1 => .boolean
  | _ => .boolean
abbrev wsX50 : List Cond := u_ws RX5 TX5 3
theorem nmX5 : ∀ a, a < 3 → ∀ b, b < 3 → a ≠ b → (TX5 a).2.1 ≠ (TX5 b).2.1 := by decide +kernel
theorem tyX5_ok : ∀ k, k < 3 → parseFieldDescriptor (TX5 k).2.2.1 = some (tyX5 k) := by decide +kernel
abbrev cX5_init : ByteArray := prog_7_method_1_code
def yX5_init : MethodName := ⟨RX5, "<init>", "()V"⟩
def RX6 : String := "FirePanel"
def TX6 : u_T := fun k => match k with
  | 0 => ("FirePanel", "ring", "LFirePanel$Ring;", true)
  | 1 => ("FirePanel", "zones", "[LFirePanel$Zone;", true)
  | 2 => ("FirePanel", "rules", "[LFirePanel$Rule;", true)
  | 3 => ("FirePanel", "outputsOn", "[Z", true)
  | 4 => ("FirePanel", "pad", "LFirePanel$Pad;", true)
  | 5 => ("FirePanel", "entries", "LFirePanel$Log;", true)
  | 6 => ("FirePanel", "ruleCount", "I", false)
  | 7 => ("FirePanel", "polls", "I", false)
  | 8 => ("FirePanel", "entered", "I", false)
  | _ => ("FirePanel", "silent", "Z", false)
def tyX6 : Nat → FieldType := fun k => match k with
  | 0 => .object "FirePanel$Ring"
  | 1 => .array (.object "FirePanel$Zone")
  | 2 => .array (.object "FirePanel$Rule")
  | 3 => .array .boolean
  | 4 => .object "FirePanel$Pad"
  | 5 => .object "FirePanel$Log"
  | 6 => .int
  | 7 => .int
  | 8 => .int
  | _ => .boolean
abbrev wsX60 : List Cond := u_ws RX6 TX6 10
theorem nmX6 : ∀ a, a < 10 → ∀ b, b < 10 → a ≠ b → (TX6 a).2.1 ≠ (TX6 b).2.1 := by decide +kernel
theorem tyX6_ok : ∀ k, k < 10 → parseFieldDescriptor (TX6 k).2.2.1 = some (tyX6 k) := by decide +kernel
abbrev cX6_init : ByteArray := prog_1_method_1_code
def yX6_init : MethodName := ⟨RX6, "<init>", "()V"⟩
abbrev cX6_fit : ByteArray := prog_1_method_2_code
def yX6_fit : MethodName := ⟨RX6, "fit", "(IIIF)V"⟩
abbrev cX6_need : ByteArray := prog_1_method_3_code
def yX6_need : MethodName := ⟨RX6, "need", "(II)V"⟩
abbrev cX6_wire : ByteArray := prog_1_method_4_code
def yX6_wire : MethodName := ⟨RX6, "wire", "(II)V"⟩
abbrev cX6_reading : ByteArray := prog_1_method_5_code
def yX6_reading : MethodName := ⟨RX6, "reading", "(IF)V"⟩
abbrev cX6_type : ByteArray := prog_1_method_6_code
def yX6_type : MethodName := ⟨RX6, "type", "(C)Z"⟩
abbrev cX6_rule : ByteArray := prog_1_method_7_code
def yX6_rule : MethodName := ⟨RX6, "rule", "()I"⟩
abbrev cX6_forget : ByteArray := prog_1_method_8_code
def yX6_forget : MethodName := ⟨RX6, "forget", "()I"⟩
abbrev cX6_poll : ByteArray := prog_1_method_9_code
def yX6_poll : MethodName := ⟨RX6, "poll", "()I"⟩
abbrev cX6_key : ByteArray := prog_1_method_10_code
def yX6_key : MethodName := ⟨RX6, "key", "(I)I"⟩
abbrev cX6_silence : ByteArray := prog_1_method_11_code
def yX6_silence : MethodName := ⟨RX6, "silence", "()Z"⟩
abbrev cX6_reset : ByteArray := prog_1_method_12_code
def yX6_reset : MethodName := ⟨RX6, "reset", "()I"⟩
abbrev cX6_off : ByteArray := prog_1_method_13_code
def yX6_off : MethodName := ⟨RX6, "off", "(ZIZ)Z"⟩
abbrev cX6_level : ByteArray := prog_1_method_14_code
def yX6_level : MethodName := ⟨RX6, "level", "(I)F"⟩
abbrev cX6_base : ByteArray := prog_1_method_15_code
def yX6_base : MethodName := ⟨RX6, "base", "(I)F"⟩
abbrev cX6_place : ByteArray := prog_1_method_16_code
def yX6_place : MethodName := ⟨RX6, "place", "(I)I"⟩
abbrev cX6_zone : ByteArray := prog_1_method_17_code
def yX6_zone : MethodName := ⟨RX6, "zone", "(I)I"⟩
abbrev cX6_output : ByteArray := prog_1_method_18_code
def yX6_output : MethodName := ⟨RX6, "output", "(I)I"⟩
abbrev cX6_held : ByteArray := prog_1_method_19_code
def yX6_held : MethodName := ⟨RX6, "held", "(I)I"⟩
abbrev cX6_log : ByteArray := prog_1_method_20_code
def yX6_log : MethodName := ⟨RX6, "log", "(II)I"⟩
abbrev cX6_count : ByteArray := prog_1_method_21_code
def yX6_count : MethodName := ⟨RX6, "count", "(I)I"⟩
abbrev cX6_mustExist : ByteArray := prog_1_method_22_code
def yX6_mustExist : MethodName := ⟨RX6, "mustExist", "(II)V"⟩
abbrev cX6_mustBeAllowed : ByteArray := prog_1_method_23_code
def yX6_mustBeAllowed : MethodName := ⟨RX6, "mustBeAllowed", "(Z)V"⟩
abbrev cX6_mustHaveEntered : ByteArray := prog_1_method_24_code
def yX6_mustHaveEntered : MethodName := ⟨RX6, "mustHaveEntered", "(I)V"⟩
abbrev cX6_askPlaces : ByteArray := prog_1_method_25_code
def yX6_askPlaces : MethodName := ⟨RX6, "askPlaces", "()V"⟩
abbrev cX6_noteMiss : ByteArray := prog_1_method_26_code
def yX6_noteMiss : MethodName := ⟨RX6, "noteMiss", "(LFirePanel$Place;I)V"⟩
abbrev cX6_noteAnswer : ByteArray := prog_1_method_27_code
def yX6_noteAnswer : MethodName := ⟨RX6, "noteAnswer", "(LFirePanel$Place;I)V"⟩
abbrev cX6_watchZones : ByteArray := prog_1_method_28_code
def yX6_watchZones : MethodName := ⟨RX6, "watchZones", "()I"⟩
abbrev cX6_hasEnoughAlarms : ByteArray := prog_1_method_29_code
def yX6_hasEnoughAlarms : MethodName := ⟨RX6, "hasEnoughAlarms", "(II)Z"⟩
abbrev cX6_hasWarning : ByteArray := prog_1_method_30_code
def yX6_hasWarning : MethodName := ⟨RX6, "hasWarning", "(I)Z"⟩
abbrev cX6_faults : ByteArray := prog_1_method_31_code
def yX6_faults : MethodName := ⟨RX6, "faults", "()I"⟩
abbrev cX6_facts : ByteArray := prog_1_method_32_code
def yX6_facts : MethodName := ⟨RX6, "facts", "()I"⟩
abbrev cX6_followRules : ByteArray := prog_1_method_33_code
def yX6_followRules : MethodName := ⟨RX6, "followRules", "()V"⟩
abbrev cX6_driveOutputs : ByteArray := prog_1_method_34_code
def yX6_driveOutputs : MethodName := ⟨RX6, "driveOutputs", "()V"⟩
abbrev cX6_isDriven : ByteArray := prog_1_method_35_code
def yX6_isDriven : MethodName := ⟨RX6, "isDriven", "(I)Z"⟩
abbrev cX6_allOutputsOff : ByteArray := prog_1_method_36_code
def yX6_allOutputsOff : MethodName := ⟨RX6, "allOutputsOff", "()V"⟩
def RX7 : String := "FirePanelModel"
def TX7 : u_T := fun k => match k with
  | 0 => ("FirePanelModel", "thrown", "I", false)
  | 1 => ("FirePanelModel", "wires", "[I", true)
  | 2 => ("FirePanelModel", "kind", "[I", true)
  | 3 => ("FirePanelModel", "zoneOf", "[I", true)
  | 4 => ("FirePanelModel", "threshold", "[F", true)
  | 5 => ("FirePanelModel", "readings", "[F", true)
  | 6 => ("FirePanelModel", "bases", "[F", true)
  | 7 => ("FirePanelModel", "levels", "[F", true)
  | 8 => ("FirePanelModel", "over", "[I", true)
  | 9 => ("FirePanelModel", "alarm", "[Z", true)
  | 10 => ("FirePanelModel", "missed", "[I", true)
  | 11 => ("FirePanelModel", "fault", "[Z", true)
  | 12 => ("FirePanelModel", "placeOff", "[Z", true)
  | 13 => ("FirePanelModel", "zoneOff", "[Z", true)
  | 14 => ("FirePanelModel", "needs", "[I", true)
  | 15 => ("FirePanelModel", "fire", "[Z", true)
  | 16 => ("FirePanelModel", "rules", "I", false)
  | 17 => ("FirePanelModel", "words", "[I", true)
  | 18 => ("FirePanelModel", "length", "[I", true)
  | 19 => ("FirePanelModel", "drives", "[I", true)
  | 20 => ("FirePanelModel", "delay", "[I", true)
  | 21 => ("FirePanelModel", "heldFor", "[I", true)
  | 22 => ("FirePanelModel", "on", "[Z", true)
  | 23 => ("FirePanelModel", "typed", "I", false)
  | 24 => ("FirePanelModel", "pad", "[C", true)
  | 25 => ("FirePanelModel", "polls", "I", false)
  | 26 => ("FirePanelModel", "access", "I", false)
  | 27 => ("FirePanelModel", "quiet", "Z", false)
  | 28 => ("FirePanelModel", "entries", "I", false)
  | 29 => ("FirePanelModel", "logged", "[I", true)
  | 30 => ("FirePanelModel", "waits", "I", false)
  | 31 => ("FirePanelModel", "waiting", "[C", true)
  | 32 => ("FirePanelModel", "made", "I", false)
  | _ => ("FirePanelModel", "making", "[I", true)
def tyX7 : Nat → FieldType := fun k => match k with
  | 0 => .int
  | 1 => .array .int
  | 2 => .array .int
  | 3 => .array .int
  | 4 => .array .float
  | 5 => .array .float
  | 6 => .array .float
  | 7 => .array .float
  | 8 => .array .int
  | 9 => .array .boolean
  | 10 => .array .int
  | 11 => .array .boolean
  | 12 => .array .boolean
  | 13 => .array .boolean
  | 14 => .array .int
  | 15 => .array .boolean
  | 16 => .int
  | 17 => .array .int
  | 18 => .array .int
  | 19 => .array .int
  | 20 => .array .int
  | 21 => .array .int
  | 22 => .array .boolean
  | 23 => .int
  | 24 => .array .char
  | 25 => .int
  | 26 => .int
  | 27 => .boolean
  | 28 => .int
  | 29 => .array .int
  | 30 => .int
  | 31 => .array .char
  | 32 => .int
  | _ => .array .int
abbrev wsX70 : List Cond := u_ws RX7 TX7 34
theorem nmX7 : ∀ a, a < 34 → ∀ b, b < 34 → a ≠ b → (TX7 a).2.1 ≠ (TX7 b).2.1 := by decide +kernel
theorem tyX7_ok : ∀ k, k < 34 → parseFieldDescriptor (TX7 k).2.2.1 = some (tyX7 k) := by decide +kernel
abbrev cX7_init : ByteArray := prog_9_method_1_code
def yX7_init : MethodName := ⟨RX7, "<init>", "()V"⟩
abbrev cX7_thrown : ByteArray := prog_9_method_2_code
def yX7_thrown : MethodName := ⟨RX7, "thrown", "()I"⟩
abbrev cX7_in : ByteArray := prog_9_method_3_code
def yX7_in : MethodName := ⟨RX7, "in", "(III)Z"⟩
abbrev cX7_stretchShort : ByteArray := prog_9_method_4_code
def yX7_stretchShort : MethodName := ⟨RX7, "stretchShort", "(I)Z"⟩
abbrev cX7_goes : ByteArray := prog_9_method_5_code
def yX7_goes : MethodName := ⟨RX7, "goes", "(I)Z"⟩
abbrev cX7_reached : ByteArray := prog_9_method_6_code
def yX7_reached : MethodName := ⟨RX7, "reached", "(I)Z"⟩
abbrev cX7_isSensor : ByteArray := prog_9_method_7_code
def yX7_isSensor : MethodName := ⟨RX7, "isSensor", "(I)Z"⟩
abbrev cX7_fit : ByteArray := prog_9_method_8_code
def yX7_fit : MethodName := ⟨RX7, "fit", "(IIIF)V"⟩
abbrev cX7_need : ByteArray := prog_9_method_9_code
def yX7_need : MethodName := ⟨RX7, "need", "(II)V"⟩
abbrev cX7_wire : ByteArray := prog_9_method_10_code
def yX7_wire : MethodName := ⟨RX7, "wire", "(II)V"⟩
abbrev cX7_reading : ByteArray := prog_9_method_11_code
def yX7_reading : MethodName := ⟨RX7, "reading", "(IF)V"⟩
abbrev cX7_type : ByteArray := prog_9_method_12_code
def yX7_type : MethodName := ⟨RX7, "type", "(C)Z"⟩
abbrev cX7_look : ByteArray := prog_9_method_13_code
def yX7_look : MethodName := ⟨RX7, "look", "(I)C"⟩
abbrev cX7_word : ByteArray := prog_9_method_14_code
def yX7_word : MethodName := ⟨RX7, "word", "(I)V"⟩
abbrev cX7_deepness : ByteArray := prog_9_method_15_code
def yX7_deepness : MethodName := ⟨RX7, "deepness", "()I"⟩
abbrev cX7_termDone : ByteArray := prog_9_method_16_code
def yX7_termDone : MethodName := ⟨RX7, "termDone", "()V"⟩
abbrev cX7_put : ByteArray := prog_9_method_17_code
def yX7_put : MethodName := ⟨RX7, "put", "(C)V"⟩
abbrev cX7_condition : ByteArray := prog_9_method_18_code
def yX7_condition : MethodName := ⟨RX7, "condition", "()I"⟩
abbrev cX7_read : ByteArray := prog_9_method_19_code
def yX7_read : MethodName := ⟨RX7, "read", "(I)I"⟩
abbrev cX7_rule : ByteArray := prog_9_method_20_code
def yX7_rule : MethodName := ⟨RX7, "rule", "()I"⟩
abbrev cX7_forget : ByteArray := prog_9_method_21_code
def yX7_forget : MethodName := ⟨RX7, "forget", "()I"⟩
abbrev cX7_note : ByteArray := prog_9_method_22_code
def yX7_note : MethodName := ⟨RX7, "note", "(II)V"⟩
abbrev cX7_warns : ByteArray := prog_9_method_23_code
def yX7_warns : MethodName := ⟨RX7, "warns", "(I)Z"⟩
abbrev cX7_faults : ByteArray := prog_9_method_24_code
def yX7_faults : MethodName := ⟨RX7, "faults", "()I"⟩
abbrev cX7_sense : ByteArray := prog_9_method_25_code
def yX7_sense : MethodName := ⟨RX7, "sense", "(I)V"⟩
abbrev cX7_ask : ByteArray := prog_9_method_26_code
def yX7_ask : MethodName := ⟨RX7, "ask", "(I)V"⟩
abbrev cX7_burns : ByteArray := prog_9_method_27_code
def yX7_burns : MethodName := ⟨RX7, "burns", "(I)Z"⟩
abbrev cX7_holds : ByteArray := prog_9_method_28_code
def yX7_holds : MethodName := ⟨RX7, "holds", "(I)Z"⟩
abbrev cX7_drive : ByteArray := prog_9_method_29_code
def yX7_drive : MethodName := ⟨RX7, "drive", "()V"⟩
abbrev cX7_poll : ByteArray := prog_9_method_30_code
def yX7_poll : MethodName := ⟨RX7, "poll", "()I"⟩
abbrev cX7_key : ByteArray := prog_9_method_31_code
def yX7_key : MethodName := ⟨RX7, "key", "(I)I"⟩
abbrev cX7_silence : ByteArray := prog_9_method_32_code
def yX7_silence : MethodName := ⟨RX7, "silence", "()Z"⟩
abbrev cX7_reset : ByteArray := prog_9_method_33_code
def yX7_reset : MethodName := ⟨RX7, "reset", "()I"⟩
abbrev cX7_off : ByteArray := prog_9_method_34_code
def yX7_off : MethodName := ⟨RX7, "off", "(ZIZ)Z"⟩
abbrev cX7_level : ByteArray := prog_9_method_35_code
def yX7_level : MethodName := ⟨RX7, "level", "(I)F"⟩
abbrev cX7_base : ByteArray := prog_9_method_36_code
def yX7_base : MethodName := ⟨RX7, "base", "(I)F"⟩
abbrev cX7_place : ByteArray := prog_9_method_37_code
def yX7_place : MethodName := ⟨RX7, "place", "(I)I"⟩
abbrev cX7_zone : ByteArray := prog_9_method_38_code
def yX7_zone : MethodName := ⟨RX7, "zone", "(I)I"⟩
abbrev cX7_output : ByteArray := prog_9_method_39_code
def yX7_output : MethodName := ⟨RX7, "output", "(I)I"⟩
abbrev cX7_held : ByteArray := prog_9_method_40_code
def yX7_held : MethodName := ⟨RX7, "held", "(I)I"⟩
abbrev cX7_log : ByteArray := prog_9_method_41_code
def yX7_log : MethodName := ⟨RX7, "log", "(II)I"⟩
abbrev cX7_count : ByteArray := prog_9_method_42_code
def yX7_count : MethodName := ⟨RX7, "count", "(I)I"⟩
def RJ9 : String := "java/lang/Math"
def TJ9 : u_T := fun k => match k with
  | _ => ("", "", "", false)
def tyJ9 : Nat → FieldType := fun k => match k with
  | _ => .int
abbrev wsJ90 : List Cond := u_ws RJ9 TJ9 0
theorem nmJ9 : ∀ a, a < 0 → ∀ b, b < 0 → a ≠ b → (TJ9 a).2.1 ≠ (TJ9 b).2.1 := by decide +kernel
theorem tyJ9_ok : ∀ k, k < 0 → parseFieldDescriptor (TJ9 k).2.2.1 = some (tyJ9 k) := by decide +kernel
abbrev cJ9_min_7cf53 : ByteArray := prog_13_method_69_code
def yJ9_min_7cf53 : MethodName := ⟨RJ9, "min", "(II)I"⟩
def RJ0 : String := "java/lang/String"
def TJ0 : u_T := fun k => match k with
  | _ => ("", "", "", false)
def tyJ0 : Nat → FieldType := fun k => match k with
  | _ => .int
abbrev wsJ00 : List Cond := u_ws RJ0 TJ0 0
theorem nmJ0 : ∀ a, a < 0 → ∀ b, b < 0 → a ≠ b → (TJ0 a).2.1 ≠ (TJ0 b).2.1 := by decide +kernel
theorem tyJ0_ok : ∀ k, k < 0 → parseFieldDescriptor (TJ0 k).2.2.1 = some (tyJ0 k) := by decide +kernel
def RJ10 : String := "java/lang/System"
def TJ10 : u_T := fun k => match k with
  | _ => ("", "", "", false)
def tyJ10 : Nat → FieldType := fun k => match k with
  | _ => .int
abbrev wsJ100 : List Cond := u_ws RJ10 TJ10 0
theorem nmJ10 : ∀ a, a < 0 → ∀ b, b < 0 → a ≠ b → (TJ10 a).2.1 ≠ (TJ10 b).2.1 := by decide +kernel
theorem tyJ10_ok : ∀ k, k < 0 → parseFieldDescriptor (TJ10 k).2.2.1 = some (tyJ10 k) := by decide +kernel
def RL : String := "FirePanelLaw"
abbrev cL_fit : ByteArray := method_3_code
def yL_fit : MethodName := ⟨RL, "fit", "(LFirePanel;IIIF)I"⟩
abbrev cL_need : ByteArray := method_4_code
def yL_need : MethodName := ⟨RL, "need", "(LFirePanel;II)I"⟩
abbrev cL_wire : ByteArray := method_5_code
def yL_wire : MethodName := ⟨RL, "wire", "(LFirePanel;II)I"⟩
abbrev cL_reading : ByteArray := method_6_code
def yL_reading : MethodName := ⟨RL, "reading", "(LFirePanel;IF)I"⟩
abbrev cL_rule : ByteArray := method_7_code
def yL_rule : MethodName := ⟨RL, "rule", "(LFirePanel;[J)I"⟩
abbrev cL_forget : ByteArray := method_8_code
def yL_forget : MethodName := ⟨RL, "forget", "(LFirePanel;[J)I"⟩
abbrev cL_silence : ByteArray := method_9_code
def yL_silence : MethodName := ⟨RL, "silence", "(LFirePanel;[J)I"⟩
abbrev cL_reset : ByteArray := method_10_code
def yL_reset : MethodName := ⟨RL, "reset", "(LFirePanel;[J)I"⟩
abbrev cL_off : ByteArray := method_11_code
def yL_off : MethodName := ⟨RL, "off", "(LFirePanel;ZIZ[J)I"⟩
abbrev cL_level : ByteArray := method_12_code
def yL_level : MethodName := ⟨RL, "level", "(LFirePanel;I[D)I"⟩
abbrev cL_base : ByteArray := method_13_code
def yL_base : MethodName := ⟨RL, "base", "(LFirePanel;I[D)I"⟩
abbrev cL_place : ByteArray := method_14_code
def yL_place : MethodName := ⟨RL, "place", "(LFirePanel;I[J)I"⟩
abbrev cL_zone : ByteArray := method_15_code
def yL_zone : MethodName := ⟨RL, "zone", "(LFirePanel;I[J)I"⟩
abbrev cL_output : ByteArray := method_16_code
def yL_output : MethodName := ⟨RL, "output", "(LFirePanel;I[J)I"⟩
abbrev cL_held : ByteArray := method_17_code
def yL_held : MethodName := ⟨RL, "held", "(LFirePanel;I[J)I"⟩
abbrev cL_log : ByteArray := method_18_code
def yL_log : MethodName := ⟨RL, "log", "(LFirePanel;II[J)I"⟩
abbrev cL_count : ByteArray := method_19_code
def yL_count : MethodName := ⟨RL, "count", "(LFirePanel;I[J)I"⟩
abbrev cL_law : ByteArray := code
def yL_law : MethodName := ⟨RL, "law", "([I)Z"⟩
def wsX0_init : List Cond := .code yX0_init cX0_init 1 none :: ([.methodLink RX0 3 objectInit, .instanceMethod objectInit, .code objectInit ⟨#[0xb1]⟩ 1 none, .arrayClass .int, .fieldLink RX0 9 "FirePanel$Log" "words" "[I"] ++ wsX00)
def wsX0_add : List Cond := .code yX0_add cX0_add 4 none :: ([.fieldLink RX0 9 "FirePanel$Log" "words" "[I", .methodLink RX0 15 arraycopyName, .native arraycopyName, .static arraycopyName, .initialized "java/lang/System", .fieldLink RX0 21 "FirePanel$Log" "size" "I", .methodLink RX0 25 Lib.Math.min.name, .static Lib.Math.min.name, .initialized "java/lang/Math", .code Lib.Math.min.name Lib.Math.min.code 2 (some .int)] ++ wsX00)
def wsX1_init : List Cond := .code yX1_init cX1_init 1 none :: ([.methodLink RX1 3 objectInit, .instanceMethod objectInit, .code objectInit ⟨#[0xb1]⟩ 1 none, .arrayClass .char, .fieldLink RX1 9 "FirePanel$Pad" "text" "[C"] ++ wsX10)
def wsX1_standsInRules : List Cond := .code yX1_standsInRules cX1_standsInRules 1 (some .boolean) :: ([])
def wsX1_append : List Cond := .code yX1_append cX1_append 2 (some .boolean) :: ([.fieldLink RX1 19 "FirePanel$Pad" "length" "I", .fieldLink RX1 9 "FirePanel$Pad" "text" "[C", .methodLink RX1 15 yX1_standsInRules, .static yX1_standsInRules, .initialized RX1, .code yX1_standsInRules cX1_standsInRules 1 (some .boolean)] ++ wsX10)
def wsX4_clear : List Cond := .code yX4_clear cX4_clear 1 none :: ([.fieldLink RX4 15 "FirePanel$Rule" "stepCount" "I", .fieldLink RX4 19 "FirePanel$Rule" "output" "I", .fieldLink RX4 22 "FirePanel$Rule" "delay" "I", .fieldLink RX4 25 "FirePanel$Rule" "held" "I"] ++ wsX40)
def wsX1_sees : List Cond := .code yX1_sees cX1_sees 2 (some .boolean) :: ([.fieldLink RX1 23 "FirePanel$Pad" "at" "I", .fieldLink RX1 19 "FirePanel$Pad" "length" "I", .fieldLink RX1 9 "FirePanel$Pad" "text" "[C"] ++ wsX10)
def wsX4_addStep : List Cond := .code yX4_addStep cX4_addStep 2 none :: ([.fieldLink RX4 15 "FirePanel$Rule" "stepCount" "I", .fieldLink RX4 9 "FirePanel$Rule" "steps" "[I"] ++ wsX40)
def wsX1_passes : List Cond := .code yX1_passes cX1_passes 2 (some .boolean) :: ([.fieldLink RX1 23 "FirePanel$Pad" "at" "I", .methodLink RX1 42 yX1_sees, .instanceMethod yX1_sees, .selects RX1 yX1_sees yX1_sees, .initialized RX1, .code yX1_sees cX1_sees 2 (some .boolean), .fieldLink RX1 19 "FirePanel$Pad" "length" "I", .fieldLink RX1 9 "FirePanel$Pad" "text" "[C"] ++ wsX10)
def wsX1_readDigit : List Cond := .code yX1_readDigit cX1_readDigit 3 (some .int) :: ([.fieldLink RX1 23 "FirePanel$Pad" "at" "I", .fieldLink RX1 19 "FirePanel$Pad" "length" "I", .fieldLink RX1 9 "FirePanel$Pad" "text" "[C"] ++ wsX10)
def wsX1_readZone : List Cond := .code yX1_readZone cX1_readZone 4 (some .boolean) :: ([.methodLink RX1 55 yX1_readDigit, .instanceMethod yX1_readDigit, .selects RX1 yX1_readDigit yX1_readDigit, .initialized RX1, .code yX1_readDigit cX1_readDigit 3 (some .int), .fieldLink RX1 23 "FirePanel$Pad" "at" "I", .fieldLink RX1 19 "FirePanel$Pad" "length" "I", .fieldLink RX1 9 "FirePanel$Pad" "text" "[C", .methodLink RX1 45 yX4_addStep, .instanceMethod yX4_addStep, .selects RX4 yX4_addStep yX4_addStep, .initialized RX4, .code yX4_addStep cX4_addStep 2 none, .fieldLink RX4 15 "FirePanel$Rule" "stepCount" "I", .fieldLink RX4 9 "FirePanel$Rule" "steps" "[I"] ++ wsX10 ++ wsX40)
def wsX1_readCondition_r1 : List Cond := [Cond.fieldLink RX1 23 "FirePanel$Pad" "at" "I", Cond.methodLink RX1 39 yX1_readTerm, Cond.instanceMethod yX1_readTerm, Cond.selects RX1 yX1_readTerm yX1_readTerm, Cond.initialized RX1, Cond.methodLink RX1 42 yX1_sees, Cond.instanceMethod yX1_sees, Cond.selects RX1 yX1_sees yX1_sees, Cond.code yX1_sees cX1_sees 2 (some .boolean), Cond.fieldLink RX1 19 "FirePanel$Pad" "length" "I", Cond.fieldLink RX1 9 "FirePanel$Pad" "text" "[C", Cond.methodLink RX1 45 yX4_addStep, Cond.instanceMethod yX4_addStep, Cond.selects RX4 yX4_addStep yX4_addStep, Cond.initialized RX4, Cond.code yX4_addStep cX4_addStep 2 none, Cond.fieldLink RX4 15 "FirePanel$Rule" "stepCount" "I", Cond.fieldLink RX4 9 "FirePanel$Rule" "steps" "[I", Cond.code yX1_readTerm cX1_readTerm 3 (some .boolean), Cond.methodLink RX1 49 yX1_passes, Cond.instanceMethod yX1_passes, Cond.selects RX1 yX1_passes yX1_passes, Cond.code yX1_passes cX1_passes 2 (some .boolean), Cond.methodLink RX1 52 yX1_readZone]
def wsX1_readCondition_r2 : List Cond := [Cond.instanceMethod yX1_readZone, Cond.selects RX1 yX1_readZone yX1_readZone, Cond.code yX1_readZone cX1_readZone 4 (some .boolean), Cond.methodLink RX1 55 yX1_readDigit, Cond.instanceMethod yX1_readDigit, Cond.selects RX1 yX1_readDigit yX1_readDigit, Cond.code yX1_readDigit cX1_readDigit 3 (some .int), Cond.methodLink RX1 31 yX1_readCondition, Cond.instanceMethod yX1_readCondition, Cond.selects RX1 yX1_readCondition yX1_readCondition]
def wsX1_readCondition : List Cond := .code yX1_readCondition cX1_readCondition 5 (some .boolean) :: ((wsX1_readCondition_r1 ++ wsX1_readCondition_r2) ++ wsX10 ++ wsX40)
def wsX1_readTerm_r1 : List Cond := [Cond.methodLink RX1 49 yX1_passes, Cond.instanceMethod yX1_passes, Cond.selects RX1 yX1_passes yX1_passes, Cond.initialized RX1, Cond.code yX1_passes cX1_passes 2 (some .boolean), Cond.fieldLink RX1 23 "FirePanel$Pad" "at" "I", Cond.methodLink RX1 42 yX1_sees, Cond.instanceMethod yX1_sees, Cond.selects RX1 yX1_sees yX1_sees, Cond.code yX1_sees cX1_sees 2 (some .boolean), Cond.fieldLink RX1 19 "FirePanel$Pad" "length" "I", Cond.fieldLink RX1 9 "FirePanel$Pad" "text" "[C", Cond.methodLink RX1 52 yX1_readZone, Cond.instanceMethod yX1_readZone, Cond.selects RX1 yX1_readZone yX1_readZone, Cond.code yX1_readZone cX1_readZone 4 (some .boolean), Cond.methodLink RX1 55 yX1_readDigit, Cond.instanceMethod yX1_readDigit, Cond.selects RX1 yX1_readDigit yX1_readDigit, Cond.code yX1_readDigit cX1_readDigit 3 (some .int), Cond.methodLink RX1 45 yX4_addStep, Cond.instanceMethod yX4_addStep, Cond.selects RX4 yX4_addStep yX4_addStep, Cond.initialized RX4]
def wsX1_readTerm_r2 : List Cond := [Cond.code yX4_addStep cX4_addStep 2 none, Cond.fieldLink RX4 15 "FirePanel$Rule" "stepCount" "I", Cond.fieldLink RX4 9 "FirePanel$Rule" "steps" "[I", Cond.methodLink RX1 31 yX1_readCondition, Cond.instanceMethod yX1_readCondition, Cond.selects RX1 yX1_readCondition yX1_readCondition, Cond.methodLink RX1 39 yX1_readTerm, Cond.instanceMethod yX1_readTerm, Cond.selects RX1 yX1_readTerm yX1_readTerm, Cond.code yX1_readCondition cX1_readCondition 5 (some .boolean)]
def wsX1_readTerm : List Cond := .code yX1_readTerm cX1_readTerm 3 (some .boolean) :: ((wsX1_readTerm_r1 ++ wsX1_readTerm_r2) ++ wsX10 ++ wsX40)
def wsX1_readTarget : List Cond := .code yX1_readTarget cX1_readTarget 2 (some .boolean) :: ([.fieldLink RX1 59 "FirePanel$Rule" "output" "I", .fieldLink RX1 62 "FirePanel$Rule" "delay" "I", .methodLink RX1 49 yX1_passes, .instanceMethod yX1_passes, .selects RX1 yX1_passes yX1_passes, .initialized RX1, .code yX1_passes cX1_passes 2 (some .boolean), .fieldLink RX1 23 "FirePanel$Pad" "at" "I", .methodLink RX1 42 yX1_sees, .instanceMethod yX1_sees, .selects RX1 yX1_sees yX1_sees, .code yX1_sees cX1_sees 2 (some .boolean), .fieldLink RX1 19 "FirePanel$Pad" "length" "I", .fieldLink RX1 9 "FirePanel$Pad" "text" "[C", .methodLink RX1 55 yX1_readDigit, .instanceMethod yX1_readDigit, .selects RX1 yX1_readDigit yX1_readDigit, .code yX1_readDigit cX1_readDigit 3 (some .int)] ++ wsX40 ++ wsX10)
def wsX1_readInto_r1 : List Cond := [Cond.fieldLink RX1 23 "FirePanel$Pad" "at" "I", Cond.fieldLink RX1 19 "FirePanel$Pad" "length" "I", Cond.methodLink RX1 26 yX4_clear, Cond.instanceMethod yX4_clear, Cond.selects RX4 yX4_clear yX4_clear, Cond.initialized RX4, Cond.code yX4_clear cX4_clear 1 none, Cond.fieldLink RX4 15 "FirePanel$Rule" "stepCount" "I", Cond.fieldLink RX4 19 "FirePanel$Rule" "output" "I", Cond.fieldLink RX4 22 "FirePanel$Rule" "delay" "I", Cond.fieldLink RX4 25 "FirePanel$Rule" "held" "I", Cond.methodLink RX1 31 yX1_readCondition, Cond.instanceMethod yX1_readCondition, Cond.selects RX1 yX1_readCondition yX1_readCondition, Cond.initialized RX1, Cond.code yX1_readCondition cX1_readCondition 5 (some .boolean), Cond.methodLink RX1 39 yX1_readTerm, Cond.instanceMethod yX1_readTerm, Cond.selects RX1 yX1_readTerm yX1_readTerm, Cond.methodLink RX1 42 yX1_sees, Cond.instanceMethod yX1_sees, Cond.selects RX1 yX1_sees yX1_sees, Cond.code yX1_sees cX1_sees 2 (some .boolean), Cond.fieldLink RX1 9 "FirePanel$Pad" "text" "[C"]
def wsX1_readInto_r2 : List Cond := [Cond.methodLink RX1 45 yX4_addStep, Cond.instanceMethod yX4_addStep, Cond.selects RX4 yX4_addStep yX4_addStep, Cond.code yX4_addStep cX4_addStep 2 none, Cond.fieldLink RX4 9 "FirePanel$Rule" "steps" "[I", Cond.code yX1_readTerm cX1_readTerm 3 (some .boolean), Cond.methodLink RX1 49 yX1_passes, Cond.instanceMethod yX1_passes, Cond.selects RX1 yX1_passes yX1_passes, Cond.code yX1_passes cX1_passes 2 (some .boolean), Cond.methodLink RX1 52 yX1_readZone, Cond.instanceMethod yX1_readZone, Cond.selects RX1 yX1_readZone yX1_readZone, Cond.code yX1_readZone cX1_readZone 4 (some .boolean), Cond.methodLink RX1 55 yX1_readDigit, Cond.instanceMethod yX1_readDigit, Cond.selects RX1 yX1_readDigit yX1_readDigit, Cond.code yX1_readDigit cX1_readDigit 3 (some .int), Cond.methodLink RX1 35 yX1_readTarget, Cond.instanceMethod yX1_readTarget, Cond.selects RX1 yX1_readTarget yX1_readTarget, Cond.code yX1_readTarget cX1_readTarget 2 (some .boolean), Cond.fieldLink RX1 59 "FirePanel$Rule" "output" "I", Cond.fieldLink RX1 62 "FirePanel$Rule" "delay" "I"]
def wsX1_readInto : List Cond := .code yX1_readInto cX1_readInto 3 (some .int) :: ((wsX1_readInto_r1 ++ wsX1_readInto_r2) ++ wsX10 ++ wsX40)
def wsX2_init : List Cond := .code yX2_init cX2_init 1 none :: ([.methodLink RX2 3 objectInit, .instanceMethod objectInit, .code objectInit ⟨#[0xb1]⟩ 1 none])
def wsX2_begin : List Cond := .code yX2_begin cX2_begin 4 none :: ([.fieldLink RX2 9 "FirePanel$Place" "kind" "I", .fieldLink RX2 15 "FirePanel$Place" "zone" "I", .fieldLink RX2 18 "FirePanel$Place" "threshold" "F", .fieldLink RX2 22 "FirePanel$Place" "base" "F", .fieldLink RX2 25 "FirePanel$Place" "level" "F", .fieldLink RX2 28 "FirePanel$Place" "over" "I", .fieldLink RX2 31 "FirePanel$Place" "inAlarm" "Z", .fieldLink RX2 35 "FirePanel$Place" "missed" "I", .fieldLink RX2 38 "FirePanel$Place" "atFault" "Z"] ++ wsX20)
def wsX2_isSensor : List Cond := .code yX2_isSensor cX2_isSensor 1 (some .boolean) :: ([.fieldLink RX2 9 "FirePanel$Place" "kind" "I"] ++ wsX20)
def wsX2_watches : List Cond := .code yX2_watches cX2_watches 2 (some .boolean) :: ([.fieldLink RX2 15 "FirePanel$Place" "zone" "I", .fieldLink RX2 45 "FirePanel$Place" "isOff" "Z", .methodLink RX2 41 yX2_isSensor, .instanceMethod yX2_isSensor, .selects RX2 yX2_isSensor yX2_isSensor, .initialized RX2, .code yX2_isSensor cX2_isSensor 1 (some .boolean), .fieldLink RX2 9 "FirePanel$Place" "kind" "I"] ++ wsX20)
def wsX2_warns : List Cond := .code yX2_warns cX2_warns 1 (some .boolean) :: ([.fieldLink RX2 31 "FirePanel$Place" "inAlarm" "Z", .fieldLink RX2 9 "FirePanel$Place" "kind" "I", .fieldLink RX2 25 "FirePanel$Place" "level" "F", .fieldLink RX2 18 "FirePanel$Place" "threshold" "F", .constantFloat RX2 48 (1061158912)] ++ wsX20)
def wsX2_countOver : List Cond := .code yX2_countOver cX2_countOver 1 none :: ([.fieldLink RX2 25 "FirePanel$Place" "level" "F", .fieldLink RX2 18 "FirePanel$Place" "threshold" "F", .fieldLink RX2 28 "FirePanel$Place" "over" "I"] ++ wsX20)
def wsX2_senseSmoke : List Cond := .code yX2_senseSmoke cX2_senseSmoke 2 none :: ([.fieldLink RX2 58 "FirePanel$Place" "reading" "F", .fieldLink RX2 22 "FirePanel$Place" "base" "F", .fieldLink RX2 25 "FirePanel$Place" "level" "F", .constantFloat RX2 61 (1056964608), .fieldLink RX2 28 "FirePanel$Place" "over" "I", .constantFloat RX2 65 (1031798784), .methodLink RX2 62 yX2_countOver, .instanceMethod yX2_countOver, .selects RX2 yX2_countOver yX2_countOver, .initialized RX2, .code yX2_countOver cX2_countOver 1 none, .fieldLink RX2 18 "FirePanel$Place" "threshold" "F"] ++ wsX20)
def wsX2_senseHeat : List Cond := .code yX2_senseHeat cX2_senseHeat 1 none :: ([.fieldLink RX2 58 "FirePanel$Place" "reading" "F", .fieldLink RX2 22 "FirePanel$Place" "base" "F", .constantFloat RX2 66 (1082130432), .constantFloat RX2 67 (1048576000), .fieldLink RX2 25 "FirePanel$Place" "level" "F", .methodLink RX2 62 yX2_countOver, .instanceMethod yX2_countOver, .selects RX2 yX2_countOver yX2_countOver, .initialized RX2, .code yX2_countOver cX2_countOver 1 none, .fieldLink RX2 18 "FirePanel$Place" "threshold" "F", .fieldLink RX2 28 "FirePanel$Place" "over" "I"] ++ wsX20)
def wsX2_senseButton : List Cond := .code yX2_senseButton cX2_senseButton 1 none :: ([.fieldLink RX2 58 "FirePanel$Place" "reading" "F", .fieldLink RX2 28 "FirePanel$Place" "over" "I", .fieldLink RX2 25 "FirePanel$Place" "level" "F"] ++ wsX20)
def wsX2_sense_r1 : List Cond := [Cond.fieldLink RX2 9 "FirePanel$Place" "kind" "I", Cond.fieldLink RX2 28 "FirePanel$Place" "over" "I", Cond.fieldLink RX2 31 "FirePanel$Place" "inAlarm" "Z", Cond.methodLink RX2 49 yX2_senseSmoke, Cond.instanceMethod yX2_senseSmoke, Cond.selects RX2 yX2_senseSmoke yX2_senseSmoke, Cond.initialized RX2, Cond.code yX2_senseSmoke cX2_senseSmoke 2 none, Cond.fieldLink RX2 58 "FirePanel$Place" "reading" "F", Cond.fieldLink RX2 22 "FirePanel$Place" "base" "F", Cond.fieldLink RX2 25 "FirePanel$Place" "level" "F", Cond.constantFloat RX2 61 (1056964608), Cond.constantFloat RX2 65 (1031798784), Cond.methodLink RX2 62 yX2_countOver, Cond.instanceMethod yX2_countOver, Cond.selects RX2 yX2_countOver yX2_countOver, Cond.code yX2_countOver cX2_countOver 1 none, Cond.fieldLink RX2 18 "FirePanel$Place" "threshold" "F", Cond.methodLink RX2 52 yX2_senseHeat, Cond.instanceMethod yX2_senseHeat, Cond.selects RX2 yX2_senseHeat yX2_senseHeat, Cond.code yX2_senseHeat cX2_senseHeat 1 none, Cond.constantFloat RX2 66 (1082130432), Cond.constantFloat RX2 67 (1048576000)]
def wsX2_sense_r2 : List Cond := [Cond.methodLink RX2 55 yX2_senseButton, Cond.instanceMethod yX2_senseButton, Cond.selects RX2 yX2_senseButton yX2_senseButton, Cond.code yX2_senseButton cX2_senseButton 1 none]
def wsX2_sense : List Cond := .code yX2_sense cX2_sense 1 none :: ((wsX2_sense_r1 ++ wsX2_sense_r2) ++ wsX20)
def wsX2_calmDown : List Cond := .code yX2_calmDown cX2_calmDown 1 none :: ([.fieldLink RX2 31 "FirePanel$Place" "inAlarm" "Z", .fieldLink RX2 28 "FirePanel$Place" "over" "I"] ++ wsX20)
def wsX3_init : List Cond := .code yX3_init cX3_init 2 none :: ([.methodLink RX3 3 objectInit, .instanceMethod objectInit, .code objectInit ⟨#[0xb1]⟩ 1 none, .classLink RX3 9 RX2, .fieldLink RX3 11 "FirePanel$Ring" "places" "[LFirePanel$Place;", .instantiable RX2 11, .initialized RX2, .arrayClass .int, .fieldLink RX3 18 "FirePanel$Ring" "wires" "[I", .methodLink RX3 17 yX2_init, .instanceMethod yX2_init, .code yX2_init cX2_init 1 none, .methodLink RX2 3 objectInit] ++ wsX30 ++ wsX20)
def wsX3_endsStretch : List Cond := .code yX3_endsStretch cX3_endsStretch 2 (some .boolean) :: ([.fieldLink RX3 11 "FirePanel$Ring" "places" "[LFirePanel$Place;", .fieldLink RX3 30 "FirePanel$Place" "kind" "I"] ++ wsX30 ++ wsX20)
def wsX3_passableWires : List Cond := .code yX3_passableWires cX3_passableWires 5 (some .int) :: ([.fieldLink RX3 18 "FirePanel$Ring" "wires" "[I", .methodLink RX3 26 yX3_endsStretch, .instanceMethod yX3_endsStretch, .selects RX3 yX3_endsStretch yX3_endsStretch, .initialized RX3, .code yX3_endsStretch cX3_endsStretch 2 (some .boolean), .fieldLink RX3 11 "FirePanel$Ring" "places" "[LFirePanel$Place;", .fieldLink RX3 30 "FirePanel$Place" "kind" "I"] ++ wsX30 ++ wsX20)
def wsX3_reachedPlaces : List Cond := .code yX3_reachedPlaces cX3_reachedPlaces 4 (some .int) :: ([.methodLink RX3 22 yX3_passableWires, .instanceMethod yX3_passableWires, .selects RX3 yX3_passableWires yX3_passableWires, .initialized RX3, .code yX3_passableWires cX3_passableWires 5 (some .int), .fieldLink RX3 18 "FirePanel$Ring" "wires" "[I", .methodLink RX3 26 yX3_endsStretch, .instanceMethod yX3_endsStretch, .selects RX3 yX3_endsStretch yX3_endsStretch, .code yX3_endsStretch cX3_endsStretch 2 (some .boolean), .fieldLink RX3 11 "FirePanel$Ring" "places" "[LFirePanel$Place;", .fieldLink RX3 30 "FirePanel$Place" "kind" "I"] ++ wsX30 ++ wsX20)
def wsX4_init : List Cond := .code yX4_init cX4_init 1 none :: ([.methodLink RX4 3 objectInit, .instanceMethod objectInit, .code objectInit ⟨#[0xb1]⟩ 1 none, .arrayClass .int, .fieldLink RX4 9 "FirePanel$Rule" "steps" "[I"] ++ wsX40)
def wsX4_workOff : List Cond := .code yX4_workOff cX4_workOff 5 (some .int) :: ([])
def wsX4_isTrue : List Cond := .code yX4_isTrue cX4_isTrue 4 (some .boolean) :: ([.fieldLink RX4 15 "FirePanel$Rule" "stepCount" "I", .fieldLink RX4 9 "FirePanel$Rule" "steps" "[I", .methodLink RX4 28 yX4_workOff, .static yX4_workOff, .initialized RX4, .code yX4_workOff cX4_workOff 5 (some .int)] ++ wsX40)
def wsX5_init : List Cond := .code yX5_init cX5_init 1 none :: ([.methodLink RX5 1 objectInit, .instanceMethod objectInit, .code objectInit ⟨#[0xb1]⟩ 1 none, .fieldLink RX5 7 "FirePanel$Zone" "needed" "I"] ++ wsX50)
def wsX6_init_r1 : List Cond := [Cond.methodLink RX6 1 objectInit, Cond.instanceMethod objectInit, Cond.code objectInit ⟨#[0xb1]⟩ 1 none, Cond.classLink RX6 7 RX3, Cond.instantiable RX3 2, Cond.initialized RX3, Cond.fieldLink RX6 10 "FirePanel" "ring" "LFirePanel$Ring;", Cond.classLink RX6 16 RX5, Cond.fieldLink RX6 18 "FirePanel" "zones" "[LFirePanel$Zone;", Cond.instantiable RX5 3, Cond.initialized RX5, Cond.classLink RX6 23 RX4, Cond.fieldLink RX6 25 "FirePanel" "rules" "[LFirePanel$Rule;", Cond.instantiable RX4 5, Cond.initialized RX4, Cond.arrayClass .boolean, Cond.fieldLink RX6 30 "FirePanel" "outputsOn" "[Z", Cond.classLink RX6 34 RX1, Cond.instantiable RX1 3, Cond.initialized RX1, Cond.fieldLink RX6 37 "FirePanel" "pad" "LFirePanel$Pad;", Cond.classLink RX6 41 RX0, Cond.instantiable RX0 2, Cond.initialized RX0]
def wsX6_init_r2 : List Cond := [Cond.fieldLink RX6 44 "FirePanel" "entries" "LFirePanel$Log;", Cond.methodLink RX6 9 yX3_init, Cond.instanceMethod yX3_init, Cond.code yX3_init cX3_init 2 none, Cond.methodLink RX3 3 objectInit, Cond.classLink RX3 9 RX2, Cond.fieldLink RX3 11 "FirePanel$Ring" "places" "[LFirePanel$Place;", Cond.instantiable RX2 11, Cond.initialized RX2, Cond.arrayClass .int, Cond.fieldLink RX3 18 "FirePanel$Ring" "wires" "[I", Cond.methodLink RX3 17 yX2_init, Cond.instanceMethod yX2_init, Cond.code yX2_init cX2_init 1 none, Cond.methodLink RX2 3 objectInit, Cond.methodLink RX6 22 yX5_init, Cond.instanceMethod yX5_init, Cond.code yX5_init cX5_init 1 none, Cond.methodLink RX5 1 objectInit, Cond.fieldLink RX5 7 "FirePanel$Zone" "needed" "I", Cond.methodLink RX6 29 yX4_init, Cond.instanceMethod yX4_init, Cond.code yX4_init cX4_init 1 none, Cond.methodLink RX4 3 objectInit]
def wsX6_init_r3 : List Cond := [Cond.fieldLink RX4 9 "FirePanel$Rule" "steps" "[I", Cond.methodLink RX6 36 yX1_init, Cond.instanceMethod yX1_init, Cond.code yX1_init cX1_init 1 none, Cond.methodLink RX1 3 objectInit, Cond.arrayClass .char, Cond.fieldLink RX1 9 "FirePanel$Pad" "text" "[C", Cond.methodLink RX6 43 yX0_init, Cond.instanceMethod yX0_init, Cond.code yX0_init cX0_init 1 none, Cond.methodLink RX0 3 objectInit, Cond.fieldLink RX0 9 "FirePanel$Log" "words" "[I"]
def wsX6_init : List Cond := .code yX6_init cX6_init 2 none :: ((wsX6_init_r1 ++ (wsX6_init_r2 ++ wsX6_init_r3)) ++ wsX30 ++ wsX60 ++ wsX50 ++ wsX40 ++ wsX10 ++ wsX00 ++ wsX20)
def wsX6_mustExist : List Cond := .code yX6_mustExist cX6_mustExist 2 none :: ([.classLink RX6 192 "java/util/NoSuchElementException", .initialized "java/util/NoSuchElementException"] ++ (vx_atS RX6 196 "java/util/NoSuchElementException" ["java/lang/RuntimeException", "java/lang/Exception"]).filter goodWord)
def wsX6_mustBeAllowed : List Cond := .code yX6_mustBeAllowed cX6_mustBeAllowed 1 none :: ([.classLink RX6 187 "java/lang/IllegalArgumentException", .initialized "java/lang/IllegalArgumentException"] ++ (vx_atS RX6 191 "java/lang/IllegalArgumentException" ["java/lang/RuntimeException", "java/lang/Exception"]).filter goodWord)
def wsX6_mustHaveEntered : List Cond := .code yX6_mustHaveEntered cX6_mustHaveEntered 2 none :: ([.classLink RX6 93 "java/lang/IllegalStateException", .initialized "java/lang/IllegalStateException", .fieldLink RX6 126 "FirePanel" "entered" "I"] ++ wsX60 ++ (vx_atS RX6 97 "java/lang/IllegalStateException" ["java/lang/RuntimeException", "java/lang/Exception"]).filter goodWord)
def wsX6_fit_r1 : List Cond := [Cond.constantFloat RX6 56 (1056964608), Cond.constantFloat RX6 57 (1120403456), Cond.fieldLink RX6 10 "FirePanel" "ring" "LFirePanel$Ring;", Cond.fieldLink RX6 62 "FirePanel$Ring" "places" "[LFirePanel$Place;", Cond.methodLink RX6 48 yX6_mustExist, Cond.static yX6_mustExist, Cond.initialized RX6, Cond.code yX6_mustExist cX6_mustExist 2 none, Cond.classLink RX6 192 "java/util/NoSuchElementException", Cond.initialized "java/util/NoSuchElementException", Cond.methodLink RX6 52 yX6_mustBeAllowed, Cond.static yX6_mustBeAllowed, Cond.code yX6_mustBeAllowed cX6_mustBeAllowed 1 none, Cond.classLink RX6 187 "java/lang/IllegalArgumentException", Cond.initialized "java/lang/IllegalArgumentException", Cond.methodLink RX6 58 yX6_mustHaveEntered, Cond.instanceMethod yX6_mustHaveEntered, Cond.selects RX6 yX6_mustHaveEntered yX6_mustHaveEntered, Cond.code yX6_mustHaveEntered cX6_mustHaveEntered 2 none, Cond.classLink RX6 93 "java/lang/IllegalStateException", Cond.initialized "java/lang/IllegalStateException", Cond.fieldLink RX6 126 "FirePanel" "entered" "I", Cond.methodLink RX6 66 yX2_begin, Cond.instanceMethod yX2_begin]
def wsX6_fit_r2 : List Cond := [Cond.selects RX2 yX2_begin yX2_begin, Cond.initialized RX2, Cond.code yX2_begin cX2_begin 4 none, Cond.fieldLink RX2 9 "FirePanel$Place" "kind" "I", Cond.fieldLink RX2 15 "FirePanel$Place" "zone" "I", Cond.fieldLink RX2 18 "FirePanel$Place" "threshold" "F", Cond.fieldLink RX2 22 "FirePanel$Place" "base" "F", Cond.fieldLink RX2 25 "FirePanel$Place" "level" "F", Cond.fieldLink RX2 28 "FirePanel$Place" "over" "I", Cond.fieldLink RX2 31 "FirePanel$Place" "inAlarm" "Z", Cond.fieldLink RX2 35 "FirePanel$Place" "missed" "I", Cond.fieldLink RX2 38 "FirePanel$Place" "atFault" "Z"]
def wsX6_fit : List Cond := .code yX6_fit cX6_fit 5 none :: ((wsX6_fit_r1 ++ wsX6_fit_r2) ++ wsX60 ++ wsX30 ++ wsX20 ++ (vx_atS RX6 196 "java/util/NoSuchElementException" ["java/lang/RuntimeException", "java/lang/Exception"]).filter goodWord ++ (vx_atS RX6 191 "java/lang/IllegalArgumentException" ["java/lang/RuntimeException", "java/lang/Exception"]).filter goodWord ++ (vx_atS RX6 97 "java/lang/IllegalStateException" ["java/lang/RuntimeException", "java/lang/Exception"]).filter goodWord)
def wsX6_need : List Cond := .code yX6_need cX6_need 3 none :: ([.fieldLink RX6 18 "FirePanel" "zones" "[LFirePanel$Zone;", .fieldLink RX6 72 "FirePanel$Zone" "needed" "I", .methodLink RX6 48 yX6_mustExist, .static yX6_mustExist, .initialized RX6, .code yX6_mustExist cX6_mustExist 2 none, .classLink RX6 192 "java/util/NoSuchElementException", .initialized "java/util/NoSuchElementException", .methodLink RX6 52 yX6_mustBeAllowed, .static yX6_mustBeAllowed, .code yX6_mustBeAllowed cX6_mustBeAllowed 1 none, .classLink RX6 187 "java/lang/IllegalArgumentException", .initialized "java/lang/IllegalArgumentException", .methodLink RX6 58 yX6_mustHaveEntered, .instanceMethod yX6_mustHaveEntered, .selects RX6 yX6_mustHaveEntered yX6_mustHaveEntered, .code yX6_mustHaveEntered cX6_mustHaveEntered 2 none, .classLink RX6 93 "java/lang/IllegalStateException", .initialized "java/lang/IllegalStateException", .fieldLink RX6 126 "FirePanel" "entered" "I"] ++ wsX60 ++ wsX50 ++ (vx_atS RX6 196 "java/util/NoSuchElementException" ["java/lang/RuntimeException", "java/lang/Exception"]).filter goodWord ++ (vx_atS RX6 191 "java/lang/IllegalArgumentException" ["java/lang/RuntimeException", "java/lang/Exception"]).filter goodWord ++ (vx_atS RX6 97 "java/lang/IllegalStateException" ["java/lang/RuntimeException", "java/lang/Exception"]).filter goodWord)
def wsX6_wire : List Cond := .code yX6_wire cX6_wire 3 none :: ([.fieldLink RX6 10 "FirePanel" "ring" "LFirePanel$Ring;", .fieldLink RX6 76 "FirePanel$Ring" "wires" "[I", .methodLink RX6 48 yX6_mustExist, .static yX6_mustExist, .initialized RX6, .code yX6_mustExist cX6_mustExist 2 none, .classLink RX6 192 "java/util/NoSuchElementException", .initialized "java/util/NoSuchElementException", .methodLink RX6 52 yX6_mustBeAllowed, .static yX6_mustBeAllowed, .code yX6_mustBeAllowed cX6_mustBeAllowed 1 none, .classLink RX6 187 "java/lang/IllegalArgumentException", .initialized "java/lang/IllegalArgumentException"] ++ wsX60 ++ wsX30 ++ (vx_atS RX6 196 "java/util/NoSuchElementException" ["java/lang/RuntimeException", "java/lang/Exception"]).filter goodWord ++ (vx_atS RX6 191 "java/lang/IllegalArgumentException" ["java/lang/RuntimeException", "java/lang/Exception"]).filter goodWord)
def wsX6_reading : List Cond := .code yX6_reading cX6_reading 3 none :: ([.constantFloat RX6 80 (3267887104), .constantFloat RX6 81 (1128792064), .fieldLink RX6 10 "FirePanel" "ring" "LFirePanel$Ring;", .fieldLink RX6 62 "FirePanel$Ring" "places" "[LFirePanel$Place;", .fieldLink RX6 82 "FirePanel$Place" "reading" "F", .methodLink RX6 48 yX6_mustExist, .static yX6_mustExist, .initialized RX6, .code yX6_mustExist cX6_mustExist 2 none, .classLink RX6 192 "java/util/NoSuchElementException", .initialized "java/util/NoSuchElementException", .methodLink RX6 52 yX6_mustBeAllowed, .static yX6_mustBeAllowed, .code yX6_mustBeAllowed cX6_mustBeAllowed 1 none, .classLink RX6 187 "java/lang/IllegalArgumentException", .initialized "java/lang/IllegalArgumentException"] ++ wsX60 ++ wsX30 ++ wsX20 ++ (vx_atS RX6 196 "java/util/NoSuchElementException" ["java/lang/RuntimeException", "java/lang/Exception"]).filter goodWord ++ (vx_atS RX6 191 "java/lang/IllegalArgumentException" ["java/lang/RuntimeException", "java/lang/Exception"]).filter goodWord)
def wsX6_type : List Cond := .code yX6_type cX6_type 2 (some .boolean) :: ([.fieldLink RX6 37 "FirePanel" "pad" "LFirePanel$Pad;", .methodLink RX6 86 yX1_append, .instanceMethod yX1_append, .selects RX1 yX1_append yX1_append, .initialized RX1, .code yX1_append cX1_append 2 (some .boolean), .fieldLink RX1 19 "FirePanel$Pad" "length" "I", .fieldLink RX1 9 "FirePanel$Pad" "text" "[C", .methodLink RX1 15 yX1_standsInRules, .static yX1_standsInRules, .code yX1_standsInRules cX1_standsInRules 1 (some .boolean)] ++ wsX60 ++ wsX10)
def wsX6_rule_r1 : List Cond := [Cond.classLink RX6 93 "java/lang/IllegalStateException", Cond.initialized "java/lang/IllegalStateException", Cond.fieldLink RX6 90 "FirePanel" "ruleCount" "I", Cond.fieldLink RX6 37 "FirePanel" "pad" "LFirePanel$Pad;", Cond.fieldLink RX6 25 "FirePanel" "rules" "[LFirePanel$Rule;", Cond.fieldLink RX6 104 "FirePanel$Pad" "length" "I", Cond.methodLink RX6 58 yX6_mustHaveEntered, Cond.instanceMethod yX6_mustHaveEntered, Cond.selects RX6 yX6_mustHaveEntered yX6_mustHaveEntered, Cond.initialized RX6, Cond.code yX6_mustHaveEntered cX6_mustHaveEntered 2 none, Cond.fieldLink RX6 126 "FirePanel" "entered" "I", Cond.methodLink RX6 100 yX1_readInto, Cond.instanceMethod yX1_readInto, Cond.selects RX1 yX1_readInto yX1_readInto, Cond.initialized RX1, Cond.code yX1_readInto cX1_readInto 3 (some .int), Cond.fieldLink RX1 23 "FirePanel$Pad" "at" "I", Cond.fieldLink RX1 19 "FirePanel$Pad" "length" "I", Cond.methodLink RX1 26 yX4_clear, Cond.instanceMethod yX4_clear, Cond.selects RX4 yX4_clear yX4_clear, Cond.initialized RX4, Cond.code yX4_clear cX4_clear 1 none]
def wsX6_rule_r2 : List Cond := [Cond.fieldLink RX4 15 "FirePanel$Rule" "stepCount" "I", Cond.fieldLink RX4 19 "FirePanel$Rule" "output" "I", Cond.fieldLink RX4 22 "FirePanel$Rule" "delay" "I", Cond.fieldLink RX4 25 "FirePanel$Rule" "held" "I", Cond.methodLink RX1 31 yX1_readCondition, Cond.instanceMethod yX1_readCondition, Cond.selects RX1 yX1_readCondition yX1_readCondition, Cond.code yX1_readCondition cX1_readCondition 5 (some .boolean), Cond.methodLink RX1 39 yX1_readTerm, Cond.instanceMethod yX1_readTerm, Cond.selects RX1 yX1_readTerm yX1_readTerm, Cond.methodLink RX1 42 yX1_sees, Cond.instanceMethod yX1_sees, Cond.selects RX1 yX1_sees yX1_sees, Cond.code yX1_sees cX1_sees 2 (some .boolean), Cond.fieldLink RX1 9 "FirePanel$Pad" "text" "[C", Cond.methodLink RX1 45 yX4_addStep, Cond.instanceMethod yX4_addStep, Cond.selects RX4 yX4_addStep yX4_addStep, Cond.code yX4_addStep cX4_addStep 2 none, Cond.fieldLink RX4 9 "FirePanel$Rule" "steps" "[I", Cond.code yX1_readTerm cX1_readTerm 3 (some .boolean), Cond.methodLink RX1 49 yX1_passes, Cond.instanceMethod yX1_passes]
def wsX6_rule_r3 : List Cond := [Cond.selects RX1 yX1_passes yX1_passes, Cond.code yX1_passes cX1_passes 2 (some .boolean), Cond.methodLink RX1 52 yX1_readZone, Cond.instanceMethod yX1_readZone, Cond.selects RX1 yX1_readZone yX1_readZone, Cond.code yX1_readZone cX1_readZone 4 (some .boolean), Cond.methodLink RX1 55 yX1_readDigit, Cond.instanceMethod yX1_readDigit, Cond.selects RX1 yX1_readDigit yX1_readDigit, Cond.code yX1_readDigit cX1_readDigit 3 (some .int), Cond.methodLink RX1 35 yX1_readTarget, Cond.instanceMethod yX1_readTarget, Cond.selects RX1 yX1_readTarget yX1_readTarget, Cond.code yX1_readTarget cX1_readTarget 2 (some .boolean), Cond.fieldLink RX1 59 "FirePanel$Rule" "output" "I", Cond.fieldLink RX1 62 "FirePanel$Rule" "delay" "I"]
def wsX6_rule : List Cond := .code yX6_rule cX6_rule 2 (some .int) :: ((wsX6_rule_r1 ++ (wsX6_rule_r2 ++ wsX6_rule_r3)) ++ wsX60 ++ wsX10 ++ wsX40 ++ (vx_atS RX6 97 "java/lang/IllegalStateException" ["java/lang/RuntimeException", "java/lang/Exception"]).filter goodWord)
def wsX6_allOutputsOff : List Cond := .code yX6_allOutputsOff cX6_allOutputsOff 2 none :: ([.fieldLink RX6 30 "FirePanel" "outputsOn" "[Z"] ++ wsX60)
def wsX6_forget : List Cond := .code yX6_forget cX6_forget 2 (some .int) :: ([.fieldLink RX6 90 "FirePanel" "ruleCount" "I", .methodLink RX6 58 yX6_mustHaveEntered, .instanceMethod yX6_mustHaveEntered, .selects RX6 yX6_mustHaveEntered yX6_mustHaveEntered, .initialized RX6, .code yX6_mustHaveEntered cX6_mustHaveEntered 2 none, .classLink RX6 93 "java/lang/IllegalStateException", .initialized "java/lang/IllegalStateException", .fieldLink RX6 126 "FirePanel" "entered" "I", .methodLink RX6 107 yX6_allOutputsOff, .instanceMethod yX6_allOutputsOff, .selects RX6 yX6_allOutputsOff yX6_allOutputsOff, .code yX6_allOutputsOff cX6_allOutputsOff 2 none, .fieldLink RX6 30 "FirePanel" "outputsOn" "[Z"] ++ wsX60 ++ (vx_atS RX6 97 "java/lang/IllegalStateException" ["java/lang/RuntimeException", "java/lang/Exception"]).filter goodWord)
def wsX6_noteMiss : List Cond := .code yX6_noteMiss cX6_noteMiss 3 none :: ([.fieldLink RX6 212 "FirePanel$Place" "missed" "I", .fieldLink RX6 162 "FirePanel$Place" "atFault" "Z", .fieldLink RX6 44 "FirePanel" "entries" "LFirePanel$Log;", .fieldLink RX6 110 "FirePanel" "polls" "I", .methodLink RX6 133 yX0_add, .instanceMethod yX0_add, .selects RX0 yX0_add yX0_add, .initialized RX0, .code yX0_add cX0_add 4 none, .fieldLink RX0 9 "FirePanel$Log" "words" "[I", .methodLink RX0 15 arraycopyName, .native arraycopyName, .static arraycopyName, .initialized "java/lang/System", .fieldLink RX0 21 "FirePanel$Log" "size" "I", .methodLink RX0 25 Lib.Math.min.name, .static Lib.Math.min.name, .initialized "java/lang/Math", .code Lib.Math.min.name Lib.Math.min.code 2 (some .int)] ++ wsX20 ++ wsX60 ++ wsX00)
def wsX6_noteAnswer_r1 : List Cond := [Cond.fieldLink RX6 212 "FirePanel$Place" "missed" "I", Cond.fieldLink RX6 162 "FirePanel$Place" "atFault" "Z", Cond.fieldLink RX6 44 "FirePanel" "entries" "LFirePanel$Log;", Cond.fieldLink RX6 110 "FirePanel" "polls" "I", Cond.fieldLink RX6 149 "FirePanel$Place" "isOff" "Z", Cond.methodLink RX6 133 yX0_add, Cond.instanceMethod yX0_add, Cond.selects RX0 yX0_add yX0_add, Cond.initialized RX0, Cond.code yX0_add cX0_add 4 none, Cond.fieldLink RX0 9 "FirePanel$Log" "words" "[I", Cond.methodLink RX0 15 arraycopyName, Cond.native arraycopyName, Cond.static arraycopyName, Cond.initialized "java/lang/System", Cond.fieldLink RX0 21 "FirePanel$Log" "size" "I", Cond.methodLink RX0 25 Lib.Math.min.name, Cond.static Lib.Math.min.name, Cond.initialized "java/lang/Math", Cond.code Lib.Math.min.name Lib.Math.min.code 2 (some .int), Cond.methodLink RX6 215 yX2_sense, Cond.instanceMethod yX2_sense, Cond.selects RX2 yX2_sense yX2_sense, Cond.initialized RX2]
def wsX6_noteAnswer_r2 : List Cond := [Cond.code yX2_sense cX2_sense 1 none, Cond.fieldLink RX2 9 "FirePanel$Place" "kind" "I", Cond.fieldLink RX2 28 "FirePanel$Place" "over" "I", Cond.fieldLink RX2 31 "FirePanel$Place" "inAlarm" "Z", Cond.methodLink RX2 49 yX2_senseSmoke, Cond.instanceMethod yX2_senseSmoke, Cond.selects RX2 yX2_senseSmoke yX2_senseSmoke, Cond.code yX2_senseSmoke cX2_senseSmoke 2 none, Cond.fieldLink RX2 58 "FirePanel$Place" "reading" "F", Cond.fieldLink RX2 22 "FirePanel$Place" "base" "F", Cond.fieldLink RX2 25 "FirePanel$Place" "level" "F", Cond.constantFloat RX2 61 (1056964608), Cond.constantFloat RX2 65 (1031798784), Cond.methodLink RX2 62 yX2_countOver, Cond.instanceMethod yX2_countOver, Cond.selects RX2 yX2_countOver yX2_countOver, Cond.code yX2_countOver cX2_countOver 1 none, Cond.fieldLink RX2 18 "FirePanel$Place" "threshold" "F", Cond.methodLink RX2 52 yX2_senseHeat, Cond.instanceMethod yX2_senseHeat, Cond.selects RX2 yX2_senseHeat yX2_senseHeat, Cond.code yX2_senseHeat cX2_senseHeat 1 none, Cond.constantFloat RX2 66 (1082130432), Cond.constantFloat RX2 67 (1048576000)]
def wsX6_noteAnswer_r3 : List Cond := [Cond.methodLink RX2 55 yX2_senseButton, Cond.instanceMethod yX2_senseButton, Cond.selects RX2 yX2_senseButton yX2_senseButton, Cond.code yX2_senseButton cX2_senseButton 1 none]
def wsX6_noteAnswer : List Cond := .code yX6_noteAnswer cX6_noteAnswer 3 none :: ((wsX6_noteAnswer_r1 ++ (wsX6_noteAnswer_r2 ++ wsX6_noteAnswer_r3)) ++ wsX20 ++ wsX60 ++ wsX00)
def wsX6_askPlaces_r1 : List Cond := [Cond.fieldLink RX6 10 "FirePanel" "ring" "LFirePanel$Ring;", Cond.fieldLink RX6 62 "FirePanel$Ring" "places" "[LFirePanel$Place;", Cond.methodLink RX6 156 yX3_reachedPlaces, Cond.instanceMethod yX3_reachedPlaces, Cond.selects RX3 yX3_reachedPlaces yX3_reachedPlaces, Cond.initialized RX3, Cond.code yX3_reachedPlaces cX3_reachedPlaces 4 (some .int), Cond.methodLink RX3 22 yX3_passableWires, Cond.instanceMethod yX3_passableWires, Cond.selects RX3 yX3_passableWires yX3_passableWires, Cond.code yX3_passableWires cX3_passableWires 5 (some .int), Cond.fieldLink RX3 18 "FirePanel$Ring" "wires" "[I", Cond.methodLink RX3 26 yX3_endsStretch, Cond.instanceMethod yX3_endsStretch, Cond.selects RX3 yX3_endsStretch yX3_endsStretch, Cond.code yX3_endsStretch cX3_endsStretch 2 (some .boolean), Cond.fieldLink RX3 11 "FirePanel$Ring" "places" "[LFirePanel$Place;", Cond.fieldLink RX3 30 "FirePanel$Place" "kind" "I", Cond.methodLink RX6 201 yX2_isSensor, Cond.instanceMethod yX2_isSensor, Cond.selects RX2 yX2_isSensor yX2_isSensor, Cond.initialized RX2, Cond.code yX2_isSensor cX2_isSensor 1 (some .boolean), Cond.fieldLink RX2 9 "FirePanel$Place" "kind" "I"]
def wsX6_askPlaces_r2 : List Cond := [Cond.methodLink RX6 205 yX6_noteMiss, Cond.instanceMethod yX6_noteMiss, Cond.selects RX6 yX6_noteMiss yX6_noteMiss, Cond.initialized RX6, Cond.code yX6_noteMiss cX6_noteMiss 3 none, Cond.fieldLink RX6 212 "FirePanel$Place" "missed" "I", Cond.fieldLink RX6 162 "FirePanel$Place" "atFault" "Z", Cond.fieldLink RX6 44 "FirePanel" "entries" "LFirePanel$Log;", Cond.fieldLink RX6 110 "FirePanel" "polls" "I", Cond.methodLink RX6 133 yX0_add, Cond.instanceMethod yX0_add, Cond.selects RX0 yX0_add yX0_add, Cond.initialized RX0, Cond.code yX0_add cX0_add 4 none, Cond.fieldLink RX0 9 "FirePanel$Log" "words" "[I", Cond.methodLink RX0 15 arraycopyName, Cond.native arraycopyName, Cond.static arraycopyName, Cond.initialized "java/lang/System", Cond.fieldLink RX0 21 "FirePanel$Log" "size" "I", Cond.methodLink RX0 25 Lib.Math.min.name, Cond.static Lib.Math.min.name, Cond.initialized "java/lang/Math", Cond.code Lib.Math.min.name Lib.Math.min.code 2 (some .int)]
def wsX6_askPlaces_r3 : List Cond := [Cond.methodLink RX6 209 yX6_noteAnswer, Cond.instanceMethod yX6_noteAnswer, Cond.selects RX6 yX6_noteAnswer yX6_noteAnswer, Cond.code yX6_noteAnswer cX6_noteAnswer 3 none, Cond.fieldLink RX6 149 "FirePanel$Place" "isOff" "Z", Cond.methodLink RX6 215 yX2_sense, Cond.instanceMethod yX2_sense, Cond.selects RX2 yX2_sense yX2_sense, Cond.code yX2_sense cX2_sense 1 none, Cond.fieldLink RX2 28 "FirePanel$Place" "over" "I", Cond.fieldLink RX2 31 "FirePanel$Place" "inAlarm" "Z", Cond.methodLink RX2 49 yX2_senseSmoke, Cond.instanceMethod yX2_senseSmoke, Cond.selects RX2 yX2_senseSmoke yX2_senseSmoke, Cond.code yX2_senseSmoke cX2_senseSmoke 2 none, Cond.fieldLink RX2 58 "FirePanel$Place" "reading" "F", Cond.fieldLink RX2 22 "FirePanel$Place" "base" "F", Cond.fieldLink RX2 25 "FirePanel$Place" "level" "F", Cond.constantFloat RX2 61 (1056964608), Cond.constantFloat RX2 65 (1031798784), Cond.methodLink RX2 62 yX2_countOver, Cond.instanceMethod yX2_countOver, Cond.selects RX2 yX2_countOver yX2_countOver, Cond.code yX2_countOver cX2_countOver 1 none]
def wsX6_askPlaces_r4 : List Cond := [Cond.fieldLink RX2 18 "FirePanel$Place" "threshold" "F", Cond.methodLink RX2 52 yX2_senseHeat, Cond.instanceMethod yX2_senseHeat, Cond.selects RX2 yX2_senseHeat yX2_senseHeat, Cond.code yX2_senseHeat cX2_senseHeat 1 none, Cond.constantFloat RX2 66 (1082130432), Cond.constantFloat RX2 67 (1048576000), Cond.methodLink RX2 55 yX2_senseButton, Cond.instanceMethod yX2_senseButton, Cond.selects RX2 yX2_senseButton yX2_senseButton, Cond.code yX2_senseButton cX2_senseButton 1 none]
def wsX6_askPlaces : List Cond := .code yX6_askPlaces cX6_askPlaces 4 none :: ((wsX6_askPlaces_r1 ++ (wsX6_askPlaces_r2 ++ (wsX6_askPlaces_r3 ++ wsX6_askPlaces_r4))) ++ wsX60 ++ wsX30 ++ wsX20 ++ wsX00)
def wsX6_hasEnoughAlarms : List Cond := .code yX6_hasEnoughAlarms cX6_hasEnoughAlarms 8 (some .boolean) :: ([.fieldLink RX6 10 "FirePanel" "ring" "LFirePanel$Ring;", .fieldLink RX6 62 "FirePanel$Ring" "places" "[LFirePanel$Place;", .fieldLink RX6 159 "FirePanel$Place" "inAlarm" "Z", .fieldLink RX6 165 "FirePanel$Place" "kind" "I", .methodLink RX6 222 yX2_watches, .instanceMethod yX2_watches, .selects RX2 yX2_watches yX2_watches, .initialized RX2, .code yX2_watches cX2_watches 2 (some .boolean), .fieldLink RX2 15 "FirePanel$Place" "zone" "I", .fieldLink RX2 45 "FirePanel$Place" "isOff" "Z", .methodLink RX2 41 yX2_isSensor, .instanceMethod yX2_isSensor, .selects RX2 yX2_isSensor yX2_isSensor, .code yX2_isSensor cX2_isSensor 1 (some .boolean), .fieldLink RX2 9 "FirePanel$Place" "kind" "I"] ++ wsX60 ++ wsX30 ++ wsX20)
def wsX6_watchZones_r1 : List Cond := [Cond.fieldLink RX6 18 "FirePanel" "zones" "[LFirePanel$Zone;", Cond.fieldLink RX6 146 "FirePanel$Zone" "isOff" "Z", Cond.fieldLink RX6 137 "FirePanel$Zone" "inFire" "Z", Cond.fieldLink RX6 72 "FirePanel$Zone" "needed" "I", Cond.fieldLink RX6 129 "FirePanel" "silent" "Z", Cond.fieldLink RX6 44 "FirePanel" "entries" "LFirePanel$Log;", Cond.fieldLink RX6 110 "FirePanel" "polls" "I", Cond.methodLink RX6 218 yX6_hasEnoughAlarms, Cond.instanceMethod yX6_hasEnoughAlarms, Cond.selects RX6 yX6_hasEnoughAlarms yX6_hasEnoughAlarms, Cond.initialized RX6, Cond.code yX6_hasEnoughAlarms cX6_hasEnoughAlarms 8 (some .boolean), Cond.fieldLink RX6 10 "FirePanel" "ring" "LFirePanel$Ring;", Cond.fieldLink RX6 62 "FirePanel$Ring" "places" "[LFirePanel$Place;", Cond.fieldLink RX6 159 "FirePanel$Place" "inAlarm" "Z", Cond.fieldLink RX6 165 "FirePanel$Place" "kind" "I", Cond.methodLink RX6 222 yX2_watches, Cond.instanceMethod yX2_watches, Cond.selects RX2 yX2_watches yX2_watches, Cond.initialized RX2, Cond.code yX2_watches cX2_watches 2 (some .boolean), Cond.fieldLink RX2 15 "FirePanel$Place" "zone" "I", Cond.fieldLink RX2 45 "FirePanel$Place" "isOff" "Z", Cond.methodLink RX2 41 yX2_isSensor]
def wsX6_watchZones_r2 : List Cond := [Cond.instanceMethod yX2_isSensor, Cond.selects RX2 yX2_isSensor yX2_isSensor, Cond.code yX2_isSensor cX2_isSensor 1 (some .boolean), Cond.fieldLink RX2 9 "FirePanel$Place" "kind" "I", Cond.methodLink RX6 133 yX0_add, Cond.instanceMethod yX0_add, Cond.selects RX0 yX0_add yX0_add, Cond.initialized RX0, Cond.code yX0_add cX0_add 4 none, Cond.fieldLink RX0 9 "FirePanel$Log" "words" "[I", Cond.methodLink RX0 15 arraycopyName, Cond.native arraycopyName, Cond.static arraycopyName, Cond.initialized "java/lang/System", Cond.fieldLink RX0 21 "FirePanel$Log" "size" "I", Cond.methodLink RX0 25 Lib.Math.min.name, Cond.static Lib.Math.min.name, Cond.initialized "java/lang/Math", Cond.code Lib.Math.min.name Lib.Math.min.code 2 (some .int)]
def wsX6_watchZones : List Cond := .code yX6_watchZones cX6_watchZones 4 (some .int) :: ((wsX6_watchZones_r1 ++ wsX6_watchZones_r2) ++ wsX60 ++ wsX50 ++ wsX30 ++ wsX20 ++ wsX00)
def wsX6_faults : List Cond := .code yX6_faults cX6_faults 6 (some .int) :: ([.fieldLink RX6 10 "FirePanel" "ring" "LFirePanel$Ring;", .fieldLink RX6 62 "FirePanel$Ring" "places" "[LFirePanel$Place;", .fieldLink RX6 162 "FirePanel$Place" "atFault" "Z"] ++ wsX60 ++ wsX30 ++ wsX20)
def wsX6_hasWarning : List Cond := .code yX6_hasWarning cX6_hasWarning 6 (some .boolean) :: ([.fieldLink RX6 10 "FirePanel" "ring" "LFirePanel$Ring;", .fieldLink RX6 62 "FirePanel$Ring" "places" "[LFirePanel$Place;", .methodLink RX6 222 yX2_watches, .instanceMethod yX2_watches, .selects RX2 yX2_watches yX2_watches, .initialized RX2, .code yX2_watches cX2_watches 2 (some .boolean), .fieldLink RX2 15 "FirePanel$Place" "zone" "I", .fieldLink RX2 45 "FirePanel$Place" "isOff" "Z", .methodLink RX2 41 yX2_isSensor, .instanceMethod yX2_isSensor, .selects RX2 yX2_isSensor yX2_isSensor, .code yX2_isSensor cX2_isSensor 1 (some .boolean), .fieldLink RX2 9 "FirePanel$Place" "kind" "I", .methodLink RX6 225 yX2_warns, .instanceMethod yX2_warns, .selects RX2 yX2_warns yX2_warns, .code yX2_warns cX2_warns 1 (some .boolean), .fieldLink RX2 31 "FirePanel$Place" "inAlarm" "Z", .fieldLink RX2 25 "FirePanel$Place" "level" "F", .fieldLink RX2 18 "FirePanel$Place" "threshold" "F", .constantFloat RX2 48 (1061158912)] ++ wsX60 ++ wsX30 ++ wsX20)
def wsX6_facts_r1 : List Cond := [Cond.fieldLink RX6 18 "FirePanel" "zones" "[LFirePanel$Zone;", Cond.fieldLink RX6 137 "FirePanel$Zone" "inFire" "Z", Cond.methodLink RX6 184 yX6_faults, Cond.instanceMethod yX6_faults, Cond.selects RX6 yX6_faults yX6_faults, Cond.initialized RX6, Cond.code yX6_faults cX6_faults 6 (some .int), Cond.fieldLink RX6 10 "FirePanel" "ring" "LFirePanel$Ring;", Cond.fieldLink RX6 62 "FirePanel$Ring" "places" "[LFirePanel$Place;", Cond.fieldLink RX6 162 "FirePanel$Place" "atFault" "Z", Cond.methodLink RX6 168 yX6_hasWarning, Cond.instanceMethod yX6_hasWarning, Cond.selects RX6 yX6_hasWarning yX6_hasWarning, Cond.code yX6_hasWarning cX6_hasWarning 6 (some .boolean), Cond.methodLink RX6 222 yX2_watches, Cond.instanceMethod yX2_watches, Cond.selects RX2 yX2_watches yX2_watches, Cond.initialized RX2, Cond.code yX2_watches cX2_watches 2 (some .boolean), Cond.fieldLink RX2 15 "FirePanel$Place" "zone" "I", Cond.fieldLink RX2 45 "FirePanel$Place" "isOff" "Z", Cond.methodLink RX2 41 yX2_isSensor, Cond.instanceMethod yX2_isSensor, Cond.selects RX2 yX2_isSensor yX2_isSensor]
def wsX6_facts_r2 : List Cond := [Cond.code yX2_isSensor cX2_isSensor 1 (some .boolean), Cond.fieldLink RX2 9 "FirePanel$Place" "kind" "I", Cond.methodLink RX6 225 yX2_warns, Cond.instanceMethod yX2_warns, Cond.selects RX2 yX2_warns yX2_warns, Cond.code yX2_warns cX2_warns 1 (some .boolean), Cond.fieldLink RX2 31 "FirePanel$Place" "inAlarm" "Z", Cond.fieldLink RX2 25 "FirePanel$Place" "level" "F", Cond.fieldLink RX2 18 "FirePanel$Place" "threshold" "F", Cond.constantFloat RX2 48 (1061158912)]
def wsX6_facts : List Cond := .code yX6_facts cX6_facts 3 (some .int) :: ((wsX6_facts_r1 ++ wsX6_facts_r2) ++ wsX60 ++ wsX50 ++ wsX30 ++ wsX20)
def wsX6_followRules_r1 : List Cond := [Cond.fieldLink RX6 90 "FirePanel" "ruleCount" "I", Cond.fieldLink RX6 25 "FirePanel" "rules" "[LFirePanel$Rule;", Cond.fieldLink RX6 143 "FirePanel$Rule" "held" "I", Cond.methodLink RX6 228 yX6_facts, Cond.instanceMethod yX6_facts, Cond.selects RX6 yX6_facts yX6_facts, Cond.initialized RX6, Cond.code yX6_facts cX6_facts 3 (some .int), Cond.fieldLink RX6 18 "FirePanel" "zones" "[LFirePanel$Zone;", Cond.fieldLink RX6 137 "FirePanel$Zone" "inFire" "Z", Cond.methodLink RX6 184 yX6_faults, Cond.instanceMethod yX6_faults, Cond.selects RX6 yX6_faults yX6_faults, Cond.code yX6_faults cX6_faults 6 (some .int), Cond.fieldLink RX6 10 "FirePanel" "ring" "LFirePanel$Ring;", Cond.fieldLink RX6 62 "FirePanel$Ring" "places" "[LFirePanel$Place;", Cond.fieldLink RX6 162 "FirePanel$Place" "atFault" "Z", Cond.methodLink RX6 168 yX6_hasWarning, Cond.instanceMethod yX6_hasWarning, Cond.selects RX6 yX6_hasWarning yX6_hasWarning, Cond.code yX6_hasWarning cX6_hasWarning 6 (some .boolean), Cond.methodLink RX6 222 yX2_watches, Cond.instanceMethod yX2_watches, Cond.selects RX2 yX2_watches yX2_watches]
def wsX6_followRules_r2 : List Cond := [Cond.initialized RX2, Cond.code yX2_watches cX2_watches 2 (some .boolean), Cond.fieldLink RX2 15 "FirePanel$Place" "zone" "I", Cond.fieldLink RX2 45 "FirePanel$Place" "isOff" "Z", Cond.methodLink RX2 41 yX2_isSensor, Cond.instanceMethod yX2_isSensor, Cond.selects RX2 yX2_isSensor yX2_isSensor, Cond.code yX2_isSensor cX2_isSensor 1 (some .boolean), Cond.fieldLink RX2 9 "FirePanel$Place" "kind" "I", Cond.methodLink RX6 225 yX2_warns, Cond.instanceMethod yX2_warns, Cond.selects RX2 yX2_warns yX2_warns, Cond.code yX2_warns cX2_warns 1 (some .boolean), Cond.fieldLink RX2 31 "FirePanel$Place" "inAlarm" "Z", Cond.fieldLink RX2 25 "FirePanel$Place" "level" "F", Cond.fieldLink RX2 18 "FirePanel$Place" "threshold" "F", Cond.constantFloat RX2 48 (1061158912), Cond.methodLink RX6 231 yX4_isTrue, Cond.instanceMethod yX4_isTrue, Cond.selects RX4 yX4_isTrue yX4_isTrue, Cond.initialized RX4, Cond.code yX4_isTrue cX4_isTrue 4 (some .boolean), Cond.fieldLink RX4 15 "FirePanel$Rule" "stepCount" "I", Cond.fieldLink RX4 9 "FirePanel$Rule" "steps" "[I"]
def wsX6_followRules_r3 : List Cond := [Cond.methodLink RX4 28 yX4_workOff, Cond.static yX4_workOff, Cond.code yX4_workOff cX4_workOff 5 (some .int)]
def wsX6_followRules : List Cond := .code yX6_followRules cX6_followRules 4 none :: ((wsX6_followRules_r1 ++ (wsX6_followRules_r2 ++ wsX6_followRules_r3)) ++ wsX60 ++ wsX40 ++ wsX50 ++ wsX30 ++ wsX20)
def wsX6_isDriven : List Cond := .code yX6_isDriven cX6_isDriven 3 (some .boolean) :: ([.fieldLink RX6 90 "FirePanel" "ruleCount" "I", .fieldLink RX6 25 "FirePanel" "rules" "[LFirePanel$Rule;", .fieldLink RX6 237 "FirePanel$Rule" "output" "I", .fieldLink RX6 143 "FirePanel$Rule" "held" "I", .fieldLink RX6 240 "FirePanel$Rule" "delay" "I"] ++ wsX60 ++ wsX40)
def wsX6_driveOutputs_r1 : List Cond := [Cond.fieldLink RX6 30 "FirePanel" "outputsOn" "[Z", Cond.fieldLink RX6 44 "FirePanel" "entries" "LFirePanel$Log;", Cond.fieldLink RX6 110 "FirePanel" "polls" "I", Cond.methodLink RX6 234 yX6_isDriven, Cond.instanceMethod yX6_isDriven, Cond.selects RX6 yX6_isDriven yX6_isDriven, Cond.initialized RX6, Cond.code yX6_isDriven cX6_isDriven 3 (some .boolean), Cond.fieldLink RX6 90 "FirePanel" "ruleCount" "I", Cond.fieldLink RX6 25 "FirePanel" "rules" "[LFirePanel$Rule;", Cond.fieldLink RX6 237 "FirePanel$Rule" "output" "I", Cond.fieldLink RX6 143 "FirePanel$Rule" "held" "I", Cond.fieldLink RX6 240 "FirePanel$Rule" "delay" "I", Cond.methodLink RX6 133 yX0_add, Cond.instanceMethod yX0_add, Cond.selects RX0 yX0_add yX0_add, Cond.initialized RX0, Cond.code yX0_add cX0_add 4 none, Cond.fieldLink RX0 9 "FirePanel$Log" "words" "[I", Cond.methodLink RX0 15 arraycopyName, Cond.native arraycopyName, Cond.static arraycopyName, Cond.initialized "java/lang/System", Cond.fieldLink RX0 21 "FirePanel$Log" "size" "I"]
def wsX6_driveOutputs_r2 : List Cond := [Cond.methodLink RX0 25 Lib.Math.min.name, Cond.static Lib.Math.min.name, Cond.initialized "java/lang/Math", Cond.code Lib.Math.min.name Lib.Math.min.code 2 (some .int)]
def wsX6_driveOutputs : List Cond := .code yX6_driveOutputs cX6_driveOutputs 3 none :: ((wsX6_driveOutputs_r1 ++ wsX6_driveOutputs_r2) ++ wsX60 ++ wsX40 ++ wsX00)
def wsX6_poll_r1 : List Cond := [Cond.fieldLink RX6 110 "FirePanel" "polls" "I", Cond.methodLink RX6 113 yX6_askPlaces, Cond.instanceMethod yX6_askPlaces, Cond.selects RX6 yX6_askPlaces yX6_askPlaces, Cond.initialized RX6, Cond.code yX6_askPlaces cX6_askPlaces 4 none, Cond.fieldLink RX6 10 "FirePanel" "ring" "LFirePanel$Ring;", Cond.fieldLink RX6 62 "FirePanel$Ring" "places" "[LFirePanel$Place;", Cond.methodLink RX6 156 yX3_reachedPlaces, Cond.instanceMethod yX3_reachedPlaces, Cond.selects RX3 yX3_reachedPlaces yX3_reachedPlaces, Cond.initialized RX3, Cond.code yX3_reachedPlaces cX3_reachedPlaces 4 (some .int), Cond.methodLink RX3 22 yX3_passableWires, Cond.instanceMethod yX3_passableWires, Cond.selects RX3 yX3_passableWires yX3_passableWires, Cond.code yX3_passableWires cX3_passableWires 5 (some .int), Cond.fieldLink RX3 18 "FirePanel$Ring" "wires" "[I", Cond.methodLink RX3 26 yX3_endsStretch, Cond.instanceMethod yX3_endsStretch, Cond.selects RX3 yX3_endsStretch yX3_endsStretch, Cond.code yX3_endsStretch cX3_endsStretch 2 (some .boolean), Cond.fieldLink RX3 11 "FirePanel$Ring" "places" "[LFirePanel$Place;", Cond.fieldLink RX3 30 "FirePanel$Place" "kind" "I"]
def wsX6_poll_r2 : List Cond := [Cond.methodLink RX6 201 yX2_isSensor, Cond.instanceMethod yX2_isSensor, Cond.selects RX2 yX2_isSensor yX2_isSensor, Cond.initialized RX2, Cond.code yX2_isSensor cX2_isSensor 1 (some .boolean), Cond.fieldLink RX2 9 "FirePanel$Place" "kind" "I", Cond.methodLink RX6 205 yX6_noteMiss, Cond.instanceMethod yX6_noteMiss, Cond.selects RX6 yX6_noteMiss yX6_noteMiss, Cond.code yX6_noteMiss cX6_noteMiss 3 none, Cond.fieldLink RX6 212 "FirePanel$Place" "missed" "I", Cond.fieldLink RX6 162 "FirePanel$Place" "atFault" "Z", Cond.fieldLink RX6 44 "FirePanel" "entries" "LFirePanel$Log;", Cond.methodLink RX6 133 yX0_add, Cond.instanceMethod yX0_add, Cond.selects RX0 yX0_add yX0_add, Cond.initialized RX0, Cond.code yX0_add cX0_add 4 none, Cond.fieldLink RX0 9 "FirePanel$Log" "words" "[I", Cond.methodLink RX0 15 arraycopyName, Cond.native arraycopyName, Cond.static arraycopyName, Cond.initialized "java/lang/System", Cond.fieldLink RX0 21 "FirePanel$Log" "size" "I"]
def wsX6_poll_r3 : List Cond := [Cond.methodLink RX0 25 Lib.Math.min.name, Cond.static Lib.Math.min.name, Cond.initialized "java/lang/Math", Cond.code Lib.Math.min.name Lib.Math.min.code 2 (some .int), Cond.methodLink RX6 209 yX6_noteAnswer, Cond.instanceMethod yX6_noteAnswer, Cond.selects RX6 yX6_noteAnswer yX6_noteAnswer, Cond.code yX6_noteAnswer cX6_noteAnswer 3 none, Cond.fieldLink RX6 149 "FirePanel$Place" "isOff" "Z", Cond.methodLink RX6 215 yX2_sense, Cond.instanceMethod yX2_sense, Cond.selects RX2 yX2_sense yX2_sense, Cond.code yX2_sense cX2_sense 1 none, Cond.fieldLink RX2 28 "FirePanel$Place" "over" "I", Cond.fieldLink RX2 31 "FirePanel$Place" "inAlarm" "Z", Cond.methodLink RX2 49 yX2_senseSmoke, Cond.instanceMethod yX2_senseSmoke, Cond.selects RX2 yX2_senseSmoke yX2_senseSmoke, Cond.code yX2_senseSmoke cX2_senseSmoke 2 none, Cond.fieldLink RX2 58 "FirePanel$Place" "reading" "F", Cond.fieldLink RX2 22 "FirePanel$Place" "base" "F", Cond.fieldLink RX2 25 "FirePanel$Place" "level" "F", Cond.constantFloat RX2 61 (1056964608), Cond.constantFloat RX2 65 (1031798784)]
def wsX6_poll_r4 : List Cond := [Cond.methodLink RX2 62 yX2_countOver, Cond.instanceMethod yX2_countOver, Cond.selects RX2 yX2_countOver yX2_countOver, Cond.code yX2_countOver cX2_countOver 1 none, Cond.fieldLink RX2 18 "FirePanel$Place" "threshold" "F", Cond.methodLink RX2 52 yX2_senseHeat, Cond.instanceMethod yX2_senseHeat, Cond.selects RX2 yX2_senseHeat yX2_senseHeat, Cond.code yX2_senseHeat cX2_senseHeat 1 none, Cond.constantFloat RX2 66 (1082130432), Cond.constantFloat RX2 67 (1048576000), Cond.methodLink RX2 55 yX2_senseButton, Cond.instanceMethod yX2_senseButton, Cond.selects RX2 yX2_senseButton yX2_senseButton, Cond.code yX2_senseButton cX2_senseButton 1 none, Cond.methodLink RX6 116 yX6_watchZones, Cond.instanceMethod yX6_watchZones, Cond.selects RX6 yX6_watchZones yX6_watchZones, Cond.code yX6_watchZones cX6_watchZones 4 (some .int), Cond.fieldLink RX6 18 "FirePanel" "zones" "[LFirePanel$Zone;", Cond.fieldLink RX6 146 "FirePanel$Zone" "isOff" "Z", Cond.fieldLink RX6 137 "FirePanel$Zone" "inFire" "Z", Cond.fieldLink RX6 72 "FirePanel$Zone" "needed" "I", Cond.fieldLink RX6 129 "FirePanel" "silent" "Z"]
def wsX6_poll_r5 : List Cond := [Cond.methodLink RX6 218 yX6_hasEnoughAlarms, Cond.instanceMethod yX6_hasEnoughAlarms, Cond.selects RX6 yX6_hasEnoughAlarms yX6_hasEnoughAlarms, Cond.code yX6_hasEnoughAlarms cX6_hasEnoughAlarms 8 (some .boolean), Cond.fieldLink RX6 159 "FirePanel$Place" "inAlarm" "Z", Cond.fieldLink RX6 165 "FirePanel$Place" "kind" "I", Cond.methodLink RX6 222 yX2_watches, Cond.instanceMethod yX2_watches, Cond.selects RX2 yX2_watches yX2_watches, Cond.code yX2_watches cX2_watches 2 (some .boolean), Cond.fieldLink RX2 15 "FirePanel$Place" "zone" "I", Cond.fieldLink RX2 45 "FirePanel$Place" "isOff" "Z", Cond.methodLink RX2 41 yX2_isSensor, Cond.methodLink RX6 120 yX6_followRules, Cond.instanceMethod yX6_followRules, Cond.selects RX6 yX6_followRules yX6_followRules, Cond.code yX6_followRules cX6_followRules 4 none, Cond.fieldLink RX6 90 "FirePanel" "ruleCount" "I", Cond.fieldLink RX6 25 "FirePanel" "rules" "[LFirePanel$Rule;", Cond.fieldLink RX6 143 "FirePanel$Rule" "held" "I", Cond.methodLink RX6 228 yX6_facts, Cond.instanceMethod yX6_facts, Cond.selects RX6 yX6_facts yX6_facts, Cond.code yX6_facts cX6_facts 3 (some .int)]
def wsX6_poll_r6 : List Cond := [Cond.methodLink RX6 184 yX6_faults, Cond.instanceMethod yX6_faults, Cond.selects RX6 yX6_faults yX6_faults, Cond.code yX6_faults cX6_faults 6 (some .int), Cond.methodLink RX6 168 yX6_hasWarning, Cond.instanceMethod yX6_hasWarning, Cond.selects RX6 yX6_hasWarning yX6_hasWarning, Cond.code yX6_hasWarning cX6_hasWarning 6 (some .boolean), Cond.methodLink RX6 225 yX2_warns, Cond.instanceMethod yX2_warns, Cond.selects RX2 yX2_warns yX2_warns, Cond.code yX2_warns cX2_warns 1 (some .boolean), Cond.constantFloat RX2 48 (1061158912), Cond.methodLink RX6 231 yX4_isTrue, Cond.instanceMethod yX4_isTrue, Cond.selects RX4 yX4_isTrue yX4_isTrue, Cond.initialized RX4, Cond.code yX4_isTrue cX4_isTrue 4 (some .boolean), Cond.fieldLink RX4 15 "FirePanel$Rule" "stepCount" "I", Cond.fieldLink RX4 9 "FirePanel$Rule" "steps" "[I", Cond.methodLink RX4 28 yX4_workOff, Cond.static yX4_workOff, Cond.code yX4_workOff cX4_workOff 5 (some .int), Cond.methodLink RX6 123 yX6_driveOutputs]
def wsX6_poll_r7 : List Cond := [Cond.instanceMethod yX6_driveOutputs, Cond.selects RX6 yX6_driveOutputs yX6_driveOutputs, Cond.code yX6_driveOutputs cX6_driveOutputs 3 none, Cond.fieldLink RX6 30 "FirePanel" "outputsOn" "[Z", Cond.methodLink RX6 234 yX6_isDriven, Cond.instanceMethod yX6_isDriven, Cond.selects RX6 yX6_isDriven yX6_isDriven, Cond.code yX6_isDriven cX6_isDriven 3 (some .boolean), Cond.fieldLink RX6 237 "FirePanel$Rule" "output" "I", Cond.fieldLink RX6 240 "FirePanel$Rule" "delay" "I"]
def wsX6_poll : List Cond := .code yX6_poll cX6_poll 2 (some .int) :: ((wsX6_poll_r1 ++ (wsX6_poll_r2 ++ (wsX6_poll_r3 ++ (wsX6_poll_r4 ++ (wsX6_poll_r5 ++ (wsX6_poll_r6 ++ wsX6_poll_r7)))))) ++ wsX60 ++ wsX30 ++ wsX20 ++ wsX00 ++ wsX50 ++ wsX40)
def wsX6_key : List Cond := .code yX6_key cX6_key 2 (some .int) :: ([.fieldLink RX6 126 "FirePanel" "entered" "I"] ++ wsX60)
def wsX6_silence_r1 : List Cond := [Cond.fieldLink RX6 129 "FirePanel" "silent" "Z", Cond.fieldLink RX6 44 "FirePanel" "entries" "LFirePanel$Log;", Cond.fieldLink RX6 110 "FirePanel" "polls" "I", Cond.methodLink RX6 58 yX6_mustHaveEntered, Cond.instanceMethod yX6_mustHaveEntered, Cond.selects RX6 yX6_mustHaveEntered yX6_mustHaveEntered, Cond.initialized RX6, Cond.code yX6_mustHaveEntered cX6_mustHaveEntered 2 none, Cond.classLink RX6 93 "java/lang/IllegalStateException", Cond.initialized "java/lang/IllegalStateException", Cond.fieldLink RX6 126 "FirePanel" "entered" "I", Cond.methodLink RX6 133 yX0_add, Cond.instanceMethod yX0_add, Cond.selects RX0 yX0_add yX0_add, Cond.initialized RX0, Cond.code yX0_add cX0_add 4 none, Cond.fieldLink RX0 9 "FirePanel$Log" "words" "[I", Cond.methodLink RX0 15 arraycopyName, Cond.native arraycopyName, Cond.static arraycopyName, Cond.initialized "java/lang/System", Cond.fieldLink RX0 21 "FirePanel$Log" "size" "I", Cond.methodLink RX0 25 Lib.Math.min.name, Cond.static Lib.Math.min.name]
def wsX6_silence_r2 : List Cond := [Cond.initialized "java/lang/Math", Cond.code Lib.Math.min.name Lib.Math.min.code 2 (some .int)]
def wsX6_silence : List Cond := .code yX6_silence cX6_silence 1 (some .boolean) :: ((wsX6_silence_r1 ++ wsX6_silence_r2) ++ wsX60 ++ wsX00 ++ (vx_atS RX6 97 "java/lang/IllegalStateException" ["java/lang/RuntimeException", "java/lang/Exception"]).filter goodWord)
def wsX6_reset_r1 : List Cond := [Cond.fieldLink RX6 18 "FirePanel" "zones" "[LFirePanel$Zone;", Cond.fieldLink RX6 137 "FirePanel$Zone" "inFire" "Z", Cond.fieldLink RX6 10 "FirePanel" "ring" "LFirePanel$Ring;", Cond.fieldLink RX6 62 "FirePanel$Ring" "places" "[LFirePanel$Place;", Cond.fieldLink RX6 25 "FirePanel" "rules" "[LFirePanel$Rule;", Cond.fieldLink RX6 143 "FirePanel$Rule" "held" "I", Cond.fieldLink RX6 129 "FirePanel" "silent" "Z", Cond.fieldLink RX6 44 "FirePanel" "entries" "LFirePanel$Log;", Cond.fieldLink RX6 110 "FirePanel" "polls" "I", Cond.methodLink RX6 58 yX6_mustHaveEntered, Cond.instanceMethod yX6_mustHaveEntered, Cond.selects RX6 yX6_mustHaveEntered yX6_mustHaveEntered, Cond.initialized RX6, Cond.code yX6_mustHaveEntered cX6_mustHaveEntered 2 none, Cond.classLink RX6 93 "java/lang/IllegalStateException", Cond.initialized "java/lang/IllegalStateException", Cond.fieldLink RX6 126 "FirePanel" "entered" "I", Cond.methodLink RX6 140 yX2_calmDown, Cond.instanceMethod yX2_calmDown, Cond.selects RX2 yX2_calmDown yX2_calmDown, Cond.initialized RX2, Cond.code yX2_calmDown cX2_calmDown 1 none, Cond.fieldLink RX2 31 "FirePanel$Place" "inAlarm" "Z", Cond.fieldLink RX2 28 "FirePanel$Place" "over" "I"]
def wsX6_reset_r2 : List Cond := [Cond.methodLink RX6 107 yX6_allOutputsOff, Cond.instanceMethod yX6_allOutputsOff, Cond.selects RX6 yX6_allOutputsOff yX6_allOutputsOff, Cond.code yX6_allOutputsOff cX6_allOutputsOff 2 none, Cond.fieldLink RX6 30 "FirePanel" "outputsOn" "[Z", Cond.methodLink RX6 133 yX0_add, Cond.instanceMethod yX0_add, Cond.selects RX0 yX0_add yX0_add, Cond.initialized RX0, Cond.code yX0_add cX0_add 4 none, Cond.fieldLink RX0 9 "FirePanel$Log" "words" "[I", Cond.methodLink RX0 15 arraycopyName, Cond.native arraycopyName, Cond.static arraycopyName, Cond.initialized "java/lang/System", Cond.fieldLink RX0 21 "FirePanel$Log" "size" "I", Cond.methodLink RX0 25 Lib.Math.min.name, Cond.static Lib.Math.min.name, Cond.initialized "java/lang/Math", Cond.code Lib.Math.min.name Lib.Math.min.code 2 (some .int)]
def wsX6_reset : List Cond := .code yX6_reset cX6_reset 6 (some .int) :: ((wsX6_reset_r1 ++ wsX6_reset_r2) ++ wsX60 ++ wsX50 ++ wsX30 ++ wsX40 ++ wsX20 ++ wsX00 ++ (vx_atS RX6 97 "java/lang/IllegalStateException" ["java/lang/RuntimeException", "java/lang/Exception"]).filter goodWord)
def wsX6_off_r1 : List Cond := [Cond.fieldLink RX6 18 "FirePanel" "zones" "[LFirePanel$Zone;", Cond.fieldLink RX6 146 "FirePanel$Zone" "isOff" "Z", Cond.fieldLink RX6 10 "FirePanel" "ring" "LFirePanel$Ring;", Cond.fieldLink RX6 62 "FirePanel$Ring" "places" "[LFirePanel$Place;", Cond.fieldLink RX6 149 "FirePanel$Place" "isOff" "Z", Cond.fieldLink RX6 44 "FirePanel" "entries" "LFirePanel$Log;", Cond.fieldLink RX6 110 "FirePanel" "polls" "I", Cond.methodLink RX6 48 yX6_mustExist, Cond.static yX6_mustExist, Cond.initialized RX6, Cond.code yX6_mustExist cX6_mustExist 2 none, Cond.classLink RX6 192 "java/util/NoSuchElementException", Cond.initialized "java/util/NoSuchElementException", Cond.methodLink RX6 58 yX6_mustHaveEntered, Cond.instanceMethod yX6_mustHaveEntered, Cond.selects RX6 yX6_mustHaveEntered yX6_mustHaveEntered, Cond.code yX6_mustHaveEntered cX6_mustHaveEntered 2 none, Cond.classLink RX6 93 "java/lang/IllegalStateException", Cond.initialized "java/lang/IllegalStateException", Cond.fieldLink RX6 126 "FirePanel" "entered" "I", Cond.methodLink RX6 133 yX0_add, Cond.instanceMethod yX0_add, Cond.selects RX0 yX0_add yX0_add, Cond.initialized RX0]
def wsX6_off_r2 : List Cond := [Cond.code yX0_add cX0_add 4 none, Cond.fieldLink RX0 9 "FirePanel$Log" "words" "[I", Cond.methodLink RX0 15 arraycopyName, Cond.native arraycopyName, Cond.static arraycopyName, Cond.initialized "java/lang/System", Cond.fieldLink RX0 21 "FirePanel$Log" "size" "I", Cond.methodLink RX0 25 Lib.Math.min.name, Cond.static Lib.Math.min.name, Cond.initialized "java/lang/Math", Cond.code Lib.Math.min.name Lib.Math.min.code 2 (some .int)]
def wsX6_off : List Cond := .code yX6_off cX6_off 5 (some .boolean) :: ((wsX6_off_r1 ++ wsX6_off_r2) ++ wsX60 ++ wsX50 ++ wsX30 ++ wsX20 ++ wsX00 ++ (vx_atS RX6 196 "java/util/NoSuchElementException" ["java/lang/RuntimeException", "java/lang/Exception"]).filter goodWord ++ (vx_atS RX6 97 "java/lang/IllegalStateException" ["java/lang/RuntimeException", "java/lang/Exception"]).filter goodWord)
def wsX6_level : List Cond := .code yX6_level cX6_level 2 (some .float) :: ([.fieldLink RX6 10 "FirePanel" "ring" "LFirePanel$Ring;", .fieldLink RX6 62 "FirePanel$Ring" "places" "[LFirePanel$Place;", .fieldLink RX6 150 "FirePanel$Place" "level" "F", .methodLink RX6 48 yX6_mustExist, .static yX6_mustExist, .initialized RX6, .code yX6_mustExist cX6_mustExist 2 none, .classLink RX6 192 "java/util/NoSuchElementException", .initialized "java/util/NoSuchElementException"] ++ wsX60 ++ wsX30 ++ wsX20 ++ (vx_atS RX6 196 "java/util/NoSuchElementException" ["java/lang/RuntimeException", "java/lang/Exception"]).filter goodWord)
def wsX6_base : List Cond := .code yX6_base cX6_base 2 (some .float) :: ([.fieldLink RX6 10 "FirePanel" "ring" "LFirePanel$Ring;", .fieldLink RX6 62 "FirePanel$Ring" "places" "[LFirePanel$Place;", .fieldLink RX6 153 "FirePanel$Place" "base" "F", .methodLink RX6 48 yX6_mustExist, .static yX6_mustExist, .initialized RX6, .code yX6_mustExist cX6_mustExist 2 none, .classLink RX6 192 "java/util/NoSuchElementException", .initialized "java/util/NoSuchElementException"] ++ wsX60 ++ wsX30 ++ wsX20 ++ (vx_atS RX6 196 "java/util/NoSuchElementException" ["java/lang/RuntimeException", "java/lang/Exception"]).filter goodWord)
def wsX6_place_r1 : List Cond := [Cond.fieldLink RX6 10 "FirePanel" "ring" "LFirePanel$Ring;", Cond.fieldLink RX6 62 "FirePanel$Ring" "places" "[LFirePanel$Place;", Cond.fieldLink RX6 159 "FirePanel$Place" "inAlarm" "Z", Cond.fieldLink RX6 162 "FirePanel$Place" "atFault" "Z", Cond.fieldLink RX6 149 "FirePanel$Place" "isOff" "Z", Cond.fieldLink RX6 165 "FirePanel$Place" "kind" "I", Cond.methodLink RX6 48 yX6_mustExist, Cond.static yX6_mustExist, Cond.initialized RX6, Cond.code yX6_mustExist cX6_mustExist 2 none, Cond.classLink RX6 192 "java/util/NoSuchElementException", Cond.initialized "java/util/NoSuchElementException", Cond.methodLink RX6 156 yX3_reachedPlaces, Cond.instanceMethod yX3_reachedPlaces, Cond.selects RX3 yX3_reachedPlaces yX3_reachedPlaces, Cond.initialized RX3, Cond.code yX3_reachedPlaces cX3_reachedPlaces 4 (some .int), Cond.methodLink RX3 22 yX3_passableWires, Cond.instanceMethod yX3_passableWires, Cond.selects RX3 yX3_passableWires yX3_passableWires, Cond.code yX3_passableWires cX3_passableWires 5 (some .int), Cond.fieldLink RX3 18 "FirePanel$Ring" "wires" "[I", Cond.methodLink RX3 26 yX3_endsStretch, Cond.instanceMethod yX3_endsStretch]
def wsX6_place_r2 : List Cond := [Cond.selects RX3 yX3_endsStretch yX3_endsStretch, Cond.code yX3_endsStretch cX3_endsStretch 2 (some .boolean), Cond.fieldLink RX3 11 "FirePanel$Ring" "places" "[LFirePanel$Place;", Cond.fieldLink RX3 30 "FirePanel$Place" "kind" "I"]
def wsX6_place : List Cond := .code yX6_place cX6_place 4 (some .int) :: ((wsX6_place_r1 ++ wsX6_place_r2) ++ wsX60 ++ wsX30 ++ wsX20 ++ (vx_atS RX6 196 "java/util/NoSuchElementException" ["java/lang/RuntimeException", "java/lang/Exception"]).filter goodWord)
def wsX6_zone_r1 : List Cond := [Cond.fieldLink RX6 18 "FirePanel" "zones" "[LFirePanel$Zone;", Cond.fieldLink RX6 137 "FirePanel$Zone" "inFire" "Z", Cond.fieldLink RX6 146 "FirePanel$Zone" "isOff" "Z", Cond.methodLink RX6 48 yX6_mustExist, Cond.static yX6_mustExist, Cond.initialized RX6, Cond.code yX6_mustExist cX6_mustExist 2 none, Cond.classLink RX6 192 "java/util/NoSuchElementException", Cond.initialized "java/util/NoSuchElementException", Cond.methodLink RX6 168 yX6_hasWarning, Cond.instanceMethod yX6_hasWarning, Cond.selects RX6 yX6_hasWarning yX6_hasWarning, Cond.code yX6_hasWarning cX6_hasWarning 6 (some .boolean), Cond.fieldLink RX6 10 "FirePanel" "ring" "LFirePanel$Ring;", Cond.fieldLink RX6 62 "FirePanel$Ring" "places" "[LFirePanel$Place;", Cond.methodLink RX6 222 yX2_watches, Cond.instanceMethod yX2_watches, Cond.selects RX2 yX2_watches yX2_watches, Cond.initialized RX2, Cond.code yX2_watches cX2_watches 2 (some .boolean), Cond.fieldLink RX2 15 "FirePanel$Place" "zone" "I", Cond.fieldLink RX2 45 "FirePanel$Place" "isOff" "Z", Cond.methodLink RX2 41 yX2_isSensor, Cond.instanceMethod yX2_isSensor]
def wsX6_zone_r2 : List Cond := [Cond.selects RX2 yX2_isSensor yX2_isSensor, Cond.code yX2_isSensor cX2_isSensor 1 (some .boolean), Cond.fieldLink RX2 9 "FirePanel$Place" "kind" "I", Cond.methodLink RX6 225 yX2_warns, Cond.instanceMethod yX2_warns, Cond.selects RX2 yX2_warns yX2_warns, Cond.code yX2_warns cX2_warns 1 (some .boolean), Cond.fieldLink RX2 31 "FirePanel$Place" "inAlarm" "Z", Cond.fieldLink RX2 25 "FirePanel$Place" "level" "F", Cond.fieldLink RX2 18 "FirePanel$Place" "threshold" "F", Cond.constantFloat RX2 48 (1061158912)]
def wsX6_zone : List Cond := .code yX6_zone cX6_zone 3 (some .int) :: ((wsX6_zone_r1 ++ wsX6_zone_r2) ++ wsX60 ++ wsX50 ++ wsX30 ++ wsX20 ++ (vx_atS RX6 196 "java/util/NoSuchElementException" ["java/lang/RuntimeException", "java/lang/Exception"]).filter goodWord)
def wsX6_output : List Cond := .code yX6_output cX6_output 3 (some .int) :: ([.fieldLink RX6 30 "FirePanel" "outputsOn" "[Z", .fieldLink RX6 129 "FirePanel" "silent" "Z", .methodLink RX6 48 yX6_mustExist, .static yX6_mustExist, .initialized RX6, .code yX6_mustExist cX6_mustExist 2 none, .classLink RX6 192 "java/util/NoSuchElementException", .initialized "java/util/NoSuchElementException"] ++ wsX60 ++ (vx_atS RX6 196 "java/util/NoSuchElementException" ["java/lang/RuntimeException", "java/lang/Exception"]).filter goodWord)
def wsX6_held : List Cond := .code yX6_held cX6_held 2 (some .int) :: ([.fieldLink RX6 90 "FirePanel" "ruleCount" "I", .methodLink RX6 172 Lib.Math.min.name, .static Lib.Math.min.name, .initialized "java/lang/Math", .code Lib.Math.min.name Lib.Math.min.code 2 (some .int), .fieldLink RX6 25 "FirePanel" "rules" "[LFirePanel$Rule;", .fieldLink RX6 143 "FirePanel$Rule" "held" "I", .methodLink RX6 48 yX6_mustExist, .static yX6_mustExist, .initialized RX6, .code yX6_mustExist cX6_mustExist 2 none, .classLink RX6 192 "java/util/NoSuchElementException", .initialized "java/util/NoSuchElementException"] ++ wsX60 ++ wsX40 ++ (vx_atS RX6 196 "java/util/NoSuchElementException" ["java/lang/RuntimeException", "java/lang/Exception"]).filter goodWord)
def wsX6_log : List Cond := .code yX6_log cX6_log 3 (some .int) :: ([.fieldLink RX6 44 "FirePanel" "entries" "LFirePanel$Log;", .fieldLink RX6 178 "FirePanel$Log" "size" "I", .methodLink RX6 172 Lib.Math.min.name, .static Lib.Math.min.name, .initialized "java/lang/Math", .code Lib.Math.min.name Lib.Math.min.code 2 (some .int), .fieldLink RX6 181 "FirePanel$Log" "words" "[I", .methodLink RX6 52 yX6_mustBeAllowed, .static yX6_mustBeAllowed, .initialized RX6, .code yX6_mustBeAllowed cX6_mustBeAllowed 1 none, .classLink RX6 187 "java/lang/IllegalArgumentException", .initialized "java/lang/IllegalArgumentException"] ++ wsX60 ++ wsX00 ++ (vx_atS RX6 191 "java/lang/IllegalArgumentException" ["java/lang/RuntimeException", "java/lang/Exception"]).filter goodWord)
def wsX6_count : List Cond := .code yX6_count cX6_count 2 (some .int) :: ([.classLink RX6 187 "java/lang/IllegalArgumentException", .initialized "java/lang/IllegalArgumentException", .fieldLink RX6 110 "FirePanel" "polls" "I", .fieldLink RX6 90 "FirePanel" "ruleCount" "I", .fieldLink RX6 126 "FirePanel" "entered" "I", .fieldLink RX6 129 "FirePanel" "silent" "Z", .fieldLink RX6 37 "FirePanel" "pad" "LFirePanel$Pad;", .fieldLink RX6 104 "FirePanel$Pad" "length" "I", .methodLink RX6 184 yX6_faults, .instanceMethod yX6_faults, .selects RX6 yX6_faults yX6_faults, .initialized RX6, .code yX6_faults cX6_faults 6 (some .int), .fieldLink RX6 10 "FirePanel" "ring" "LFirePanel$Ring;", .fieldLink RX6 62 "FirePanel$Ring" "places" "[LFirePanel$Place;", .fieldLink RX6 162 "FirePanel$Place" "atFault" "Z"] ++ wsX60 ++ wsX10 ++ wsX30 ++ wsX20 ++ (vx_atS RX6 191 "java/lang/IllegalArgumentException" ["java/lang/RuntimeException", "java/lang/Exception"]).filter goodWord)
def wsX7_init_r1 : List Cond := [Cond.methodLink RX7 1 objectInit, Cond.instanceMethod objectInit, Cond.code objectInit ⟨#[0xb1]⟩ 1 none, Cond.arrayClass .int, Cond.fieldLink RX7 7 "FirePanelModel" "wires" "[I", Cond.fieldLink RX7 13 "FirePanelModel" "kind" "[I", Cond.fieldLink RX7 16 "FirePanelModel" "zoneOf" "[I", Cond.arrayClass .float, Cond.fieldLink RX7 19 "FirePanelModel" "threshold" "[F", Cond.fieldLink RX7 23 "FirePanelModel" "readings" "[F", Cond.fieldLink RX7 26 "FirePanelModel" "bases" "[F", Cond.fieldLink RX7 29 "FirePanelModel" "levels" "[F", Cond.fieldLink RX7 32 "FirePanelModel" "over" "[I", Cond.arrayClass .boolean, Cond.fieldLink RX7 35 "FirePanelModel" "alarm" "[Z", Cond.fieldLink RX7 39 "FirePanelModel" "missed" "[I", Cond.fieldLink RX7 42 "FirePanelModel" "fault" "[Z", Cond.fieldLink RX7 45 "FirePanelModel" "placeOff" "[Z", Cond.fieldLink RX7 48 "FirePanelModel" "zoneOff" "[Z", Cond.fieldLink RX7 51 "FirePanelModel" "needs" "[I", Cond.fieldLink RX7 54 "FirePanelModel" "fire" "[Z", Cond.fieldLink RX7 57 "FirePanelModel" "words" "[I", Cond.fieldLink RX7 60 "FirePanelModel" "length" "[I", Cond.fieldLink RX7 63 "FirePanelModel" "drives" "[I"]
def wsX7_init_r2 : List Cond := [Cond.fieldLink RX7 66 "FirePanelModel" "delay" "[I", Cond.fieldLink RX7 69 "FirePanelModel" "heldFor" "[I", Cond.fieldLink RX7 72 "FirePanelModel" "on" "[Z", Cond.arrayClass .char, Cond.fieldLink RX7 75 "FirePanelModel" "pad" "[C", Cond.fieldLink RX7 79 "FirePanelModel" "logged" "[I", Cond.fieldLink RX7 82 "FirePanelModel" "waiting" "[C", Cond.fieldLink RX7 85 "FirePanelModel" "making" "[I"]
def wsX7_init : List Cond := .code yX7_init cX7_init 2 none :: ((wsX7_init_r1 ++ wsX7_init_r2) ++ wsX70)
def wsX7_thrown : List Cond := .code yX7_thrown cX7_thrown 1 (some .int) :: ([.fieldLink RX7 88 "FirePanelModel" "thrown" "I"] ++ wsX70)
def wsX7_in : List Cond := .code yX7_in cX7_in 3 (some .boolean) :: ([])
def wsX7_stretchShort : List Cond := .code yX7_stretchShort cX7_stretchShort 4 (some .boolean) :: ([.fieldLink RX7 7 "FirePanelModel" "wires" "[I", .fieldLink RX7 13 "FirePanelModel" "kind" "[I"] ++ wsX70)
def wsX7_goes : List Cond := .code yX7_goes cX7_goes 2 (some .boolean) :: ([.fieldLink RX7 7 "FirePanelModel" "wires" "[I", .methodLink RX7 92 yX7_stretchShort, .instanceMethod yX7_stretchShort, .selects RX7 yX7_stretchShort yX7_stretchShort, .initialized RX7, .code yX7_stretchShort cX7_stretchShort 4 (some .boolean), .fieldLink RX7 13 "FirePanelModel" "kind" "[I"] ++ wsX70)
def wsX7_reached : List Cond := .code yX7_reached cX7_reached 5 (some .boolean) :: ([.methodLink RX7 96 yX7_goes, .instanceMethod yX7_goes, .selects RX7 yX7_goes yX7_goes, .initialized RX7, .code yX7_goes cX7_goes 2 (some .boolean), .fieldLink RX7 7 "FirePanelModel" "wires" "[I", .methodLink RX7 92 yX7_stretchShort, .instanceMethod yX7_stretchShort, .selects RX7 yX7_stretchShort yX7_stretchShort, .code yX7_stretchShort cX7_stretchShort 4 (some .boolean), .fieldLink RX7 13 "FirePanelModel" "kind" "[I"] ++ wsX70)
def wsX7_isSensor : List Cond := .code yX7_isSensor cX7_isSensor 2 (some .boolean) :: ([.fieldLink RX7 13 "FirePanelModel" "kind" "[I", .methodLink RX7 99 yX7_in, .static yX7_in, .initialized RX7, .code yX7_in cX7_in 3 (some .boolean)] ++ wsX70)
def wsX7_fit : List Cond := .code yX7_fit cX7_fit 5 none :: ([.constantFloat RX7 103 (1056964608), .constantFloat RX7 104 (1120403456), .fieldLink RX7 105 "FirePanelModel" "access" "I", .fieldLink RX7 88 "FirePanelModel" "thrown" "I", .fieldLink RX7 13 "FirePanelModel" "kind" "[I", .fieldLink RX7 16 "FirePanelModel" "zoneOf" "[I", .fieldLink RX7 19 "FirePanelModel" "threshold" "[F", .fieldLink RX7 26 "FirePanelModel" "bases" "[F", .fieldLink RX7 29 "FirePanelModel" "levels" "[F", .fieldLink RX7 32 "FirePanelModel" "over" "[I", .fieldLink RX7 35 "FirePanelModel" "alarm" "[Z", .fieldLink RX7 39 "FirePanelModel" "missed" "[I", .fieldLink RX7 42 "FirePanelModel" "fault" "[Z", .methodLink RX7 99 yX7_in, .static yX7_in, .initialized RX7, .code yX7_in cX7_in 3 (some .boolean)] ++ wsX70)
def wsX7_need : List Cond := .code yX7_need cX7_need 3 none :: ([.fieldLink RX7 105 "FirePanelModel" "access" "I", .fieldLink RX7 88 "FirePanelModel" "thrown" "I", .fieldLink RX7 51 "FirePanelModel" "needs" "[I", .methodLink RX7 99 yX7_in, .static yX7_in, .initialized RX7, .code yX7_in cX7_in 3 (some .boolean)] ++ wsX70)
def wsX7_wire : List Cond := .code yX7_wire cX7_wire 3 none :: ([.fieldLink RX7 88 "FirePanelModel" "thrown" "I", .fieldLink RX7 7 "FirePanelModel" "wires" "[I", .methodLink RX7 99 yX7_in, .static yX7_in, .initialized RX7, .code yX7_in cX7_in 3 (some .boolean)] ++ wsX70)
def wsX7_reading : List Cond := .code yX7_reading cX7_reading 3 none :: ([.constantFloat RX7 108 (3267887104), .constantFloat RX7 109 (1128792064), .fieldLink RX7 88 "FirePanelModel" "thrown" "I", .fieldLink RX7 23 "FirePanelModel" "readings" "[F", .methodLink RX7 99 yX7_in, .static yX7_in, .initialized RX7, .code yX7_in cX7_in 3 (some .boolean)] ++ wsX70)
def wsX7_type : List Cond := .code yX7_type cX7_type 3 (some .boolean) :: ([.fieldLink RX7 88 "FirePanelModel" "thrown" "I", .fieldLink RX7 110 "FirePanelModel" "typed" "I", .fieldLink RX7 75 "FirePanelModel" "pad" "[C"] ++ wsX70)
def wsX7_look : List Cond := .code yX7_look cX7_look 2 (some .char) :: ([.fieldLink RX7 110 "FirePanelModel" "typed" "I", .fieldLink RX7 75 "FirePanelModel" "pad" "[C"] ++ wsX70)
def wsX7_word : List Cond := .code yX7_word cX7_word 2 none :: ([.fieldLink RX7 85 "FirePanelModel" "making" "[I", .fieldLink RX7 113 "FirePanelModel" "made" "I"] ++ wsX70)
def wsX7_deepness : List Cond := .code yX7_deepness cX7_deepness 3 (some .int) :: ([.fieldLink RX7 116 "FirePanelModel" "waits" "I", .fieldLink RX7 82 "FirePanelModel" "waiting" "[C"] ++ wsX70)
def wsX7_termDone : List Cond := .code yX7_termDone cX7_termDone 1 none :: ([.fieldLink RX7 116 "FirePanelModel" "waits" "I", .fieldLink RX7 82 "FirePanelModel" "waiting" "[C", .methodLink RX7 119 yX7_word, .instanceMethod yX7_word, .selects RX7 yX7_word yX7_word, .initialized RX7, .code yX7_word cX7_word 2 none, .fieldLink RX7 85 "FirePanelModel" "making" "[I", .fieldLink RX7 113 "FirePanelModel" "made" "I"] ++ wsX70)
def wsX7_put : List Cond := .code yX7_put cX7_put 2 none :: ([.fieldLink RX7 82 "FirePanelModel" "waiting" "[C", .fieldLink RX7 116 "FirePanelModel" "waits" "I"] ++ wsX70)
def wsX7_condition_r1 : List Cond := [Cond.fieldLink RX7 116 "FirePanelModel" "waits" "I", Cond.fieldLink RX7 113 "FirePanelModel" "made" "I", Cond.fieldLink RX7 110 "FirePanelModel" "typed" "I", Cond.methodLink RX7 123 yX7_look, Cond.instanceMethod yX7_look, Cond.selects RX7 yX7_look yX7_look, Cond.initialized RX7, Cond.code yX7_look cX7_look 2 (some .char), Cond.fieldLink RX7 75 "FirePanelModel" "pad" "[C", Cond.methodLink RX7 127 yX7_deepness, Cond.instanceMethod yX7_deepness, Cond.selects RX7 yX7_deepness yX7_deepness, Cond.code yX7_deepness cX7_deepness 3 (some .int), Cond.fieldLink RX7 82 "FirePanelModel" "waiting" "[C", Cond.methodLink RX7 131 yX7_put, Cond.instanceMethod yX7_put, Cond.selects RX7 yX7_put yX7_put, Cond.code yX7_put cX7_put 2 none, Cond.methodLink RX7 119 yX7_word, Cond.instanceMethod yX7_word, Cond.selects RX7 yX7_word yX7_word, Cond.code yX7_word cX7_word 2 none, Cond.fieldLink RX7 85 "FirePanelModel" "making" "[I", Cond.methodLink RX7 135 yX7_termDone]
def wsX7_condition_r2 : List Cond := [Cond.instanceMethod yX7_termDone, Cond.selects RX7 yX7_termDone yX7_termDone, Cond.code yX7_termDone cX7_termDone 1 none]
def wsX7_condition : List Cond := .code yX7_condition cX7_condition 5 (some .int) :: ((wsX7_condition_r1 ++ wsX7_condition_r2) ++ wsX70)
def wsX7_read_r1 : List Cond := [Cond.fieldLink RX7 110 "FirePanelModel" "typed" "I", Cond.fieldLink RX7 113 "FirePanelModel" "made" "I", Cond.fieldLink RX7 57 "FirePanelModel" "words" "[I", Cond.fieldLink RX7 85 "FirePanelModel" "making" "[I", Cond.fieldLink RX7 60 "FirePanelModel" "length" "[I", Cond.fieldLink RX7 63 "FirePanelModel" "drives" "[I", Cond.fieldLink RX7 66 "FirePanelModel" "delay" "[I", Cond.fieldLink RX7 69 "FirePanelModel" "heldFor" "[I", Cond.methodLink RX7 138 yX7_condition, Cond.instanceMethod yX7_condition, Cond.selects RX7 yX7_condition yX7_condition, Cond.initialized RX7, Cond.code yX7_condition cX7_condition 5 (some .int), Cond.fieldLink RX7 116 "FirePanelModel" "waits" "I", Cond.methodLink RX7 123 yX7_look, Cond.instanceMethod yX7_look, Cond.selects RX7 yX7_look yX7_look, Cond.code yX7_look cX7_look 2 (some .char), Cond.fieldLink RX7 75 "FirePanelModel" "pad" "[C", Cond.methodLink RX7 127 yX7_deepness, Cond.instanceMethod yX7_deepness, Cond.selects RX7 yX7_deepness yX7_deepness, Cond.code yX7_deepness cX7_deepness 3 (some .int), Cond.fieldLink RX7 82 "FirePanelModel" "waiting" "[C"]
def wsX7_read_r2 : List Cond := [Cond.methodLink RX7 131 yX7_put, Cond.instanceMethod yX7_put, Cond.selects RX7 yX7_put yX7_put, Cond.code yX7_put cX7_put 2 none, Cond.methodLink RX7 119 yX7_word, Cond.instanceMethod yX7_word, Cond.selects RX7 yX7_word yX7_word, Cond.code yX7_word cX7_word 2 none, Cond.methodLink RX7 135 yX7_termDone, Cond.instanceMethod yX7_termDone, Cond.selects RX7 yX7_termDone yX7_termDone, Cond.code yX7_termDone cX7_termDone 1 none]
def wsX7_read : List Cond := .code yX7_read cX7_read 5 (some .int) :: ((wsX7_read_r1 ++ wsX7_read_r2) ++ wsX70)
def wsX7_rule_r1 : List Cond := [Cond.fieldLink RX7 105 "FirePanelModel" "access" "I", Cond.fieldLink RX7 141 "FirePanelModel" "rules" "I", Cond.fieldLink RX7 88 "FirePanelModel" "thrown" "I", Cond.fieldLink RX7 110 "FirePanelModel" "typed" "I", Cond.methodLink RX7 144 yX7_read, Cond.instanceMethod yX7_read, Cond.selects RX7 yX7_read yX7_read, Cond.initialized RX7, Cond.code yX7_read cX7_read 5 (some .int), Cond.fieldLink RX7 113 "FirePanelModel" "made" "I", Cond.fieldLink RX7 57 "FirePanelModel" "words" "[I", Cond.fieldLink RX7 85 "FirePanelModel" "making" "[I", Cond.fieldLink RX7 60 "FirePanelModel" "length" "[I", Cond.fieldLink RX7 63 "FirePanelModel" "drives" "[I", Cond.fieldLink RX7 66 "FirePanelModel" "delay" "[I", Cond.fieldLink RX7 69 "FirePanelModel" "heldFor" "[I", Cond.methodLink RX7 138 yX7_condition, Cond.instanceMethod yX7_condition, Cond.selects RX7 yX7_condition yX7_condition, Cond.code yX7_condition cX7_condition 5 (some .int), Cond.fieldLink RX7 116 "FirePanelModel" "waits" "I", Cond.methodLink RX7 123 yX7_look, Cond.instanceMethod yX7_look, Cond.selects RX7 yX7_look yX7_look]
def wsX7_rule_r2 : List Cond := [Cond.code yX7_look cX7_look 2 (some .char), Cond.fieldLink RX7 75 "FirePanelModel" "pad" "[C", Cond.methodLink RX7 127 yX7_deepness, Cond.instanceMethod yX7_deepness, Cond.selects RX7 yX7_deepness yX7_deepness, Cond.code yX7_deepness cX7_deepness 3 (some .int), Cond.fieldLink RX7 82 "FirePanelModel" "waiting" "[C", Cond.methodLink RX7 131 yX7_put, Cond.instanceMethod yX7_put, Cond.selects RX7 yX7_put yX7_put, Cond.code yX7_put cX7_put 2 none, Cond.methodLink RX7 119 yX7_word, Cond.instanceMethod yX7_word, Cond.selects RX7 yX7_word yX7_word, Cond.code yX7_word cX7_word 2 none, Cond.methodLink RX7 135 yX7_termDone, Cond.instanceMethod yX7_termDone, Cond.selects RX7 yX7_termDone yX7_termDone, Cond.code yX7_termDone cX7_termDone 1 none]
def wsX7_rule : List Cond := .code yX7_rule cX7_rule 2 (some .int) :: ((wsX7_rule_r1 ++ wsX7_rule_r2) ++ wsX70)
def wsX7_forget : List Cond := .code yX7_forget cX7_forget 3 (some .int) :: ([.fieldLink RX7 105 "FirePanelModel" "access" "I", .fieldLink RX7 88 "FirePanelModel" "thrown" "I", .fieldLink RX7 141 "FirePanelModel" "rules" "I", .fieldLink RX7 72 "FirePanelModel" "on" "[Z"] ++ wsX70)
def wsX7_note : List Cond := .code yX7_note cX7_note 4 none :: ([.fieldLink RX7 79 "FirePanelModel" "logged" "[I", .fieldLink RX7 148 "FirePanelModel" "polls" "I", .fieldLink RX7 151 "FirePanelModel" "entries" "I"] ++ wsX70)
def wsX7_warns : List Cond := .code yX7_warns cX7_warns 5 (some .boolean) :: ([.fieldLink RX7 16 "FirePanelModel" "zoneOf" "[I", .fieldLink RX7 45 "FirePanelModel" "placeOff" "[Z", .fieldLink RX7 35 "FirePanelModel" "alarm" "[Z", .fieldLink RX7 13 "FirePanelModel" "kind" "[I", .fieldLink RX7 29 "FirePanelModel" "levels" "[F", .fieldLink RX7 19 "FirePanelModel" "threshold" "[F", .constantFloat RX7 157 (1061158912), .methodLink RX7 154 yX7_isSensor, .instanceMethod yX7_isSensor, .selects RX7 yX7_isSensor yX7_isSensor, .initialized RX7, .code yX7_isSensor cX7_isSensor 2 (some .boolean), .methodLink RX7 99 yX7_in, .static yX7_in, .code yX7_in cX7_in 3 (some .boolean)] ++ wsX70)
def wsX7_faults : List Cond := .code yX7_faults cX7_faults 3 (some .int) :: ([.fieldLink RX7 42 "FirePanelModel" "fault" "[Z"] ++ wsX70)
def wsX7_sense : List Cond := .code yX7_sense cX7_sense 4 none :: ([.fieldLink RX7 23 "FirePanelModel" "readings" "[F", .fieldLink RX7 13 "FirePanelModel" "kind" "[I", .fieldLink RX7 32 "FirePanelModel" "over" "[I", .fieldLink RX7 29 "FirePanelModel" "levels" "[F", .fieldLink RX7 26 "FirePanelModel" "bases" "[F", .constantFloat RX7 103 (1056964608), .constantFloat RX7 158 (1082130432), .constantFloat RX7 159 (1048576000), .fieldLink RX7 19 "FirePanelModel" "threshold" "[F", .constantFloat RX7 160 (1031798784), .fieldLink RX7 35 "FirePanelModel" "alarm" "[Z"] ++ wsX70)
def wsX7_ask_r1 : List Cond := [Cond.fieldLink RX7 39 "FirePanelModel" "missed" "[I", Cond.fieldLink RX7 42 "FirePanelModel" "fault" "[Z", Cond.fieldLink RX7 45 "FirePanelModel" "placeOff" "[Z", Cond.methodLink RX7 161 yX7_reached, Cond.instanceMethod yX7_reached, Cond.selects RX7 yX7_reached yX7_reached, Cond.initialized RX7, Cond.code yX7_reached cX7_reached 5 (some .boolean), Cond.methodLink RX7 96 yX7_goes, Cond.instanceMethod yX7_goes, Cond.selects RX7 yX7_goes yX7_goes, Cond.code yX7_goes cX7_goes 2 (some .boolean), Cond.fieldLink RX7 7 "FirePanelModel" "wires" "[I", Cond.methodLink RX7 92 yX7_stretchShort, Cond.instanceMethod yX7_stretchShort, Cond.selects RX7 yX7_stretchShort yX7_stretchShort, Cond.code yX7_stretchShort cX7_stretchShort 4 (some .boolean), Cond.fieldLink RX7 13 "FirePanelModel" "kind" "[I", Cond.methodLink RX7 164 yX7_note, Cond.instanceMethod yX7_note, Cond.selects RX7 yX7_note yX7_note, Cond.code yX7_note cX7_note 4 none, Cond.fieldLink RX7 79 "FirePanelModel" "logged" "[I", Cond.fieldLink RX7 148 "FirePanelModel" "polls" "I"]
def wsX7_ask_r2 : List Cond := [Cond.fieldLink RX7 151 "FirePanelModel" "entries" "I", Cond.methodLink RX7 168 yX7_sense, Cond.instanceMethod yX7_sense, Cond.selects RX7 yX7_sense yX7_sense, Cond.code yX7_sense cX7_sense 4 none, Cond.fieldLink RX7 23 "FirePanelModel" "readings" "[F", Cond.fieldLink RX7 32 "FirePanelModel" "over" "[I", Cond.fieldLink RX7 29 "FirePanelModel" "levels" "[F", Cond.fieldLink RX7 26 "FirePanelModel" "bases" "[F", Cond.constantFloat RX7 103 (1056964608), Cond.constantFloat RX7 158 (1082130432), Cond.constantFloat RX7 159 (1048576000), Cond.fieldLink RX7 19 "FirePanelModel" "threshold" "[F", Cond.constantFloat RX7 160 (1031798784), Cond.fieldLink RX7 35 "FirePanelModel" "alarm" "[Z"]
def wsX7_ask : List Cond := .code yX7_ask cX7_ask 2 none :: ((wsX7_ask_r1 ++ wsX7_ask_r2) ++ wsX70)
def wsX7_burns : List Cond := .code yX7_burns cX7_burns 6 (some .boolean) :: ([.fieldLink RX7 16 "FirePanelModel" "zoneOf" "[I", .fieldLink RX7 45 "FirePanelModel" "placeOff" "[Z", .fieldLink RX7 35 "FirePanelModel" "alarm" "[Z", .fieldLink RX7 13 "FirePanelModel" "kind" "[I", .fieldLink RX7 48 "FirePanelModel" "zoneOff" "[Z", .fieldLink RX7 54 "FirePanelModel" "fire" "[Z", .fieldLink RX7 51 "FirePanelModel" "needs" "[I", .methodLink RX7 154 yX7_isSensor, .instanceMethod yX7_isSensor, .selects RX7 yX7_isSensor yX7_isSensor, .initialized RX7, .code yX7_isSensor cX7_isSensor 2 (some .boolean), .methodLink RX7 99 yX7_in, .static yX7_in, .code yX7_in cX7_in 3 (some .boolean)] ++ wsX70)
def wsX7_holds_r1 : List Cond := [Cond.fieldLink RX7 60 "FirePanelModel" "length" "[I", Cond.fieldLink RX7 57 "FirePanelModel" "words" "[I", Cond.fieldLink RX7 54 "FirePanelModel" "fire" "[Z", Cond.methodLink RX7 171 yX7_faults, Cond.instanceMethod yX7_faults, Cond.selects RX7 yX7_faults yX7_faults, Cond.initialized RX7, Cond.code yX7_faults cX7_faults 3 (some .int), Cond.fieldLink RX7 42 "FirePanelModel" "fault" "[Z", Cond.methodLink RX7 174 yX7_warns, Cond.instanceMethod yX7_warns, Cond.selects RX7 yX7_warns yX7_warns, Cond.code yX7_warns cX7_warns 5 (some .boolean), Cond.fieldLink RX7 16 "FirePanelModel" "zoneOf" "[I", Cond.fieldLink RX7 45 "FirePanelModel" "placeOff" "[Z", Cond.fieldLink RX7 35 "FirePanelModel" "alarm" "[Z", Cond.fieldLink RX7 13 "FirePanelModel" "kind" "[I", Cond.fieldLink RX7 29 "FirePanelModel" "levels" "[F", Cond.fieldLink RX7 19 "FirePanelModel" "threshold" "[F", Cond.constantFloat RX7 157 (1061158912), Cond.methodLink RX7 154 yX7_isSensor, Cond.instanceMethod yX7_isSensor, Cond.selects RX7 yX7_isSensor yX7_isSensor, Cond.code yX7_isSensor cX7_isSensor 2 (some .boolean)]
def wsX7_holds_r2 : List Cond := [Cond.methodLink RX7 99 yX7_in, Cond.static yX7_in, Cond.code yX7_in cX7_in 3 (some .boolean)]
def wsX7_holds : List Cond := .code yX7_holds cX7_holds 7 (some .boolean) :: ((wsX7_holds_r1 ++ wsX7_holds_r2) ++ wsX70)
def wsX7_drive_r1 : List Cond := [Cond.fieldLink RX7 141 "FirePanelModel" "rules" "I", Cond.fieldLink RX7 69 "FirePanelModel" "heldFor" "[I", Cond.fieldLink RX7 63 "FirePanelModel" "drives" "[I", Cond.fieldLink RX7 66 "FirePanelModel" "delay" "[I", Cond.fieldLink RX7 72 "FirePanelModel" "on" "[Z", Cond.methodLink RX7 177 yX7_holds, Cond.instanceMethod yX7_holds, Cond.selects RX7 yX7_holds yX7_holds, Cond.initialized RX7, Cond.code yX7_holds cX7_holds 7 (some .boolean), Cond.fieldLink RX7 60 "FirePanelModel" "length" "[I", Cond.fieldLink RX7 57 "FirePanelModel" "words" "[I", Cond.fieldLink RX7 54 "FirePanelModel" "fire" "[Z", Cond.methodLink RX7 171 yX7_faults, Cond.instanceMethod yX7_faults, Cond.selects RX7 yX7_faults yX7_faults, Cond.code yX7_faults cX7_faults 3 (some .int), Cond.fieldLink RX7 42 "FirePanelModel" "fault" "[Z", Cond.methodLink RX7 174 yX7_warns, Cond.instanceMethod yX7_warns, Cond.selects RX7 yX7_warns yX7_warns, Cond.code yX7_warns cX7_warns 5 (some .boolean), Cond.fieldLink RX7 16 "FirePanelModel" "zoneOf" "[I", Cond.fieldLink RX7 45 "FirePanelModel" "placeOff" "[Z"]
def wsX7_drive_r2 : List Cond := [Cond.fieldLink RX7 35 "FirePanelModel" "alarm" "[Z", Cond.fieldLink RX7 13 "FirePanelModel" "kind" "[I", Cond.fieldLink RX7 29 "FirePanelModel" "levels" "[F", Cond.fieldLink RX7 19 "FirePanelModel" "threshold" "[F", Cond.constantFloat RX7 157 (1061158912), Cond.methodLink RX7 154 yX7_isSensor, Cond.instanceMethod yX7_isSensor, Cond.selects RX7 yX7_isSensor yX7_isSensor, Cond.code yX7_isSensor cX7_isSensor 2 (some .boolean), Cond.methodLink RX7 99 yX7_in, Cond.static yX7_in, Cond.code yX7_in cX7_in 3 (some .boolean), Cond.methodLink RX7 164 yX7_note, Cond.instanceMethod yX7_note, Cond.selects RX7 yX7_note yX7_note, Cond.code yX7_note cX7_note 4 none, Cond.fieldLink RX7 79 "FirePanelModel" "logged" "[I", Cond.fieldLink RX7 148 "FirePanelModel" "polls" "I", Cond.fieldLink RX7 151 "FirePanelModel" "entries" "I"]
def wsX7_drive : List Cond := .code yX7_drive cX7_drive 4 none :: ((wsX7_drive_r1 ++ wsX7_drive_r2) ++ wsX70)
def wsX7_poll_r1 : List Cond := [Cond.fieldLink RX7 88 "FirePanelModel" "thrown" "I", Cond.fieldLink RX7 148 "FirePanelModel" "polls" "I", Cond.fieldLink RX7 54 "FirePanelModel" "fire" "[Z", Cond.fieldLink RX7 186 "FirePanelModel" "quiet" "Z", Cond.methodLink RX7 154 yX7_isSensor, Cond.instanceMethod yX7_isSensor, Cond.selects RX7 yX7_isSensor yX7_isSensor, Cond.initialized RX7, Cond.code yX7_isSensor cX7_isSensor 2 (some .boolean), Cond.fieldLink RX7 13 "FirePanelModel" "kind" "[I", Cond.methodLink RX7 99 yX7_in, Cond.static yX7_in, Cond.code yX7_in cX7_in 3 (some .boolean), Cond.methodLink RX7 180 yX7_ask, Cond.instanceMethod yX7_ask, Cond.selects RX7 yX7_ask yX7_ask, Cond.code yX7_ask cX7_ask 2 none, Cond.fieldLink RX7 39 "FirePanelModel" "missed" "[I", Cond.fieldLink RX7 42 "FirePanelModel" "fault" "[Z", Cond.fieldLink RX7 45 "FirePanelModel" "placeOff" "[Z", Cond.methodLink RX7 161 yX7_reached, Cond.instanceMethod yX7_reached, Cond.selects RX7 yX7_reached yX7_reached, Cond.code yX7_reached cX7_reached 5 (some .boolean)]
def wsX7_poll_r2 : List Cond := [Cond.methodLink RX7 96 yX7_goes, Cond.instanceMethod yX7_goes, Cond.selects RX7 yX7_goes yX7_goes, Cond.code yX7_goes cX7_goes 2 (some .boolean), Cond.fieldLink RX7 7 "FirePanelModel" "wires" "[I", Cond.methodLink RX7 92 yX7_stretchShort, Cond.instanceMethod yX7_stretchShort, Cond.selects RX7 yX7_stretchShort yX7_stretchShort, Cond.code yX7_stretchShort cX7_stretchShort 4 (some .boolean), Cond.methodLink RX7 164 yX7_note, Cond.instanceMethod yX7_note, Cond.selects RX7 yX7_note yX7_note, Cond.code yX7_note cX7_note 4 none, Cond.fieldLink RX7 79 "FirePanelModel" "logged" "[I", Cond.fieldLink RX7 151 "FirePanelModel" "entries" "I", Cond.methodLink RX7 168 yX7_sense, Cond.instanceMethod yX7_sense, Cond.selects RX7 yX7_sense yX7_sense, Cond.code yX7_sense cX7_sense 4 none, Cond.fieldLink RX7 23 "FirePanelModel" "readings" "[F", Cond.fieldLink RX7 32 "FirePanelModel" "over" "[I", Cond.fieldLink RX7 29 "FirePanelModel" "levels" "[F", Cond.fieldLink RX7 26 "FirePanelModel" "bases" "[F", Cond.constantFloat RX7 103 (1056964608)]
def wsX7_poll_r3 : List Cond := [Cond.constantFloat RX7 158 (1082130432), Cond.constantFloat RX7 159 (1048576000), Cond.fieldLink RX7 19 "FirePanelModel" "threshold" "[F", Cond.constantFloat RX7 160 (1031798784), Cond.fieldLink RX7 35 "FirePanelModel" "alarm" "[Z", Cond.methodLink RX7 183 yX7_burns, Cond.instanceMethod yX7_burns, Cond.selects RX7 yX7_burns yX7_burns, Cond.code yX7_burns cX7_burns 6 (some .boolean), Cond.fieldLink RX7 16 "FirePanelModel" "zoneOf" "[I", Cond.fieldLink RX7 48 "FirePanelModel" "zoneOff" "[Z", Cond.fieldLink RX7 51 "FirePanelModel" "needs" "[I", Cond.methodLink RX7 190 yX7_drive, Cond.instanceMethod yX7_drive, Cond.selects RX7 yX7_drive yX7_drive, Cond.code yX7_drive cX7_drive 4 none, Cond.fieldLink RX7 141 "FirePanelModel" "rules" "I", Cond.fieldLink RX7 69 "FirePanelModel" "heldFor" "[I", Cond.fieldLink RX7 63 "FirePanelModel" "drives" "[I", Cond.fieldLink RX7 66 "FirePanelModel" "delay" "[I", Cond.fieldLink RX7 72 "FirePanelModel" "on" "[Z", Cond.methodLink RX7 177 yX7_holds, Cond.instanceMethod yX7_holds, Cond.selects RX7 yX7_holds yX7_holds]
def wsX7_poll_r4 : List Cond := [Cond.code yX7_holds cX7_holds 7 (some .boolean), Cond.fieldLink RX7 60 "FirePanelModel" "length" "[I", Cond.fieldLink RX7 57 "FirePanelModel" "words" "[I", Cond.methodLink RX7 171 yX7_faults, Cond.instanceMethod yX7_faults, Cond.selects RX7 yX7_faults yX7_faults, Cond.code yX7_faults cX7_faults 3 (some .int), Cond.methodLink RX7 174 yX7_warns, Cond.instanceMethod yX7_warns, Cond.selects RX7 yX7_warns yX7_warns, Cond.code yX7_warns cX7_warns 5 (some .boolean), Cond.constantFloat RX7 157 (1061158912)]
def wsX7_poll : List Cond := .code yX7_poll cX7_poll 3 (some .int) :: ((wsX7_poll_r1 ++ (wsX7_poll_r2 ++ (wsX7_poll_r3 ++ wsX7_poll_r4))) ++ wsX70)
def wsX7_key : List Cond := .code yX7_key cX7_key 2 (some .int) :: ([.fieldLink RX7 88 "FirePanelModel" "thrown" "I", .fieldLink RX7 105 "FirePanelModel" "access" "I"] ++ wsX70)
def wsX7_silence : List Cond := .code yX7_silence cX7_silence 1 (some .boolean) :: ([.fieldLink RX7 105 "FirePanelModel" "access" "I", .fieldLink RX7 88 "FirePanelModel" "thrown" "I", .fieldLink RX7 186 "FirePanelModel" "quiet" "Z", .methodLink RX7 164 yX7_note, .instanceMethod yX7_note, .selects RX7 yX7_note yX7_note, .initialized RX7, .code yX7_note cX7_note 4 none, .fieldLink RX7 79 "FirePanelModel" "logged" "[I", .fieldLink RX7 148 "FirePanelModel" "polls" "I", .fieldLink RX7 151 "FirePanelModel" "entries" "I"] ++ wsX70)
def wsX7_reset : List Cond := .code yX7_reset cX7_reset 3 (some .int) :: ([.fieldLink RX7 105 "FirePanelModel" "access" "I", .fieldLink RX7 88 "FirePanelModel" "thrown" "I", .fieldLink RX7 54 "FirePanelModel" "fire" "[Z", .fieldLink RX7 35 "FirePanelModel" "alarm" "[Z", .fieldLink RX7 32 "FirePanelModel" "over" "[I", .fieldLink RX7 69 "FirePanelModel" "heldFor" "[I", .fieldLink RX7 72 "FirePanelModel" "on" "[Z", .fieldLink RX7 186 "FirePanelModel" "quiet" "Z", .methodLink RX7 164 yX7_note, .instanceMethod yX7_note, .selects RX7 yX7_note yX7_note, .initialized RX7, .code yX7_note cX7_note 4 none, .fieldLink RX7 79 "FirePanelModel" "logged" "[I", .fieldLink RX7 148 "FirePanelModel" "polls" "I", .fieldLink RX7 151 "FirePanelModel" "entries" "I"] ++ wsX70)
def wsX7_off : List Cond := .code yX7_off cX7_off 5 (some .boolean) :: ([.fieldLink RX7 105 "FirePanelModel" "access" "I", .fieldLink RX7 88 "FirePanelModel" "thrown" "I", .fieldLink RX7 48 "FirePanelModel" "zoneOff" "[Z", .fieldLink RX7 45 "FirePanelModel" "placeOff" "[Z", .methodLink RX7 99 yX7_in, .static yX7_in, .initialized RX7, .code yX7_in cX7_in 3 (some .boolean), .methodLink RX7 164 yX7_note, .instanceMethod yX7_note, .selects RX7 yX7_note yX7_note, .code yX7_note cX7_note 4 none, .fieldLink RX7 79 "FirePanelModel" "logged" "[I", .fieldLink RX7 148 "FirePanelModel" "polls" "I", .fieldLink RX7 151 "FirePanelModel" "entries" "I"] ++ wsX70)
def wsX7_level : List Cond := .code yX7_level cX7_level 2 (some .float) :: ([.fieldLink RX7 88 "FirePanelModel" "thrown" "I", .fieldLink RX7 29 "FirePanelModel" "levels" "[F", .methodLink RX7 99 yX7_in, .static yX7_in, .initialized RX7, .code yX7_in cX7_in 3 (some .boolean)] ++ wsX70)
def wsX7_base : List Cond := .code yX7_base cX7_base 2 (some .float) :: ([.fieldLink RX7 88 "FirePanelModel" "thrown" "I", .fieldLink RX7 26 "FirePanelModel" "bases" "[F", .methodLink RX7 99 yX7_in, .static yX7_in, .initialized RX7, .code yX7_in cX7_in 3 (some .boolean)] ++ wsX70)
def wsX7_place : List Cond := .code yX7_place cX7_place 2 (some .int) :: ([.fieldLink RX7 88 "FirePanelModel" "thrown" "I", .fieldLink RX7 35 "FirePanelModel" "alarm" "[Z", .fieldLink RX7 42 "FirePanelModel" "fault" "[Z", .fieldLink RX7 45 "FirePanelModel" "placeOff" "[Z", .fieldLink RX7 13 "FirePanelModel" "kind" "[I", .methodLink RX7 99 yX7_in, .static yX7_in, .initialized RX7, .code yX7_in cX7_in 3 (some .boolean), .methodLink RX7 161 yX7_reached, .instanceMethod yX7_reached, .selects RX7 yX7_reached yX7_reached, .code yX7_reached cX7_reached 5 (some .boolean), .methodLink RX7 96 yX7_goes, .instanceMethod yX7_goes, .selects RX7 yX7_goes yX7_goes, .code yX7_goes cX7_goes 2 (some .boolean), .fieldLink RX7 7 "FirePanelModel" "wires" "[I", .methodLink RX7 92 yX7_stretchShort, .instanceMethod yX7_stretchShort, .selects RX7 yX7_stretchShort yX7_stretchShort, .code yX7_stretchShort cX7_stretchShort 4 (some .boolean)] ++ wsX70)
def wsX7_zone : List Cond := .code yX7_zone cX7_zone 2 (some .int) :: ([.fieldLink RX7 88 "FirePanelModel" "thrown" "I", .fieldLink RX7 54 "FirePanelModel" "fire" "[Z", .fieldLink RX7 48 "FirePanelModel" "zoneOff" "[Z", .methodLink RX7 99 yX7_in, .static yX7_in, .initialized RX7, .code yX7_in cX7_in 3 (some .boolean), .methodLink RX7 174 yX7_warns, .instanceMethod yX7_warns, .selects RX7 yX7_warns yX7_warns, .code yX7_warns cX7_warns 5 (some .boolean), .fieldLink RX7 16 "FirePanelModel" "zoneOf" "[I", .fieldLink RX7 45 "FirePanelModel" "placeOff" "[Z", .fieldLink RX7 35 "FirePanelModel" "alarm" "[Z", .fieldLink RX7 13 "FirePanelModel" "kind" "[I", .fieldLink RX7 29 "FirePanelModel" "levels" "[F", .fieldLink RX7 19 "FirePanelModel" "threshold" "[F", .constantFloat RX7 157 (1061158912), .methodLink RX7 154 yX7_isSensor, .instanceMethod yX7_isSensor, .selects RX7 yX7_isSensor yX7_isSensor, .code yX7_isSensor cX7_isSensor 2 (some .boolean)] ++ wsX70)
def wsX7_output : List Cond := .code yX7_output cX7_output 2 (some .int) :: ([.fieldLink RX7 88 "FirePanelModel" "thrown" "I", .fieldLink RX7 72 "FirePanelModel" "on" "[Z", .fieldLink RX7 186 "FirePanelModel" "quiet" "Z", .methodLink RX7 99 yX7_in, .static yX7_in, .initialized RX7, .code yX7_in cX7_in 3 (some .boolean)] ++ wsX70)
def wsX7_held : List Cond := .code yX7_held cX7_held 2 (some .int) :: ([.fieldLink RX7 141 "FirePanelModel" "rules" "I", .fieldLink RX7 88 "FirePanelModel" "thrown" "I", .fieldLink RX7 69 "FirePanelModel" "heldFor" "[I", .methodLink RX7 99 yX7_in, .static yX7_in, .initialized RX7, .code yX7_in cX7_in 3 (some .boolean)] ++ wsX70)
def wsX7_log : List Cond := .code yX7_log cX7_log 3 (some .int) :: ([.fieldLink RX7 151 "FirePanelModel" "entries" "I", .fieldLink RX7 88 "FirePanelModel" "thrown" "I", .fieldLink RX7 79 "FirePanelModel" "logged" "[I", .methodLink RX7 99 yX7_in, .static yX7_in, .initialized RX7, .code yX7_in cX7_in 3 (some .boolean)] ++ wsX70)
def wsX7_count : List Cond := .code yX7_count cX7_count 2 (some .int) :: ([.fieldLink RX7 88 "FirePanelModel" "thrown" "I", .fieldLink RX7 148 "FirePanelModel" "polls" "I", .fieldLink RX7 141 "FirePanelModel" "rules" "I", .fieldLink RX7 105 "FirePanelModel" "access" "I", .fieldLink RX7 186 "FirePanelModel" "quiet" "Z", .fieldLink RX7 110 "FirePanelModel" "typed" "I", .methodLink RX7 99 yX7_in, .static yX7_in, .initialized RX7, .code yX7_in cX7_in 3 (some .boolean), .methodLink RX7 171 yX7_faults, .instanceMethod yX7_faults, .selects RX7 yX7_faults yX7_faults, .code yX7_faults cX7_faults 3 (some .int), .fieldLink RX7 42 "FirePanelModel" "fault" "[Z"] ++ wsX70)
def wsJ9_min_7cf53 : List Cond := .code yJ9_min_7cf53 cJ9_min_7cf53 2 (some .int) :: ([])
def wsL_fit_r1 : List Cond := [Cond.classLink RL 13 "java/util/NoSuchElementException", Cond.classLink RL 15 "java/lang/IllegalArgumentException", Cond.classLink RL 17 "java/lang/IllegalStateException", Cond.methodLink RL 7 yX6_fit, Cond.instanceMethod yX6_fit, Cond.selects RX6 yX6_fit yX6_fit, Cond.initialized RX6, Cond.code yX6_fit cX6_fit 5 none, Cond.constantFloat RX6 56 (1056964608), Cond.constantFloat RX6 57 (1120403456), Cond.fieldLink RX6 10 "FirePanel" "ring" "LFirePanel$Ring;", Cond.fieldLink RX6 62 "FirePanel$Ring" "places" "[LFirePanel$Place;", Cond.methodLink RX6 48 yX6_mustExist, Cond.static yX6_mustExist, Cond.code yX6_mustExist cX6_mustExist 2 none, Cond.classLink RX6 192 "java/util/NoSuchElementException", Cond.initialized "java/util/NoSuchElementException", Cond.methodLink RX6 52 yX6_mustBeAllowed, Cond.static yX6_mustBeAllowed, Cond.code yX6_mustBeAllowed cX6_mustBeAllowed 1 none, Cond.classLink RX6 187 "java/lang/IllegalArgumentException", Cond.initialized "java/lang/IllegalArgumentException", Cond.methodLink RX6 58 yX6_mustHaveEntered, Cond.instanceMethod yX6_mustHaveEntered]
def wsL_fit_r2 : List Cond := [Cond.selects RX6 yX6_mustHaveEntered yX6_mustHaveEntered, Cond.code yX6_mustHaveEntered cX6_mustHaveEntered 2 none, Cond.classLink RX6 93 "java/lang/IllegalStateException", Cond.initialized "java/lang/IllegalStateException", Cond.fieldLink RX6 126 "FirePanel" "entered" "I", Cond.methodLink RX6 66 yX2_begin, Cond.instanceMethod yX2_begin, Cond.selects RX2 yX2_begin yX2_begin, Cond.initialized RX2, Cond.code yX2_begin cX2_begin 4 none, Cond.fieldLink RX2 9 "FirePanel$Place" "kind" "I", Cond.fieldLink RX2 15 "FirePanel$Place" "zone" "I", Cond.fieldLink RX2 18 "FirePanel$Place" "threshold" "F", Cond.fieldLink RX2 22 "FirePanel$Place" "base" "F", Cond.fieldLink RX2 25 "FirePanel$Place" "level" "F", Cond.fieldLink RX2 28 "FirePanel$Place" "over" "I", Cond.fieldLink RX2 31 "FirePanel$Place" "inAlarm" "Z", Cond.fieldLink RX2 35 "FirePanel$Place" "missed" "I", Cond.fieldLink RX2 38 "FirePanel$Place" "atFault" "Z"]
def wsL_fit : List Cond := .codeWith yL_fit cL_fit 6 (some .int) [(0, 9, 12, 13), (0, 9, 16, 15), (0, 9, 20, 17)] :: ((wsL_fit_r1 ++ wsL_fit_r2) ++ wsX60 ++ wsX30 ++ wsX20 ++ (vx_atS RX6 196 "java/util/NoSuchElementException" ["java/lang/RuntimeException", "java/lang/Exception"]).filter goodWord ++ (vx_atS RX6 191 "java/lang/IllegalArgumentException" ["java/lang/RuntimeException", "java/lang/Exception"]).filter goodWord ++ (vx_atS RX6 97 "java/lang/IllegalStateException" ["java/lang/RuntimeException", "java/lang/Exception"]).filter goodWord)
def wsL_need_r1 : List Cond := [Cond.classLink RL 13 "java/util/NoSuchElementException", Cond.classLink RL 15 "java/lang/IllegalArgumentException", Cond.classLink RL 17 "java/lang/IllegalStateException", Cond.methodLink RL 19 yX6_need, Cond.instanceMethod yX6_need, Cond.selects RX6 yX6_need yX6_need, Cond.initialized RX6, Cond.code yX6_need cX6_need 3 none, Cond.fieldLink RX6 18 "FirePanel" "zones" "[LFirePanel$Zone;", Cond.fieldLink RX6 72 "FirePanel$Zone" "needed" "I", Cond.methodLink RX6 48 yX6_mustExist, Cond.static yX6_mustExist, Cond.code yX6_mustExist cX6_mustExist 2 none, Cond.classLink RX6 192 "java/util/NoSuchElementException", Cond.initialized "java/util/NoSuchElementException", Cond.methodLink RX6 52 yX6_mustBeAllowed, Cond.static yX6_mustBeAllowed, Cond.code yX6_mustBeAllowed cX6_mustBeAllowed 1 none, Cond.classLink RX6 187 "java/lang/IllegalArgumentException", Cond.initialized "java/lang/IllegalArgumentException", Cond.methodLink RX6 58 yX6_mustHaveEntered, Cond.instanceMethod yX6_mustHaveEntered, Cond.selects RX6 yX6_mustHaveEntered yX6_mustHaveEntered, Cond.code yX6_mustHaveEntered cX6_mustHaveEntered 2 none]
def wsL_need_r2 : List Cond := [Cond.classLink RX6 93 "java/lang/IllegalStateException", Cond.initialized "java/lang/IllegalStateException", Cond.fieldLink RX6 126 "FirePanel" "entered" "I"]
def wsL_need : List Cond := .codeWith yL_need cL_need 4 (some .int) [(0, 6, 9, 13), (0, 6, 12, 15), (0, 6, 15, 17)] :: ((wsL_need_r1 ++ wsL_need_r2) ++ wsX60 ++ wsX50 ++ (vx_atS RX6 196 "java/util/NoSuchElementException" ["java/lang/RuntimeException", "java/lang/Exception"]).filter goodWord ++ (vx_atS RX6 191 "java/lang/IllegalArgumentException" ["java/lang/RuntimeException", "java/lang/Exception"]).filter goodWord ++ (vx_atS RX6 97 "java/lang/IllegalStateException" ["java/lang/RuntimeException", "java/lang/Exception"]).filter goodWord)
def wsL_wire : List Cond := .codeWith yL_wire cL_wire 4 (some .int) [(0, 6, 9, 13), (0, 6, 12, 15)] :: ([.classLink RL 13 "java/util/NoSuchElementException", .classLink RL 15 "java/lang/IllegalArgumentException", .methodLink RL 23 yX6_wire, .instanceMethod yX6_wire, .selects RX6 yX6_wire yX6_wire, .initialized RX6, .code yX6_wire cX6_wire 3 none, .fieldLink RX6 10 "FirePanel" "ring" "LFirePanel$Ring;", .fieldLink RX6 76 "FirePanel$Ring" "wires" "[I", .methodLink RX6 48 yX6_mustExist, .static yX6_mustExist, .code yX6_mustExist cX6_mustExist 2 none, .classLink RX6 192 "java/util/NoSuchElementException", .initialized "java/util/NoSuchElementException", .methodLink RX6 52 yX6_mustBeAllowed, .static yX6_mustBeAllowed, .code yX6_mustBeAllowed cX6_mustBeAllowed 1 none, .classLink RX6 187 "java/lang/IllegalArgumentException", .initialized "java/lang/IllegalArgumentException"] ++ wsX60 ++ wsX30 ++ (vx_atS RX6 196 "java/util/NoSuchElementException" ["java/lang/RuntimeException", "java/lang/Exception"]).filter goodWord ++ (vx_atS RX6 191 "java/lang/IllegalArgumentException" ["java/lang/RuntimeException", "java/lang/Exception"]).filter goodWord)
def wsL_reading : List Cond := .codeWith yL_reading cL_reading 4 (some .int) [(0, 6, 9, 13), (0, 6, 12, 15)] :: ([.classLink RL 13 "java/util/NoSuchElementException", .classLink RL 15 "java/lang/IllegalArgumentException", .methodLink RL 26 yX6_reading, .instanceMethod yX6_reading, .selects RX6 yX6_reading yX6_reading, .initialized RX6, .code yX6_reading cX6_reading 3 none, .constantFloat RX6 80 (3267887104), .constantFloat RX6 81 (1128792064), .fieldLink RX6 10 "FirePanel" "ring" "LFirePanel$Ring;", .fieldLink RX6 62 "FirePanel$Ring" "places" "[LFirePanel$Place;", .fieldLink RX6 82 "FirePanel$Place" "reading" "F", .methodLink RX6 48 yX6_mustExist, .static yX6_mustExist, .code yX6_mustExist cX6_mustExist 2 none, .classLink RX6 192 "java/util/NoSuchElementException", .initialized "java/util/NoSuchElementException", .methodLink RX6 52 yX6_mustBeAllowed, .static yX6_mustBeAllowed, .code yX6_mustBeAllowed cX6_mustBeAllowed 1 none, .classLink RX6 187 "java/lang/IllegalArgumentException", .initialized "java/lang/IllegalArgumentException"] ++ wsX60 ++ wsX30 ++ wsX20 ++ (vx_atS RX6 196 "java/util/NoSuchElementException" ["java/lang/RuntimeException", "java/lang/Exception"]).filter goodWord ++ (vx_atS RX6 191 "java/lang/IllegalArgumentException" ["java/lang/RuntimeException", "java/lang/Exception"]).filter goodWord)
def wsL_rule_r1 : List Cond := [Cond.classLink RL 17 "java/lang/IllegalStateException", Cond.methodLink RL 30 yX6_rule, Cond.instanceMethod yX6_rule, Cond.selects RX6 yX6_rule yX6_rule, Cond.initialized RX6, Cond.code yX6_rule cX6_rule 2 (some .int), Cond.classLink RX6 93 "java/lang/IllegalStateException", Cond.initialized "java/lang/IllegalStateException", Cond.fieldLink RX6 90 "FirePanel" "ruleCount" "I", Cond.fieldLink RX6 37 "FirePanel" "pad" "LFirePanel$Pad;", Cond.fieldLink RX6 25 "FirePanel" "rules" "[LFirePanel$Rule;", Cond.fieldLink RX6 104 "FirePanel$Pad" "length" "I", Cond.methodLink RX6 58 yX6_mustHaveEntered, Cond.instanceMethod yX6_mustHaveEntered, Cond.selects RX6 yX6_mustHaveEntered yX6_mustHaveEntered, Cond.code yX6_mustHaveEntered cX6_mustHaveEntered 2 none, Cond.fieldLink RX6 126 "FirePanel" "entered" "I", Cond.methodLink RX6 100 yX1_readInto, Cond.instanceMethod yX1_readInto, Cond.selects RX1 yX1_readInto yX1_readInto, Cond.initialized RX1, Cond.code yX1_readInto cX1_readInto 3 (some .int), Cond.fieldLink RX1 23 "FirePanel$Pad" "at" "I", Cond.fieldLink RX1 19 "FirePanel$Pad" "length" "I"]
def wsL_rule_r2 : List Cond := [Cond.methodLink RX1 26 yX4_clear, Cond.instanceMethod yX4_clear, Cond.selects RX4 yX4_clear yX4_clear, Cond.initialized RX4, Cond.code yX4_clear cX4_clear 1 none, Cond.fieldLink RX4 15 "FirePanel$Rule" "stepCount" "I", Cond.fieldLink RX4 19 "FirePanel$Rule" "output" "I", Cond.fieldLink RX4 22 "FirePanel$Rule" "delay" "I", Cond.fieldLink RX4 25 "FirePanel$Rule" "held" "I", Cond.methodLink RX1 31 yX1_readCondition, Cond.instanceMethod yX1_readCondition, Cond.selects RX1 yX1_readCondition yX1_readCondition, Cond.code yX1_readCondition cX1_readCondition 5 (some .boolean), Cond.methodLink RX1 39 yX1_readTerm, Cond.instanceMethod yX1_readTerm, Cond.selects RX1 yX1_readTerm yX1_readTerm, Cond.methodLink RX1 42 yX1_sees, Cond.instanceMethod yX1_sees, Cond.selects RX1 yX1_sees yX1_sees, Cond.code yX1_sees cX1_sees 2 (some .boolean), Cond.fieldLink RX1 9 "FirePanel$Pad" "text" "[C", Cond.methodLink RX1 45 yX4_addStep, Cond.instanceMethod yX4_addStep, Cond.selects RX4 yX4_addStep yX4_addStep]
def wsL_rule_r3 : List Cond := [Cond.code yX4_addStep cX4_addStep 2 none, Cond.fieldLink RX4 9 "FirePanel$Rule" "steps" "[I", Cond.code yX1_readTerm cX1_readTerm 3 (some .boolean), Cond.methodLink RX1 49 yX1_passes, Cond.instanceMethod yX1_passes, Cond.selects RX1 yX1_passes yX1_passes, Cond.code yX1_passes cX1_passes 2 (some .boolean), Cond.methodLink RX1 52 yX1_readZone, Cond.instanceMethod yX1_readZone, Cond.selects RX1 yX1_readZone yX1_readZone, Cond.code yX1_readZone cX1_readZone 4 (some .boolean), Cond.methodLink RX1 55 yX1_readDigit, Cond.instanceMethod yX1_readDigit, Cond.selects RX1 yX1_readDigit yX1_readDigit, Cond.code yX1_readDigit cX1_readDigit 3 (some .int), Cond.methodLink RX1 35 yX1_readTarget, Cond.instanceMethod yX1_readTarget, Cond.selects RX1 yX1_readTarget yX1_readTarget, Cond.code yX1_readTarget cX1_readTarget 2 (some .boolean), Cond.fieldLink RX1 59 "FirePanel$Rule" "output" "I", Cond.fieldLink RX1 62 "FirePanel$Rule" "delay" "I"]
def wsL_rule : List Cond := .codeWith yL_rule cL_rule 3 (some .int) [(0, 8, 11, 17)] :: ((wsL_rule_r1 ++ (wsL_rule_r2 ++ wsL_rule_r3)) ++ wsX60 ++ wsX10 ++ wsX40 ++ (vx_atS RX6 97 "java/lang/IllegalStateException" ["java/lang/RuntimeException", "java/lang/Exception"]).filter goodWord)
def wsL_forget : List Cond := .codeWith yL_forget cL_forget 3 (some .int) [(0, 8, 11, 17)] :: ([.classLink RL 17 "java/lang/IllegalStateException", .methodLink RL 34 yX6_forget, .instanceMethod yX6_forget, .selects RX6 yX6_forget yX6_forget, .initialized RX6, .code yX6_forget cX6_forget 2 (some .int), .fieldLink RX6 90 "FirePanel" "ruleCount" "I", .methodLink RX6 58 yX6_mustHaveEntered, .instanceMethod yX6_mustHaveEntered, .selects RX6 yX6_mustHaveEntered yX6_mustHaveEntered, .code yX6_mustHaveEntered cX6_mustHaveEntered 2 none, .classLink RX6 93 "java/lang/IllegalStateException", .initialized "java/lang/IllegalStateException", .fieldLink RX6 126 "FirePanel" "entered" "I", .methodLink RX6 107 yX6_allOutputsOff, .instanceMethod yX6_allOutputsOff, .selects RX6 yX6_allOutputsOff yX6_allOutputsOff, .code yX6_allOutputsOff cX6_allOutputsOff 2 none, .fieldLink RX6 30 "FirePanel" "outputsOn" "[Z"] ++ wsX60 ++ (vx_atS RX6 97 "java/lang/IllegalStateException" ["java/lang/RuntimeException", "java/lang/Exception"]).filter goodWord)
def wsL_silence_r1 : List Cond := [Cond.classLink RL 17 "java/lang/IllegalStateException", Cond.methodLink RL 37 yX6_silence, Cond.instanceMethod yX6_silence, Cond.selects RX6 yX6_silence yX6_silence, Cond.initialized RX6, Cond.code yX6_silence cX6_silence 1 (some .boolean), Cond.fieldLink RX6 129 "FirePanel" "silent" "Z", Cond.fieldLink RX6 44 "FirePanel" "entries" "LFirePanel$Log;", Cond.fieldLink RX6 110 "FirePanel" "polls" "I", Cond.methodLink RX6 58 yX6_mustHaveEntered, Cond.instanceMethod yX6_mustHaveEntered, Cond.selects RX6 yX6_mustHaveEntered yX6_mustHaveEntered, Cond.code yX6_mustHaveEntered cX6_mustHaveEntered 2 none, Cond.classLink RX6 93 "java/lang/IllegalStateException", Cond.initialized "java/lang/IllegalStateException", Cond.fieldLink RX6 126 "FirePanel" "entered" "I", Cond.methodLink RX6 133 yX0_add, Cond.instanceMethod yX0_add, Cond.selects RX0 yX0_add yX0_add, Cond.initialized RX0, Cond.code yX0_add cX0_add 4 none, Cond.fieldLink RX0 9 "FirePanel$Log" "words" "[I", Cond.methodLink RX0 15 arraycopyName, Cond.native arraycopyName]
def wsL_silence_r2 : List Cond := [Cond.static arraycopyName, Cond.initialized "java/lang/System", Cond.fieldLink RX0 21 "FirePanel$Log" "size" "I", Cond.methodLink RX0 25 Lib.Math.min.name, Cond.static Lib.Math.min.name, Cond.initialized "java/lang/Math", Cond.code Lib.Math.min.name Lib.Math.min.code 2 (some .int)]
def wsL_silence : List Cond := .codeWith yL_silence cL_silence 3 (some .int) [(0, 15, 18, 17)] :: ((wsL_silence_r1 ++ wsL_silence_r2) ++ wsX60 ++ wsX00 ++ (vx_atS RX6 97 "java/lang/IllegalStateException" ["java/lang/RuntimeException", "java/lang/Exception"]).filter goodWord)
def wsL_reset_r1 : List Cond := [Cond.classLink RL 17 "java/lang/IllegalStateException", Cond.methodLink RL 41 yX6_reset, Cond.instanceMethod yX6_reset, Cond.selects RX6 yX6_reset yX6_reset, Cond.initialized RX6, Cond.code yX6_reset cX6_reset 6 (some .int), Cond.fieldLink RX6 18 "FirePanel" "zones" "[LFirePanel$Zone;", Cond.fieldLink RX6 137 "FirePanel$Zone" "inFire" "Z", Cond.fieldLink RX6 10 "FirePanel" "ring" "LFirePanel$Ring;", Cond.fieldLink RX6 62 "FirePanel$Ring" "places" "[LFirePanel$Place;", Cond.fieldLink RX6 25 "FirePanel" "rules" "[LFirePanel$Rule;", Cond.fieldLink RX6 143 "FirePanel$Rule" "held" "I", Cond.fieldLink RX6 129 "FirePanel" "silent" "Z", Cond.fieldLink RX6 44 "FirePanel" "entries" "LFirePanel$Log;", Cond.fieldLink RX6 110 "FirePanel" "polls" "I", Cond.methodLink RX6 58 yX6_mustHaveEntered, Cond.instanceMethod yX6_mustHaveEntered, Cond.selects RX6 yX6_mustHaveEntered yX6_mustHaveEntered, Cond.code yX6_mustHaveEntered cX6_mustHaveEntered 2 none, Cond.classLink RX6 93 "java/lang/IllegalStateException", Cond.initialized "java/lang/IllegalStateException", Cond.fieldLink RX6 126 "FirePanel" "entered" "I", Cond.methodLink RX6 140 yX2_calmDown, Cond.instanceMethod yX2_calmDown]
def wsL_reset_r2 : List Cond := [Cond.selects RX2 yX2_calmDown yX2_calmDown, Cond.initialized RX2, Cond.code yX2_calmDown cX2_calmDown 1 none, Cond.fieldLink RX2 31 "FirePanel$Place" "inAlarm" "Z", Cond.fieldLink RX2 28 "FirePanel$Place" "over" "I", Cond.methodLink RX6 107 yX6_allOutputsOff, Cond.instanceMethod yX6_allOutputsOff, Cond.selects RX6 yX6_allOutputsOff yX6_allOutputsOff, Cond.code yX6_allOutputsOff cX6_allOutputsOff 2 none, Cond.fieldLink RX6 30 "FirePanel" "outputsOn" "[Z", Cond.methodLink RX6 133 yX0_add, Cond.instanceMethod yX0_add, Cond.selects RX0 yX0_add yX0_add, Cond.initialized RX0, Cond.code yX0_add cX0_add 4 none, Cond.fieldLink RX0 9 "FirePanel$Log" "words" "[I", Cond.methodLink RX0 15 arraycopyName, Cond.native arraycopyName, Cond.static arraycopyName, Cond.initialized "java/lang/System", Cond.fieldLink RX0 21 "FirePanel$Log" "size" "I", Cond.methodLink RX0 25 Lib.Math.min.name, Cond.static Lib.Math.min.name, Cond.initialized "java/lang/Math"]
def wsL_reset_r3 : List Cond := [Cond.code Lib.Math.min.name Lib.Math.min.code 2 (some .int)]
def wsL_reset : List Cond := .codeWith yL_reset cL_reset 3 (some .int) [(0, 8, 11, 17)] :: ((wsL_reset_r1 ++ (wsL_reset_r2 ++ wsL_reset_r3)) ++ wsX60 ++ wsX50 ++ wsX30 ++ wsX40 ++ wsX20 ++ wsX00 ++ (vx_atS RX6 97 "java/lang/IllegalStateException" ["java/lang/RuntimeException", "java/lang/Exception"]).filter goodWord)
def wsL_off_r1 : List Cond := [Cond.classLink RL 13 "java/util/NoSuchElementException", Cond.classLink RL 17 "java/lang/IllegalStateException", Cond.methodLink RL 44 yX6_off, Cond.instanceMethod yX6_off, Cond.selects RX6 yX6_off yX6_off, Cond.initialized RX6, Cond.code yX6_off cX6_off 5 (some .boolean), Cond.fieldLink RX6 18 "FirePanel" "zones" "[LFirePanel$Zone;", Cond.fieldLink RX6 146 "FirePanel$Zone" "isOff" "Z", Cond.fieldLink RX6 10 "FirePanel" "ring" "LFirePanel$Ring;", Cond.fieldLink RX6 62 "FirePanel$Ring" "places" "[LFirePanel$Place;", Cond.fieldLink RX6 149 "FirePanel$Place" "isOff" "Z", Cond.fieldLink RX6 44 "FirePanel" "entries" "LFirePanel$Log;", Cond.fieldLink RX6 110 "FirePanel" "polls" "I", Cond.methodLink RX6 48 yX6_mustExist, Cond.static yX6_mustExist, Cond.code yX6_mustExist cX6_mustExist 2 none, Cond.classLink RX6 192 "java/util/NoSuchElementException", Cond.initialized "java/util/NoSuchElementException", Cond.methodLink RX6 58 yX6_mustHaveEntered, Cond.instanceMethod yX6_mustHaveEntered, Cond.selects RX6 yX6_mustHaveEntered yX6_mustHaveEntered, Cond.code yX6_mustHaveEntered cX6_mustHaveEntered 2 none, Cond.classLink RX6 93 "java/lang/IllegalStateException"]
def wsL_off_r2 : List Cond := [Cond.initialized "java/lang/IllegalStateException", Cond.fieldLink RX6 126 "FirePanel" "entered" "I", Cond.methodLink RX6 133 yX0_add, Cond.instanceMethod yX0_add, Cond.selects RX0 yX0_add yX0_add, Cond.initialized RX0, Cond.code yX0_add cX0_add 4 none, Cond.fieldLink RX0 9 "FirePanel$Log" "words" "[I", Cond.methodLink RX0 15 arraycopyName, Cond.native arraycopyName, Cond.static arraycopyName, Cond.initialized "java/lang/System", Cond.fieldLink RX0 21 "FirePanel$Log" "size" "I", Cond.methodLink RX0 25 Lib.Math.min.name, Cond.static Lib.Math.min.name, Cond.initialized "java/lang/Math", Cond.code Lib.Math.min.name Lib.Math.min.code 2 (some .int)]
def wsL_off : List Cond := .codeWith yL_off cL_off 6 (some .int) [(0, 19, 22, 13), (0, 19, 26, 17)] :: ((wsL_off_r1 ++ wsL_off_r2) ++ wsX60 ++ wsX50 ++ wsX30 ++ wsX20 ++ wsX00 ++ (vx_atS RX6 196 "java/util/NoSuchElementException" ["java/lang/RuntimeException", "java/lang/Exception"]).filter goodWord ++ (vx_atS RX6 97 "java/lang/IllegalStateException" ["java/lang/RuntimeException", "java/lang/Exception"]).filter goodWord)
def wsL_level : List Cond := .codeWith yL_level cL_level 4 (some .int) [(0, 9, 12, 13)] :: ([.classLink RL 13 "java/util/NoSuchElementException", .methodLink RL 48 yX6_level, .instanceMethod yX6_level, .selects RX6 yX6_level yX6_level, .initialized RX6, .code yX6_level cX6_level 2 (some .float), .fieldLink RX6 10 "FirePanel" "ring" "LFirePanel$Ring;", .fieldLink RX6 62 "FirePanel$Ring" "places" "[LFirePanel$Place;", .fieldLink RX6 150 "FirePanel$Place" "level" "F", .methodLink RX6 48 yX6_mustExist, .static yX6_mustExist, .code yX6_mustExist cX6_mustExist 2 none, .classLink RX6 192 "java/util/NoSuchElementException", .initialized "java/util/NoSuchElementException"] ++ wsX60 ++ wsX30 ++ wsX20 ++ (vx_atS RX6 196 "java/util/NoSuchElementException" ["java/lang/RuntimeException", "java/lang/Exception"]).filter goodWord)
def wsL_base : List Cond := .codeWith yL_base cL_base 4 (some .int) [(0, 9, 12, 13)] :: ([.classLink RL 13 "java/util/NoSuchElementException", .methodLink RL 52 yX6_base, .instanceMethod yX6_base, .selects RX6 yX6_base yX6_base, .initialized RX6, .code yX6_base cX6_base 2 (some .float), .fieldLink RX6 10 "FirePanel" "ring" "LFirePanel$Ring;", .fieldLink RX6 62 "FirePanel$Ring" "places" "[LFirePanel$Place;", .fieldLink RX6 153 "FirePanel$Place" "base" "F", .methodLink RX6 48 yX6_mustExist, .static yX6_mustExist, .code yX6_mustExist cX6_mustExist 2 none, .classLink RX6 192 "java/util/NoSuchElementException", .initialized "java/util/NoSuchElementException"] ++ wsX60 ++ wsX30 ++ wsX20 ++ (vx_atS RX6 196 "java/util/NoSuchElementException" ["java/lang/RuntimeException", "java/lang/Exception"]).filter goodWord)
def wsL_place_r1 : List Cond := [Cond.classLink RL 13 "java/util/NoSuchElementException", Cond.methodLink RL 55 yX6_place, Cond.instanceMethod yX6_place, Cond.selects RX6 yX6_place yX6_place, Cond.initialized RX6, Cond.code yX6_place cX6_place 4 (some .int), Cond.fieldLink RX6 10 "FirePanel" "ring" "LFirePanel$Ring;", Cond.fieldLink RX6 62 "FirePanel$Ring" "places" "[LFirePanel$Place;", Cond.fieldLink RX6 159 "FirePanel$Place" "inAlarm" "Z", Cond.fieldLink RX6 162 "FirePanel$Place" "atFault" "Z", Cond.fieldLink RX6 149 "FirePanel$Place" "isOff" "Z", Cond.fieldLink RX6 165 "FirePanel$Place" "kind" "I", Cond.methodLink RX6 48 yX6_mustExist, Cond.static yX6_mustExist, Cond.code yX6_mustExist cX6_mustExist 2 none, Cond.classLink RX6 192 "java/util/NoSuchElementException", Cond.initialized "java/util/NoSuchElementException", Cond.methodLink RX6 156 yX3_reachedPlaces, Cond.instanceMethod yX3_reachedPlaces, Cond.selects RX3 yX3_reachedPlaces yX3_reachedPlaces, Cond.initialized RX3, Cond.code yX3_reachedPlaces cX3_reachedPlaces 4 (some .int), Cond.methodLink RX3 22 yX3_passableWires, Cond.instanceMethod yX3_passableWires]
def wsL_place_r2 : List Cond := [Cond.selects RX3 yX3_passableWires yX3_passableWires, Cond.code yX3_passableWires cX3_passableWires 5 (some .int), Cond.fieldLink RX3 18 "FirePanel$Ring" "wires" "[I", Cond.methodLink RX3 26 yX3_endsStretch, Cond.instanceMethod yX3_endsStretch, Cond.selects RX3 yX3_endsStretch yX3_endsStretch, Cond.code yX3_endsStretch cX3_endsStretch 2 (some .boolean), Cond.fieldLink RX3 11 "FirePanel$Ring" "places" "[LFirePanel$Place;", Cond.fieldLink RX3 30 "FirePanel$Place" "kind" "I"]
def wsL_place : List Cond := .codeWith yL_place cL_place 4 (some .int) [(0, 9, 12, 13)] :: ((wsL_place_r1 ++ wsL_place_r2) ++ wsX60 ++ wsX30 ++ wsX20 ++ (vx_atS RX6 196 "java/util/NoSuchElementException" ["java/lang/RuntimeException", "java/lang/Exception"]).filter goodWord)
def wsL_zone_r1 : List Cond := [Cond.classLink RL 13 "java/util/NoSuchElementException", Cond.methodLink RL 59 yX6_zone, Cond.instanceMethod yX6_zone, Cond.selects RX6 yX6_zone yX6_zone, Cond.initialized RX6, Cond.code yX6_zone cX6_zone 3 (some .int), Cond.fieldLink RX6 18 "FirePanel" "zones" "[LFirePanel$Zone;", Cond.fieldLink RX6 137 "FirePanel$Zone" "inFire" "Z", Cond.fieldLink RX6 146 "FirePanel$Zone" "isOff" "Z", Cond.methodLink RX6 48 yX6_mustExist, Cond.static yX6_mustExist, Cond.code yX6_mustExist cX6_mustExist 2 none, Cond.classLink RX6 192 "java/util/NoSuchElementException", Cond.initialized "java/util/NoSuchElementException", Cond.methodLink RX6 168 yX6_hasWarning, Cond.instanceMethod yX6_hasWarning, Cond.selects RX6 yX6_hasWarning yX6_hasWarning, Cond.code yX6_hasWarning cX6_hasWarning 6 (some .boolean), Cond.fieldLink RX6 10 "FirePanel" "ring" "LFirePanel$Ring;", Cond.fieldLink RX6 62 "FirePanel$Ring" "places" "[LFirePanel$Place;", Cond.methodLink RX6 222 yX2_watches, Cond.instanceMethod yX2_watches, Cond.selects RX2 yX2_watches yX2_watches, Cond.initialized RX2]
def wsL_zone_r2 : List Cond := [Cond.code yX2_watches cX2_watches 2 (some .boolean), Cond.fieldLink RX2 15 "FirePanel$Place" "zone" "I", Cond.fieldLink RX2 45 "FirePanel$Place" "isOff" "Z", Cond.methodLink RX2 41 yX2_isSensor, Cond.instanceMethod yX2_isSensor, Cond.selects RX2 yX2_isSensor yX2_isSensor, Cond.code yX2_isSensor cX2_isSensor 1 (some .boolean), Cond.fieldLink RX2 9 "FirePanel$Place" "kind" "I", Cond.methodLink RX6 225 yX2_warns, Cond.instanceMethod yX2_warns, Cond.selects RX2 yX2_warns yX2_warns, Cond.code yX2_warns cX2_warns 1 (some .boolean), Cond.fieldLink RX2 31 "FirePanel$Place" "inAlarm" "Z", Cond.fieldLink RX2 25 "FirePanel$Place" "level" "F", Cond.fieldLink RX2 18 "FirePanel$Place" "threshold" "F", Cond.constantFloat RX2 48 (1061158912)]
def wsL_zone : List Cond := .codeWith yL_zone cL_zone 4 (some .int) [(0, 9, 12, 13)] :: ((wsL_zone_r1 ++ wsL_zone_r2) ++ wsX60 ++ wsX50 ++ wsX30 ++ wsX20 ++ (vx_atS RX6 196 "java/util/NoSuchElementException" ["java/lang/RuntimeException", "java/lang/Exception"]).filter goodWord)
def wsL_output : List Cond := .codeWith yL_output cL_output 4 (some .int) [(0, 9, 12, 13)] :: ([.classLink RL 13 "java/util/NoSuchElementException", .methodLink RL 62 yX6_output, .instanceMethod yX6_output, .selects RX6 yX6_output yX6_output, .initialized RX6, .code yX6_output cX6_output 3 (some .int), .fieldLink RX6 30 "FirePanel" "outputsOn" "[Z", .fieldLink RX6 129 "FirePanel" "silent" "Z", .methodLink RX6 48 yX6_mustExist, .static yX6_mustExist, .code yX6_mustExist cX6_mustExist 2 none, .classLink RX6 192 "java/util/NoSuchElementException", .initialized "java/util/NoSuchElementException"] ++ wsX60 ++ (vx_atS RX6 196 "java/util/NoSuchElementException" ["java/lang/RuntimeException", "java/lang/Exception"]).filter goodWord)
def wsL_held : List Cond := .codeWith yL_held cL_held 4 (some .int) [(0, 9, 12, 13)] :: ([.classLink RL 13 "java/util/NoSuchElementException", .methodLink RL 65 yX6_held, .instanceMethod yX6_held, .selects RX6 yX6_held yX6_held, .initialized RX6, .code yX6_held cX6_held 2 (some .int), .fieldLink RX6 90 "FirePanel" "ruleCount" "I", .methodLink RX6 172 Lib.Math.min.name, .static Lib.Math.min.name, .initialized "java/lang/Math", .code Lib.Math.min.name Lib.Math.min.code 2 (some .int), .fieldLink RX6 25 "FirePanel" "rules" "[LFirePanel$Rule;", .fieldLink RX6 143 "FirePanel$Rule" "held" "I", .methodLink RX6 48 yX6_mustExist, .static yX6_mustExist, .code yX6_mustExist cX6_mustExist 2 none, .classLink RX6 192 "java/util/NoSuchElementException", .initialized "java/util/NoSuchElementException"] ++ wsX60 ++ wsX40 ++ (vx_atS RX6 196 "java/util/NoSuchElementException" ["java/lang/RuntimeException", "java/lang/Exception"]).filter goodWord)
def wsL_log : List Cond := .codeWith yL_log cL_log 5 (some .int) [(0, 10, 13, 15)] :: ([.classLink RL 15 "java/lang/IllegalArgumentException", .methodLink RL 68 yX6_log, .instanceMethod yX6_log, .selects RX6 yX6_log yX6_log, .initialized RX6, .code yX6_log cX6_log 3 (some .int), .fieldLink RX6 44 "FirePanel" "entries" "LFirePanel$Log;", .fieldLink RX6 178 "FirePanel$Log" "size" "I", .methodLink RX6 172 Lib.Math.min.name, .static Lib.Math.min.name, .initialized "java/lang/Math", .code Lib.Math.min.name Lib.Math.min.code 2 (some .int), .fieldLink RX6 181 "FirePanel$Log" "words" "[I", .methodLink RX6 52 yX6_mustBeAllowed, .static yX6_mustBeAllowed, .code yX6_mustBeAllowed cX6_mustBeAllowed 1 none, .classLink RX6 187 "java/lang/IllegalArgumentException", .initialized "java/lang/IllegalArgumentException"] ++ wsX60 ++ wsX00 ++ (vx_atS RX6 191 "java/lang/IllegalArgumentException" ["java/lang/RuntimeException", "java/lang/Exception"]).filter goodWord)
def wsL_count : List Cond := .codeWith yL_count cL_count 4 (some .int) [(0, 9, 12, 15)] :: ([.classLink RL 15 "java/lang/IllegalArgumentException", .methodLink RL 72 yX6_count, .instanceMethod yX6_count, .selects RX6 yX6_count yX6_count, .initialized RX6, .code yX6_count cX6_count 2 (some .int), .classLink RX6 187 "java/lang/IllegalArgumentException", .initialized "java/lang/IllegalArgumentException", .fieldLink RX6 110 "FirePanel" "polls" "I", .fieldLink RX6 90 "FirePanel" "ruleCount" "I", .fieldLink RX6 126 "FirePanel" "entered" "I", .fieldLink RX6 129 "FirePanel" "silent" "Z", .fieldLink RX6 37 "FirePanel" "pad" "LFirePanel$Pad;", .fieldLink RX6 104 "FirePanel$Pad" "length" "I", .methodLink RX6 184 yX6_faults, .instanceMethod yX6_faults, .selects RX6 yX6_faults yX6_faults, .code yX6_faults cX6_faults 6 (some .int), .fieldLink RX6 10 "FirePanel" "ring" "LFirePanel$Ring;", .fieldLink RX6 62 "FirePanel$Ring" "places" "[LFirePanel$Place;", .fieldLink RX6 162 "FirePanel$Place" "atFault" "Z"] ++ wsX60 ++ wsX10 ++ wsX30 ++ wsX20 ++ (vx_atS RX6 191 "java/lang/IllegalArgumentException" ["java/lang/RuntimeException", "java/lang/Exception"]).filter goodWord)
end
section
theorem dX0_init_0 : decode cX0_init 0 = .ok (.aload_n 0, 1) := by decide +kernel
theorem dX0_init_1 : decode cX0_init 1 = .ok (.invokespecial 3, 3) := by decide +kernel
theorem dX0_init_4 : decode cX0_init 4 = .ok (.aload_n 0, 1) := by decide +kernel
theorem dX0_init_5 : decode cX0_init 5 = .ok (.bipush 48, 2) := by decide +kernel
theorem dX0_init_7 : decode cX0_init 7 = .ok (.newarray .int, 2) := by decide +kernel
theorem dX0_init_9 : decode cX0_init 9 = .ok (.putfield 9, 3) := by decide +kernel
theorem dX0_init_12 : decode cX0_init 12 = .ok (.return_, 1) := by decide +kernel
theorem dX0_add_0 : decode cX0_add 0 = .ok (.aload_n 0, 1) := by decide +kernel
theorem dX0_add_1 : decode cX0_add 1 = .ok (.getfield 9, 3) := by decide +kernel
theorem dX0_add_4 : decode cX0_add 4 = .ok (.iconst 0, 1) := by decide +kernel
theorem dX0_add_5 : decode cX0_add 5 = .ok (.aload_n 0, 1) := by decide +kernel
theorem dX0_add_6 : decode cX0_add 6 = .ok (.getfield 9, 3) := by decide +kernel
theorem dX0_add_9 : decode cX0_add 9 = .ok (.iconst 3, 1) := by decide +kernel
theorem dX0_add_10 : decode cX0_add 10 = .ok (.bipush 45, 2) := by decide +kernel
theorem dX0_add_12 : decode cX0_add 12 = .ok (.invokestatic 15, 3) := by decide +kernel
theorem dX0_add_15 : decode cX0_add 15 = .ok (.aload_n 0, 1) := by decide +kernel
theorem dX0_add_16 : decode cX0_add 16 = .ok (.getfield 9, 3) := by decide +kernel
theorem dX0_add_19 : decode cX0_add 19 = .ok (.iconst 0, 1) := by decide +kernel
theorem dX0_add_20 : decode cX0_add 20 = .ok (.iload_n 1, 1) := by decide +kernel
theorem dX0_add_21 : decode cX0_add 21 = .ok (.iastore, 1) := by decide +kernel
theorem dX0_add_22 : decode cX0_add 22 = .ok (.aload_n 0, 1) := by decide +kernel
theorem dX0_add_23 : decode cX0_add 23 = .ok (.getfield 9, 3) := by decide +kernel
theorem dX0_add_26 : decode cX0_add 26 = .ok (.iconst 1, 1) := by decide +kernel
theorem dX0_add_27 : decode cX0_add 27 = .ok (.iload_n 2, 1) := by decide +kernel
theorem dX0_add_28 : decode cX0_add 28 = .ok (.iastore, 1) := by decide +kernel
theorem dX0_add_29 : decode cX0_add 29 = .ok (.aload_n 0, 1) := by decide +kernel
theorem dX0_add_30 : decode cX0_add 30 = .ok (.getfield 9, 3) := by decide +kernel
theorem dX0_add_33 : decode cX0_add 33 = .ok (.iconst 2, 1) := by decide +kernel
theorem dX0_add_34 : decode cX0_add 34 = .ok (.iload_n 3, 1) := by decide +kernel
theorem dX0_add_35 : decode cX0_add 35 = .ok (.iastore, 1) := by decide +kernel
theorem dX0_add_36 : decode cX0_add 36 = .ok (.aload_n 0, 1) := by decide +kernel
theorem dX0_add_37 : decode cX0_add 37 = .ok (.aload_n 0, 1) := by decide +kernel
theorem dX0_add_38 : decode cX0_add 38 = .ok (.getfield 21, 3) := by decide +kernel
theorem dX0_add_41 : decode cX0_add 41 = .ok (.iconst 1, 1) := by decide +kernel
theorem dX0_add_42 : decode cX0_add 42 = .ok (.iadd, 1) := by decide +kernel
theorem dX0_add_43 : decode cX0_add 43 = .ok (.bipush 16, 2) := by decide +kernel
theorem dX0_add_45 : decode cX0_add 45 = .ok (.invokestatic 25, 3) := by decide +kernel
theorem dX0_add_48 : decode cX0_add 48 = .ok (.putfield 21, 3) := by decide +kernel
theorem dX0_add_51 : decode cX0_add 51 = .ok (.return_, 1) := by decide +kernel
theorem dX1_init_0 : decode cX1_init 0 = .ok (.aload_n 0, 1) := by decide +kernel
theorem dX1_init_1 : decode cX1_init 1 = .ok (.invokespecial 3, 3) := by decide +kernel
theorem dX1_init_4 : decode cX1_init 4 = .ok (.aload_n 0, 1) := by decide +kernel
theorem dX1_init_5 : decode cX1_init 5 = .ok (.bipush 20, 2) := by decide +kernel
theorem dX1_init_7 : decode cX1_init 7 = .ok (.newarray .char, 2) := by decide +kernel
theorem dX1_init_9 : decode cX1_init 9 = .ok (.putfield 9, 3) := by decide +kernel
theorem dX1_init_12 : decode cX1_init 12 = .ok (.return_, 1) := by decide +kernel
set_option maxRecDepth 20000 in
theorem ggX1_append_X1_standsInRules : GoodIn wsX1_append wsX1_standsInRules := goodIn_r _ [6] (by decide +kernel) (by decide +kernel)
set_option maxRecDepth 20000 in
theorem gX1_append_X1_standsInRules : GoodIn wsX1_append (va_wsS RX1 15 yX1_standsInRules wsX1_standsInRules) := goodIn_app (goodIn_of _ (by decide +kernel)) ggX1_append_X1_standsInRules
theorem dX1_append_0 : decode cX1_append 0 = .ok (.iload_n 1, 1) := by decide +kernel
theorem dX1_append_1 : decode cX1_append 1 = .ok (.invokestatic 15, 3) := by decide +kernel
theorem dX1_append_4 : decode cX1_append 4 = .ok (.ifCond .eq 19, 3) := by decide +kernel
theorem dX1_append_7 : decode cX1_append 7 = .ok (.aload_n 0, 1) := by decide +kernel
theorem dX1_append_8 : decode cX1_append 8 = .ok (.getfield 19, 3) := by decide +kernel
theorem dX1_append_11 : decode cX1_append 11 = .ok (.ifCond .lt 12, 3) := by decide +kernel
theorem dX1_append_14 : decode cX1_append 14 = .ok (.aload_n 0, 1) := by decide +kernel
theorem dX1_append_15 : decode cX1_append 15 = .ok (.getfield 19, 3) := by decide +kernel
theorem dX1_append_18 : decode cX1_append 18 = .ok (.bipush 20, 2) := by decide +kernel
theorem dX1_append_20 : decode cX1_append 20 = .ok (.if_icmp .lt 5, 3) := by decide +kernel
theorem dX1_append_23 : decode cX1_append 23 = .ok (.iconst 0, 1) := by decide +kernel
theorem dX1_append_24 : decode cX1_append 24 = .ok (.ireturn, 1) := by decide +kernel
theorem dX1_append_25 : decode cX1_append 25 = .ok (.aload_n 0, 1) := by decide +kernel
theorem dX1_append_26 : decode cX1_append 26 = .ok (.getfield 9, 3) := by decide +kernel
theorem dX1_append_29 : decode cX1_append 29 = .ok (.aload_n 0, 1) := by decide +kernel
theorem dX1_append_30 : decode cX1_append 30 = .ok (.getfield 19, 3) := by decide +kernel
theorem dX1_append_33 : decode cX1_append 33 = .ok (.iload_n 1, 1) := by decide +kernel
theorem dX1_append_34 : decode cX1_append 34 = .ok (.castore, 1) := by decide +kernel
theorem dX1_append_35 : decode cX1_append 35 = .ok (.aload_n 0, 1) := by decide +kernel
theorem dX1_append_36 : decode cX1_append 36 = .ok (.dup, 1) := by decide +kernel
theorem dX1_append_37 : decode cX1_append 37 = .ok (.getfield 19, 3) := by decide +kernel
theorem dX1_append_40 : decode cX1_append 40 = .ok (.iconst 1, 1) := by decide +kernel
theorem dX1_append_41 : decode cX1_append 41 = .ok (.iadd, 1) := by decide +kernel
theorem dX1_append_42 : decode cX1_append 42 = .ok (.putfield 19, 3) := by decide +kernel
theorem dX1_append_45 : decode cX1_append 45 = .ok (.iconst 1, 1) := by decide +kernel
theorem dX1_append_46 : decode cX1_append 46 = .ok (.ireturn, 1) := by decide +kernel
set_option maxRecDepth 20000 in
theorem ggX1_readInto_X4_clear : GoodIn wsX1_readInto wsX4_clear := goodIn_r _ [7, 8, 9, 10, 11, 52, 53, 54, 55, 56] (by decide +kernel) (by decide +kernel)
set_option maxRecDepth 20000 in
theorem gX1_readInto_X4_clear : GoodIn wsX1_readInto (wsV RX1 26 RX4 yX4_clear wsX4_clear) := goodIn_app (goodIn_of _ (by decide +kernel)) ggX1_readInto_X4_clear
set_option maxRecDepth 20000 in
theorem ggX1_readInto_X1_readCondition : GoodIn wsX1_readInto wsX1_readCondition := goodIn_r _ [16, 1, 17, 18, 19, 15, 20, 21, 22, 23, 2, 24, 25, 26, 27, 6, 28, 8, 29, 30, 31, 32, 33, 34, 35, 36, 37, 38, 39, 40, 41, 42, 12, 13, 14, 49, 50, 51, 52, 53, 54, 55, 56] (by decide +kernel) (by decide +kernel)
set_option maxRecDepth 20000 in
theorem gX1_readInto_X1_readCondition : GoodIn wsX1_readInto (wsV RX1 31 RX1 yX1_readCondition wsX1_readCondition) := goodIn_app (goodIn_of _ (by decide +kernel)) ggX1_readInto_X1_readCondition
set_option maxRecDepth 20000 in
theorem ggX1_readInto_X1_readTarget : GoodIn wsX1_readInto wsX1_readTarget := goodIn_r _ [46, 47, 48, 31, 32, 33, 15, 34, 1, 20, 21, 22, 23, 2, 24, 39, 40, 41, 42, 52, 53, 54, 55, 56, 49, 50, 51] (by decide +kernel) (by decide +kernel)
set_option maxRecDepth 20000 in
theorem gX1_readInto_X1_readTarget : GoodIn wsX1_readInto (wsV RX1 35 RX1 yX1_readTarget wsX1_readTarget) := goodIn_app (goodIn_of _ (by decide +kernel)) ggX1_readInto_X1_readTarget
theorem dX1_readInto_0 : decode cX1_readInto 0 = .ok (.aload_n 0, 1) := by decide +kernel
theorem dX1_readInto_1 : decode cX1_readInto 1 = .ok (.iconst 0, 1) := by decide +kernel
theorem dX1_readInto_2 : decode cX1_readInto 2 = .ok (.putfield 23, 3) := by decide +kernel
theorem dX1_readInto_5 : decode cX1_readInto 5 = .ok (.aload_n 1, 1) := by decide +kernel
theorem dX1_readInto_6 : decode cX1_readInto 6 = .ok (.invokevirtual 26, 3) := by decide +kernel
theorem dX1_readInto_9 : decode cX1_readInto 9 = .ok (.aload_n 0, 1) := by decide +kernel
theorem dX1_readInto_10 : decode cX1_readInto 10 = .ok (.aload_n 1, 1) := by decide +kernel
theorem dX1_readInto_11 : decode cX1_readInto 11 = .ok (.iconst 0, 1) := by decide +kernel
theorem dX1_readInto_12 : decode cX1_readInto 12 = .ok (.invokevirtual 31, 3) := by decide +kernel
theorem dX1_readInto_15 : decode cX1_readInto 15 = .ok (.ifCond .eq 26, 3) := by decide +kernel
theorem dX1_readInto_18 : decode cX1_readInto 18 = .ok (.aload_n 0, 1) := by decide +kernel
theorem dX1_readInto_19 : decode cX1_readInto 19 = .ok (.aload_n 1, 1) := by decide +kernel
theorem dX1_readInto_20 : decode cX1_readInto 20 = .ok (.invokevirtual 35, 3) := by decide +kernel
theorem dX1_readInto_23 : decode cX1_readInto 23 = .ok (.ifCond .eq 18, 3) := by decide +kernel
theorem dX1_readInto_26 : decode cX1_readInto 26 = .ok (.aload_n 0, 1) := by decide +kernel
theorem dX1_readInto_27 : decode cX1_readInto 27 = .ok (.getfield 23, 3) := by decide +kernel
theorem dX1_readInto_30 : decode cX1_readInto 30 = .ok (.aload_n 0, 1) := by decide +kernel
theorem dX1_readInto_31 : decode cX1_readInto 31 = .ok (.getfield 19, 3) := by decide +kernel
theorem dX1_readInto_34 : decode cX1_readInto 34 = .ok (.if_icmp .ne 7, 3) := by decide +kernel
theorem dX1_readInto_37 : decode cX1_readInto 37 = .ok (.iconst 1, 1) := by decide +kernel
theorem dX1_readInto_38 : decode cX1_readInto 38 = .ok (.goto 4, 3) := by decide +kernel
theorem dX1_readInto_41 : decode cX1_readInto 41 = .ok (.iconst 0, 1) := by decide +kernel
theorem dX1_readInto_42 : decode cX1_readInto 42 = .ok (.istore_n 2, 1) := by decide +kernel
theorem dX1_readInto_43 : decode cX1_readInto 43 = .ok (.iload_n 2, 1) := by decide +kernel
theorem dX1_readInto_44 : decode cX1_readInto 44 = .ok (.ifCond .eq 7, 3) := by decide +kernel
theorem dX1_readInto_47 : decode cX1_readInto 47 = .ok (.iconst (-1), 1) := by decide +kernel
theorem dX1_readInto_48 : decode cX1_readInto 48 = .ok (.goto 7, 3) := by decide +kernel
theorem dX1_readInto_51 : decode cX1_readInto 51 = .ok (.aload_n 0, 1) := by decide +kernel
theorem dX1_readInto_52 : decode cX1_readInto 52 = .ok (.getfield 23, 3) := by decide +kernel
theorem dX1_readInto_55 : decode cX1_readInto 55 = .ok (.ireturn, 1) := by decide +kernel
theorem dX1_standsInRules_0 : decode cX1_standsInRules 0 = .ok (.iload_n 0, 1) := by decide +kernel
theorem dX1_standsInRules_1 : decode cX1_standsInRules 1 = .ok (.bipush 48, 2) := by decide +kernel
theorem dX1_standsInRules_3 : decode cX1_standsInRules 3 = .ok (.if_icmp .lt 9, 3) := by decide +kernel
theorem dX1_standsInRules_6 : decode cX1_standsInRules 6 = .ok (.iload_n 0, 1) := by decide +kernel
theorem dX1_standsInRules_7 : decode cX1_standsInRules 7 = .ok (.bipush 57, 2) := by decide +kernel
theorem dX1_standsInRules_9 : decode cX1_standsInRules 9 = .ok (.if_icmp .le 63, 3) := by decide +kernel
theorem dX1_standsInRules_12 : decode cX1_standsInRules 12 = .ok (.iload_n 0, 1) := by decide +kernel
theorem dX1_standsInRules_13 : decode cX1_standsInRules 13 = .ok (.bipush 122, 2) := by decide +kernel
theorem dX1_standsInRules_15 : decode cX1_standsInRules 15 = .ok (.if_icmp .eq 57, 3) := by decide +kernel
theorem dX1_standsInRules_18 : decode cX1_standsInRules 18 = .ok (.iload_n 0, 1) := by decide +kernel
theorem dX1_standsInRules_19 : decode cX1_standsInRules 19 = .ok (.bipush 119, 2) := by decide +kernel
theorem dX1_standsInRules_21 : decode cX1_standsInRules 21 = .ok (.if_icmp .eq 51, 3) := by decide +kernel
theorem dX1_standsInRules_24 : decode cX1_standsInRules 24 = .ok (.iload_n 0, 1) := by decide +kernel
theorem dX1_standsInRules_25 : decode cX1_standsInRules 25 = .ok (.bipush 102, 2) := by decide +kernel
theorem dX1_standsInRules_27 : decode cX1_standsInRules 27 = .ok (.if_icmp .eq 45, 3) := by decide +kernel
theorem dX1_standsInRules_30 : decode cX1_standsInRules 30 = .ok (.iload_n 0, 1) := by decide +kernel
theorem dX1_standsInRules_31 : decode cX1_standsInRules 31 = .ok (.bipush 33, 2) := by decide +kernel
theorem dX1_standsInRules_33 : decode cX1_standsInRules 33 = .ok (.if_icmp .eq 39, 3) := by decide +kernel
theorem dX1_standsInRules_36 : decode cX1_standsInRules 36 = .ok (.iload_n 0, 1) := by decide +kernel
theorem dX1_standsInRules_37 : decode cX1_standsInRules 37 = .ok (.bipush 40, 2) := by decide +kernel
theorem dX1_standsInRules_39 : decode cX1_standsInRules 39 = .ok (.if_icmp .eq 33, 3) := by decide +kernel
theorem dX1_standsInRules_42 : decode cX1_standsInRules 42 = .ok (.iload_n 0, 1) := by decide +kernel
theorem dX1_standsInRules_43 : decode cX1_standsInRules 43 = .ok (.bipush 41, 2) := by decide +kernel
theorem dX1_standsInRules_45 : decode cX1_standsInRules 45 = .ok (.if_icmp .eq 27, 3) := by decide +kernel
theorem dX1_standsInRules_48 : decode cX1_standsInRules 48 = .ok (.iload_n 0, 1) := by decide +kernel
theorem dX1_standsInRules_49 : decode cX1_standsInRules 49 = .ok (.bipush 38, 2) := by decide +kernel
theorem dX1_standsInRules_51 : decode cX1_standsInRules 51 = .ok (.if_icmp .eq 21, 3) := by decide +kernel
theorem dX1_standsInRules_54 : decode cX1_standsInRules 54 = .ok (.iload_n 0, 1) := by decide +kernel
theorem dX1_standsInRules_55 : decode cX1_standsInRules 55 = .ok (.bipush 124, 2) := by decide +kernel
theorem dX1_standsInRules_57 : decode cX1_standsInRules 57 = .ok (.if_icmp .eq 15, 3) := by decide +kernel
theorem dX1_standsInRules_60 : decode cX1_standsInRules 60 = .ok (.iload_n 0, 1) := by decide +kernel
theorem dX1_standsInRules_61 : decode cX1_standsInRules 61 = .ok (.bipush 62, 2) := by decide +kernel
theorem dX1_standsInRules_63 : decode cX1_standsInRules 63 = .ok (.if_icmp .eq 9, 3) := by decide +kernel
theorem dX1_standsInRules_66 : decode cX1_standsInRules 66 = .ok (.iload_n 0, 1) := by decide +kernel
theorem dX1_standsInRules_67 : decode cX1_standsInRules 67 = .ok (.bipush 58, 2) := by decide +kernel
theorem dX1_standsInRules_69 : decode cX1_standsInRules 69 = .ok (.if_icmp .ne 7, 3) := by decide +kernel
theorem dX1_standsInRules_72 : decode cX1_standsInRules 72 = .ok (.iconst 1, 1) := by decide +kernel
theorem dX1_standsInRules_73 : decode cX1_standsInRules 73 = .ok (.goto 4, 3) := by decide +kernel
theorem dX1_standsInRules_76 : decode cX1_standsInRules 76 = .ok (.iconst 0, 1) := by decide +kernel
theorem dX1_standsInRules_77 : decode cX1_standsInRules 77 = .ok (.ireturn, 1) := by decide +kernel
set_option maxRecDepth 20000 in
theorem ggX1_readCondition_X1_readTerm : GoodIn wsX1_readCondition wsX1_readTerm := goodIn_r _ [19, 20, 21, 22, 5, 23, 1, 6, 7, 8, 9, 10, 11, 24, 25, 26, 27, 28, 29, 30, 31, 12, 13, 14, 15, 16, 17, 18, 32, 33, 34, 2, 3, 4, 0, 35, 36, 37, 38, 39, 40, 41, 42] (by decide +kernel) (by decide +kernel)
set_option maxRecDepth 20000 in
theorem gX1_readCondition_X1_readTerm : GoodIn wsX1_readCondition (wsV RX1 39 RX1 yX1_readTerm wsX1_readTerm) := goodIn_app (goodIn_of _ (by decide +kernel)) ggX1_readCondition_X1_readTerm
set_option maxRecDepth 20000 in
theorem ggX1_readCondition_X1_sees : GoodIn wsX1_readCondition wsX1_sees := goodIn_r _ [9, 1, 10, 11, 35, 36, 37] (by decide +kernel) (by decide +kernel)
set_option maxRecDepth 20000 in
theorem gX1_readCondition_X1_sees : GoodIn wsX1_readCondition (wsV RX1 42 RX1 yX1_sees wsX1_sees) := goodIn_app (goodIn_of _ (by decide +kernel)) ggX1_readCondition_X1_sees
set_option maxRecDepth 20000 in
theorem ggX1_readCondition_X4_addStep : GoodIn wsX1_readCondition wsX4_addStep := goodIn_r _ [16, 17, 18, 38, 39, 40, 41, 42] (by decide +kernel) (by decide +kernel)
set_option maxRecDepth 20000 in
theorem gX1_readCondition_X4_addStep : GoodIn wsX1_readCondition (wsV RX1 45 RX4 yX4_addStep wsX4_addStep) := goodIn_app (goodIn_of _ (by decide +kernel)) ggX1_readCondition_X4_addStep
theorem dX1_readCondition_0 : decode cX1_readCondition 0 = .ok (.aload_n 0, 1) := by decide +kernel
theorem dX1_readCondition_1 : decode cX1_readCondition 1 = .ok (.aload_n 1, 1) := by decide +kernel
theorem dX1_readCondition_2 : decode cX1_readCondition 2 = .ok (.iload_n 2, 1) := by decide +kernel
theorem dX1_readCondition_3 : decode cX1_readCondition 3 = .ok (.invokevirtual 39, 3) := by decide +kernel
theorem dX1_readCondition_6 : decode cX1_readCondition 6 = .ok (.ifCond .ne 5, 3) := by decide +kernel
theorem dX1_readCondition_9 : decode cX1_readCondition 9 = .ok (.iconst 0, 1) := by decide +kernel
theorem dX1_readCondition_10 : decode cX1_readCondition 10 = .ok (.ireturn, 1) := by decide +kernel
theorem dX1_readCondition_11 : decode cX1_readCondition 11 = .ok (.iconst 0, 1) := by decide +kernel
theorem dX1_readCondition_12 : decode cX1_readCondition 12 = .ok (.istore_n 3, 1) := by decide +kernel
theorem dX1_readCondition_13 : decode cX1_readCondition 13 = .ok (.iload_n 3, 1) := by decide +kernel
theorem dX1_readCondition_14 : decode cX1_readCondition 14 = .ok (.bipush 20, 2) := by decide +kernel
theorem dX1_readCondition_16 : decode cX1_readCondition 16 = .ok (.if_icmp .ge 75, 3) := by decide +kernel
theorem dX1_readCondition_19 : decode cX1_readCondition 19 = .ok (.aload_n 0, 1) := by decide +kernel
theorem dX1_readCondition_20 : decode cX1_readCondition 20 = .ok (.bipush 38, 2) := by decide +kernel
theorem dX1_readCondition_22 : decode cX1_readCondition 22 = .ok (.invokevirtual 42, 3) := by decide +kernel
theorem dX1_readCondition_25 : decode cX1_readCondition 25 = .ok (.ifCond .eq 8, 3) := by decide +kernel
theorem dX1_readCondition_28 : decode cX1_readCondition 28 = .ok (.bipush 10, 2) := by decide +kernel
theorem dX1_readCondition_30 : decode cX1_readCondition 30 = .ok (.goto 18, 3) := by decide +kernel
theorem dX1_readCondition_33 : decode cX1_readCondition 33 = .ok (.aload_n 0, 1) := by decide +kernel
theorem dX1_readCondition_34 : decode cX1_readCondition 34 = .ok (.bipush 124, 2) := by decide +kernel
theorem dX1_readCondition_36 : decode cX1_readCondition 36 = .ok (.invokevirtual 42, 3) := by decide +kernel
theorem dX1_readCondition_39 : decode cX1_readCondition 39 = .ok (.ifCond .eq 8, 3) := by decide +kernel
theorem dX1_readCondition_42 : decode cX1_readCondition 42 = .ok (.bipush 11, 2) := by decide +kernel
theorem dX1_readCondition_44 : decode cX1_readCondition 44 = .ok (.goto 4, 3) := by decide +kernel
theorem dX1_readCondition_47 : decode cX1_readCondition 47 = .ok (.iconst (-1), 1) := by decide +kernel
theorem dX1_readCondition_48 : decode cX1_readCondition 48 = .ok (.istore 4, 2) := by decide +kernel
theorem dX1_readCondition_50 : decode cX1_readCondition 50 = .ok (.iload 4, 2) := by decide +kernel
theorem dX1_readCondition_52 : decode cX1_readCondition 52 = .ok (.iconst (-1), 1) := by decide +kernel
theorem dX1_readCondition_53 : decode cX1_readCondition 53 = .ok (.if_icmp .ne 5, 3) := by decide +kernel
theorem dX1_readCondition_56 : decode cX1_readCondition 56 = .ok (.iconst 1, 1) := by decide +kernel
theorem dX1_readCondition_57 : decode cX1_readCondition 57 = .ok (.ireturn, 1) := by decide +kernel
theorem dX1_readCondition_58 : decode cX1_readCondition 58 = .ok (.aload_n 0, 1) := by decide +kernel
theorem dX1_readCondition_59 : decode cX1_readCondition 59 = .ok (.dup, 1) := by decide +kernel
theorem dX1_readCondition_60 : decode cX1_readCondition 60 = .ok (.getfield 23, 3) := by decide +kernel
theorem dX1_readCondition_63 : decode cX1_readCondition 63 = .ok (.iconst 1, 1) := by decide +kernel
theorem dX1_readCondition_64 : decode cX1_readCondition 64 = .ok (.iadd, 1) := by decide +kernel
theorem dX1_readCondition_65 : decode cX1_readCondition 65 = .ok (.putfield 23, 3) := by decide +kernel
theorem dX1_readCondition_68 : decode cX1_readCondition 68 = .ok (.aload_n 0, 1) := by decide +kernel
theorem dX1_readCondition_69 : decode cX1_readCondition 69 = .ok (.aload_n 1, 1) := by decide +kernel
theorem dX1_readCondition_70 : decode cX1_readCondition 70 = .ok (.iload_n 2, 1) := by decide +kernel
theorem dX1_readCondition_71 : decode cX1_readCondition 71 = .ok (.invokevirtual 39, 3) := by decide +kernel
theorem dX1_readCondition_74 : decode cX1_readCondition 74 = .ok (.ifCond .ne 5, 3) := by decide +kernel
theorem dX1_readCondition_77 : decode cX1_readCondition 77 = .ok (.iconst 0, 1) := by decide +kernel
theorem dX1_readCondition_78 : decode cX1_readCondition 78 = .ok (.ireturn, 1) := by decide +kernel
theorem dX1_readCondition_79 : decode cX1_readCondition 79 = .ok (.aload_n 1, 1) := by decide +kernel
theorem dX1_readCondition_80 : decode cX1_readCondition 80 = .ok (.iload 4, 2) := by decide +kernel
theorem dX1_readCondition_82 : decode cX1_readCondition 82 = .ok (.invokevirtual 45, 3) := by decide +kernel
theorem dX1_readCondition_85 : decode cX1_readCondition 85 = .ok (.iinc 3 1, 3) := by decide +kernel
theorem dX1_readCondition_88 : decode cX1_readCondition 88 = .ok (.goto (-75), 3) := by decide +kernel
theorem dX1_readCondition_91 : decode cX1_readCondition 91 = .ok (.iconst 1, 1) := by decide +kernel
theorem dX1_readCondition_92 : decode cX1_readCondition 92 = .ok (.ireturn, 1) := by decide +kernel
set_option maxRecDepth 20000 in
theorem ggX1_readTerm_X1_passes : GoodIn wsX1_readTerm wsX1_passes := goodIn_r _ [5, 6, 7, 8, 9, 4, 10, 11, 12, 35, 36, 37] (by decide +kernel) (by decide +kernel)
set_option maxRecDepth 20000 in
theorem gX1_readTerm_X1_passes : GoodIn wsX1_readTerm (wsV RX1 49 RX1 yX1_passes wsX1_passes) := goodIn_app (goodIn_of _ (by decide +kernel)) ggX1_readTerm_X1_passes
set_option maxRecDepth 20000 in
theorem ggX1_readTerm_X1_readZone : GoodIn wsX1_readTerm wsX1_readZone := goodIn_r _ [16, 17, 18, 19, 4, 20, 6, 11, 12, 21, 22, 23, 24, 25, 26, 27, 35, 36, 37, 38, 39, 40, 41, 42] (by decide +kernel) (by decide +kernel)
set_option maxRecDepth 20000 in
theorem gX1_readTerm_X1_readZone : GoodIn wsX1_readTerm (wsV RX1 52 RX1 yX1_readZone wsX1_readZone) := goodIn_app (goodIn_of _ (by decide +kernel)) ggX1_readTerm_X1_readZone
set_option maxRecDepth 20000 in
theorem ggX1_readTerm_X4_addStep : GoodIn wsX1_readTerm wsX4_addStep := goodIn_r _ [25, 26, 27, 38, 39, 40, 41, 42] (by decide +kernel) (by decide +kernel)
set_option maxRecDepth 20000 in
theorem gX1_readTerm_X4_addStep : GoodIn wsX1_readTerm (wsV RX1 45 RX4 yX4_addStep wsX4_addStep) := goodIn_app (goodIn_of _ (by decide +kernel)) ggX1_readTerm_X4_addStep
set_option maxRecDepth 20000 in
theorem ggX1_readTerm_X1_readCondition : GoodIn wsX1_readTerm wsX1_readCondition := goodIn_r _ [34, 6, 31, 32, 33, 4, 7, 8, 9, 10, 11, 12, 21, 22, 23, 24, 25, 26, 27, 0, 1, 2, 3, 5, 13, 14, 15, 16, 17, 18, 19, 20, 28, 29, 30, 35, 36, 37, 38, 39, 40, 41, 42] (by decide +kernel) (by decide +kernel)
set_option maxRecDepth 20000 in
theorem gX1_readTerm_X1_readCondition : GoodIn wsX1_readTerm (wsV RX1 31 RX1 yX1_readCondition wsX1_readCondition) := goodIn_app (goodIn_of _ (by decide +kernel)) ggX1_readTerm_X1_readCondition
set_option maxRecDepth 20000 in
theorem ggX1_readTerm_X1_readTerm : GoodIn wsX1_readTerm wsX1_readTerm := goodIn_r _ [0, 1, 2, 3, 4, 5, 6, 7, 8, 9, 10, 11, 12, 13, 14, 15, 16, 17, 18, 19, 20, 21, 22, 23, 24, 25, 26, 27, 28, 29, 30, 31, 32, 33, 34, 35, 36, 37, 38, 39, 40, 41, 42] (by decide +kernel) (by decide +kernel)
set_option maxRecDepth 20000 in
theorem gX1_readTerm_X1_readTerm : GoodIn wsX1_readTerm (wsV RX1 39 RX1 yX1_readTerm wsX1_readTerm) := goodIn_app (goodIn_of _ (by decide +kernel)) ggX1_readTerm_X1_readTerm
theorem dX1_readTerm_0 : decode cX1_readTerm 0 = .ok (.aload_n 0, 1) := by decide +kernel
theorem dX1_readTerm_1 : decode cX1_readTerm 1 = .ok (.bipush 122, 2) := by decide +kernel
theorem dX1_readTerm_3 : decode cX1_readTerm 3 = .ok (.invokevirtual 49, 3) := by decide +kernel
theorem dX1_readTerm_6 : decode cX1_readTerm 6 = .ok (.ifCond .eq 10, 3) := by decide +kernel
theorem dX1_readTerm_9 : decode cX1_readTerm 9 = .ok (.aload_n 0, 1) := by decide +kernel
theorem dX1_readTerm_10 : decode cX1_readTerm 10 = .ok (.aload_n 1, 1) := by decide +kernel
theorem dX1_readTerm_11 : decode cX1_readTerm 11 = .ok (.iconst 0, 1) := by decide +kernel
theorem dX1_readTerm_12 : decode cX1_readTerm 12 = .ok (.invokevirtual 52, 3) := by decide +kernel
theorem dX1_readTerm_15 : decode cX1_readTerm 15 = .ok (.ireturn, 1) := by decide +kernel
theorem dX1_readTerm_16 : decode cX1_readTerm 16 = .ok (.aload_n 0, 1) := by decide +kernel
theorem dX1_readTerm_17 : decode cX1_readTerm 17 = .ok (.bipush 119, 2) := by decide +kernel
theorem dX1_readTerm_19 : decode cX1_readTerm 19 = .ok (.invokevirtual 49, 3) := by decide +kernel
theorem dX1_readTerm_22 : decode cX1_readTerm 22 = .ok (.ifCond .eq 10, 3) := by decide +kernel
theorem dX1_readTerm_25 : decode cX1_readTerm 25 = .ok (.aload_n 0, 1) := by decide +kernel
theorem dX1_readTerm_26 : decode cX1_readTerm 26 = .ok (.aload_n 1, 1) := by decide +kernel
theorem dX1_readTerm_27 : decode cX1_readTerm 27 = .ok (.iconst 4, 1) := by decide +kernel
theorem dX1_readTerm_28 : decode cX1_readTerm 28 = .ok (.invokevirtual 52, 3) := by decide +kernel
theorem dX1_readTerm_31 : decode cX1_readTerm 31 = .ok (.ireturn, 1) := by decide +kernel
theorem dX1_readTerm_32 : decode cX1_readTerm 32 = .ok (.aload_n 0, 1) := by decide +kernel
theorem dX1_readTerm_33 : decode cX1_readTerm 33 = .ok (.bipush 102, 2) := by decide +kernel
theorem dX1_readTerm_35 : decode cX1_readTerm 35 = .ok (.invokevirtual 49, 3) := by decide +kernel
theorem dX1_readTerm_38 : decode cX1_readTerm 38 = .ok (.ifCond .eq 11, 3) := by decide +kernel
theorem dX1_readTerm_41 : decode cX1_readTerm 41 = .ok (.aload_n 1, 1) := by decide +kernel
theorem dX1_readTerm_42 : decode cX1_readTerm 42 = .ok (.bipush 8, 2) := by decide +kernel
theorem dX1_readTerm_44 : decode cX1_readTerm 44 = .ok (.invokevirtual 45, 3) := by decide +kernel
theorem dX1_readTerm_47 : decode cX1_readTerm 47 = .ok (.iconst 1, 1) := by decide +kernel
theorem dX1_readTerm_48 : decode cX1_readTerm 48 = .ok (.ireturn, 1) := by decide +kernel
theorem dX1_readTerm_49 : decode cX1_readTerm 49 = .ok (.iload_n 2, 1) := by decide +kernel
theorem dX1_readTerm_50 : decode cX1_readTerm 50 = .ok (.iconst 4, 1) := by decide +kernel
theorem dX1_readTerm_51 : decode cX1_readTerm 51 = .ok (.if_icmp .lt 5, 3) := by decide +kernel
theorem dX1_readTerm_54 : decode cX1_readTerm 54 = .ok (.iconst 0, 1) := by decide +kernel
theorem dX1_readTerm_55 : decode cX1_readTerm 55 = .ok (.ireturn, 1) := by decide +kernel
theorem dX1_readTerm_56 : decode cX1_readTerm 56 = .ok (.aload_n 0, 1) := by decide +kernel
theorem dX1_readTerm_57 : decode cX1_readTerm 57 = .ok (.bipush 40, 2) := by decide +kernel
theorem dX1_readTerm_59 : decode cX1_readTerm 59 = .ok (.invokevirtual 49, 3) := by decide +kernel
theorem dX1_readTerm_62 : decode cX1_readTerm 62 = .ok (.ifCond .eq 29, 3) := by decide +kernel
theorem dX1_readTerm_65 : decode cX1_readTerm 65 = .ok (.aload_n 0, 1) := by decide +kernel
theorem dX1_readTerm_66 : decode cX1_readTerm 66 = .ok (.aload_n 1, 1) := by decide +kernel
theorem dX1_readTerm_67 : decode cX1_readTerm 67 = .ok (.iload_n 2, 1) := by decide +kernel
theorem dX1_readTerm_68 : decode cX1_readTerm 68 = .ok (.iconst 1, 1) := by decide +kernel
theorem dX1_readTerm_69 : decode cX1_readTerm 69 = .ok (.iadd, 1) := by decide +kernel
theorem dX1_readTerm_70 : decode cX1_readTerm 70 = .ok (.invokevirtual 31, 3) := by decide +kernel
theorem dX1_readTerm_73 : decode cX1_readTerm 73 = .ok (.ifCond .eq 16, 3) := by decide +kernel
theorem dX1_readTerm_76 : decode cX1_readTerm 76 = .ok (.aload_n 0, 1) := by decide +kernel
theorem dX1_readTerm_77 : decode cX1_readTerm 77 = .ok (.bipush 41, 2) := by decide +kernel
theorem dX1_readTerm_79 : decode cX1_readTerm 79 = .ok (.invokevirtual 49, 3) := by decide +kernel
theorem dX1_readTerm_82 : decode cX1_readTerm 82 = .ok (.ifCond .eq 7, 3) := by decide +kernel
theorem dX1_readTerm_85 : decode cX1_readTerm 85 = .ok (.iconst 1, 1) := by decide +kernel
theorem dX1_readTerm_86 : decode cX1_readTerm 86 = .ok (.goto 4, 3) := by decide +kernel
theorem dX1_readTerm_89 : decode cX1_readTerm 89 = .ok (.iconst 0, 1) := by decide +kernel
theorem dX1_readTerm_90 : decode cX1_readTerm 90 = .ok (.ireturn, 1) := by decide +kernel
theorem dX1_readTerm_91 : decode cX1_readTerm 91 = .ok (.aload_n 0, 1) := by decide +kernel
theorem dX1_readTerm_92 : decode cX1_readTerm 92 = .ok (.bipush 33, 2) := by decide +kernel
theorem dX1_readTerm_94 : decode cX1_readTerm 94 = .ok (.invokevirtual 49, 3) := by decide +kernel
theorem dX1_readTerm_97 : decode cX1_readTerm 97 = .ok (.ifCond .eq 22, 3) := by decide +kernel
theorem dX1_readTerm_100 : decode cX1_readTerm 100 = .ok (.aload_n 0, 1) := by decide +kernel
theorem dX1_readTerm_101 : decode cX1_readTerm 101 = .ok (.aload_n 1, 1) := by decide +kernel
theorem dX1_readTerm_102 : decode cX1_readTerm 102 = .ok (.iload_n 2, 1) := by decide +kernel
theorem dX1_readTerm_103 : decode cX1_readTerm 103 = .ok (.iconst 1, 1) := by decide +kernel
theorem dX1_readTerm_104 : decode cX1_readTerm 104 = .ok (.iadd, 1) := by decide +kernel
theorem dX1_readTerm_105 : decode cX1_readTerm 105 = .ok (.invokevirtual 39, 3) := by decide +kernel
theorem dX1_readTerm_108 : decode cX1_readTerm 108 = .ok (.ifCond .eq 11, 3) := by decide +kernel
theorem dX1_readTerm_111 : decode cX1_readTerm 111 = .ok (.aload_n 1, 1) := by decide +kernel
theorem dX1_readTerm_112 : decode cX1_readTerm 112 = .ok (.bipush 9, 2) := by decide +kernel
theorem dX1_readTerm_114 : decode cX1_readTerm 114 = .ok (.invokevirtual 45, 3) := by decide +kernel
theorem dX1_readTerm_117 : decode cX1_readTerm 117 = .ok (.iconst 1, 1) := by decide +kernel
theorem dX1_readTerm_118 : decode cX1_readTerm 118 = .ok (.ireturn, 1) := by decide +kernel
theorem dX1_readTerm_119 : decode cX1_readTerm 119 = .ok (.iconst 0, 1) := by decide +kernel
theorem dX1_readTerm_120 : decode cX1_readTerm 120 = .ok (.ireturn, 1) := by decide +kernel
set_option maxRecDepth 20000 in
theorem ggX1_readZone_X1_readDigit : GoodIn wsX1_readZone wsX1_readDigit := goodIn_r _ [5, 6, 7, 8, 16, 17, 18] (by decide +kernel) (by decide +kernel)
set_option maxRecDepth 20000 in
theorem gX1_readZone_X1_readDigit : GoodIn wsX1_readZone (wsV RX1 55 RX1 yX1_readDigit wsX1_readDigit) := goodIn_app (goodIn_of _ (by decide +kernel)) ggX1_readZone_X1_readDigit
set_option maxRecDepth 20000 in
theorem ggX1_readZone_X4_addStep : GoodIn wsX1_readZone wsX4_addStep := goodIn_r _ [13, 14, 15, 19, 20, 21, 22, 23] (by decide +kernel) (by decide +kernel)
set_option maxRecDepth 20000 in
theorem gX1_readZone_X4_addStep : GoodIn wsX1_readZone (wsV RX1 45 RX4 yX4_addStep wsX4_addStep) := goodIn_app (goodIn_of _ (by decide +kernel)) ggX1_readZone_X4_addStep
theorem dX1_readZone_0 : decode cX1_readZone 0 = .ok (.aload_n 0, 1) := by decide +kernel
theorem dX1_readZone_1 : decode cX1_readZone 1 = .ok (.iconst 4, 1) := by decide +kernel
theorem dX1_readZone_2 : decode cX1_readZone 2 = .ok (.invokevirtual 55, 3) := by decide +kernel
theorem dX1_readZone_5 : decode cX1_readZone 5 = .ok (.istore_n 3, 1) := by decide +kernel
theorem dX1_readZone_6 : decode cX1_readZone 6 = .ok (.iload_n 3, 1) := by decide +kernel
theorem dX1_readZone_7 : decode cX1_readZone 7 = .ok (.iconst (-1), 1) := by decide +kernel
theorem dX1_readZone_8 : decode cX1_readZone 8 = .ok (.if_icmp .ne 5, 3) := by decide +kernel
theorem dX1_readZone_11 : decode cX1_readZone 11 = .ok (.iconst 0, 1) := by decide +kernel
theorem dX1_readZone_12 : decode cX1_readZone 12 = .ok (.ireturn, 1) := by decide +kernel
theorem dX1_readZone_13 : decode cX1_readZone 13 = .ok (.aload_n 1, 1) := by decide +kernel
theorem dX1_readZone_14 : decode cX1_readZone 14 = .ok (.iload_n 2, 1) := by decide +kernel
theorem dX1_readZone_15 : decode cX1_readZone 15 = .ok (.iload_n 3, 1) := by decide +kernel
theorem dX1_readZone_16 : decode cX1_readZone 16 = .ok (.iadd, 1) := by decide +kernel
theorem dX1_readZone_17 : decode cX1_readZone 17 = .ok (.invokevirtual 45, 3) := by decide +kernel
theorem dX1_readZone_20 : decode cX1_readZone 20 = .ok (.iconst 1, 1) := by decide +kernel
theorem dX1_readZone_21 : decode cX1_readZone 21 = .ok (.ireturn, 1) := by decide +kernel
set_option maxRecDepth 20000 in
theorem ggX1_readTarget_X1_passes : GoodIn wsX1_readTarget wsX1_passes := goodIn_r _ [7, 8, 9, 10, 11, 6, 12, 13, 14, 24, 25, 26] (by decide +kernel) (by decide +kernel)
set_option maxRecDepth 20000 in
theorem gX1_readTarget_X1_passes : GoodIn wsX1_readTarget (wsV RX1 49 RX1 yX1_passes wsX1_passes) := goodIn_app (goodIn_of _ (by decide +kernel)) ggX1_readTarget_X1_passes
set_option maxRecDepth 20000 in
theorem ggX1_readTarget_X1_readDigit : GoodIn wsX1_readTarget wsX1_readDigit := goodIn_r _ [18, 8, 13, 14, 24, 25, 26] (by decide +kernel) (by decide +kernel)
set_option maxRecDepth 20000 in
theorem gX1_readTarget_X1_readDigit : GoodIn wsX1_readTarget (wsV RX1 55 RX1 yX1_readDigit wsX1_readDigit) := goodIn_app (goodIn_of _ (by decide +kernel)) ggX1_readTarget_X1_readDigit
theorem dX1_readTarget_0 : decode cX1_readTarget 0 = .ok (.aload_n 0, 1) := by decide +kernel
theorem dX1_readTarget_1 : decode cX1_readTarget 1 = .ok (.bipush 62, 2) := by decide +kernel
theorem dX1_readTarget_3 : decode cX1_readTarget 3 = .ok (.invokevirtual 49, 3) := by decide +kernel
theorem dX1_readTarget_6 : decode cX1_readTarget 6 = .ok (.ifCond .ne 5, 3) := by decide +kernel
theorem dX1_readTarget_9 : decode cX1_readTarget 9 = .ok (.iconst 0, 1) := by decide +kernel
theorem dX1_readTarget_10 : decode cX1_readTarget 10 = .ok (.ireturn, 1) := by decide +kernel
theorem dX1_readTarget_11 : decode cX1_readTarget 11 = .ok (.aload_n 1, 1) := by decide +kernel
theorem dX1_readTarget_12 : decode cX1_readTarget 12 = .ok (.aload_n 0, 1) := by decide +kernel
theorem dX1_readTarget_13 : decode cX1_readTarget 13 = .ok (.bipush 6, 2) := by decide +kernel
theorem dX1_readTarget_15 : decode cX1_readTarget 15 = .ok (.invokevirtual 55, 3) := by decide +kernel
theorem dX1_readTarget_18 : decode cX1_readTarget 18 = .ok (.putfield 59, 3) := by decide +kernel
theorem dX1_readTarget_21 : decode cX1_readTarget 21 = .ok (.aload_n 1, 1) := by decide +kernel
theorem dX1_readTarget_22 : decode cX1_readTarget 22 = .ok (.getfield 59, 3) := by decide +kernel
theorem dX1_readTarget_25 : decode cX1_readTarget 25 = .ok (.iconst (-1), 1) := by decide +kernel
theorem dX1_readTarget_26 : decode cX1_readTarget 26 = .ok (.if_icmp .ne 5, 3) := by decide +kernel
theorem dX1_readTarget_29 : decode cX1_readTarget 29 = .ok (.iconst 0, 1) := by decide +kernel
theorem dX1_readTarget_30 : decode cX1_readTarget 30 = .ok (.ireturn, 1) := by decide +kernel
theorem dX1_readTarget_31 : decode cX1_readTarget 31 = .ok (.aload_n 0, 1) := by decide +kernel
theorem dX1_readTarget_32 : decode cX1_readTarget 32 = .ok (.bipush 58, 2) := by decide +kernel
theorem dX1_readTarget_34 : decode cX1_readTarget 34 = .ok (.invokevirtual 49, 3) := by decide +kernel
theorem dX1_readTarget_37 : decode cX1_readTarget 37 = .ok (.ifCond .eq 13, 3) := by decide +kernel
theorem dX1_readTarget_40 : decode cX1_readTarget 40 = .ok (.aload_n 1, 1) := by decide +kernel
theorem dX1_readTarget_41 : decode cX1_readTarget 41 = .ok (.aload_n 0, 1) := by decide +kernel
theorem dX1_readTarget_42 : decode cX1_readTarget 42 = .ok (.bipush 10, 2) := by decide +kernel
theorem dX1_readTarget_44 : decode cX1_readTarget 44 = .ok (.invokevirtual 55, 3) := by decide +kernel
theorem dX1_readTarget_47 : decode cX1_readTarget 47 = .ok (.putfield 62, 3) := by decide +kernel
theorem dX1_readTarget_50 : decode cX1_readTarget 50 = .ok (.aload_n 1, 1) := by decide +kernel
theorem dX1_readTarget_51 : decode cX1_readTarget 51 = .ok (.getfield 62, 3) := by decide +kernel
theorem dX1_readTarget_54 : decode cX1_readTarget 54 = .ok (.iconst (-1), 1) := by decide +kernel
theorem dX1_readTarget_55 : decode cX1_readTarget 55 = .ok (.if_icmp .eq 7, 3) := by decide +kernel
theorem dX1_readTarget_58 : decode cX1_readTarget 58 = .ok (.iconst 1, 1) := by decide +kernel
theorem dX1_readTarget_59 : decode cX1_readTarget 59 = .ok (.goto 4, 3) := by decide +kernel
theorem dX1_readTarget_62 : decode cX1_readTarget 62 = .ok (.iconst 0, 1) := by decide +kernel
theorem dX1_readTarget_63 : decode cX1_readTarget 63 = .ok (.ireturn, 1) := by decide +kernel
theorem dX1_readDigit_0 : decode cX1_readDigit 0 = .ok (.aload_n 0, 1) := by decide +kernel
theorem dX1_readDigit_1 : decode cX1_readDigit 1 = .ok (.getfield 23, 3) := by decide +kernel
theorem dX1_readDigit_4 : decode cX1_readDigit 4 = .ok (.ifCond .lt 23, 3) := by decide +kernel
theorem dX1_readDigit_7 : decode cX1_readDigit 7 = .ok (.aload_n 0, 1) := by decide +kernel
theorem dX1_readDigit_8 : decode cX1_readDigit 8 = .ok (.getfield 23, 3) := by decide +kernel
theorem dX1_readDigit_11 : decode cX1_readDigit 11 = .ok (.aload_n 0, 1) := by decide +kernel
theorem dX1_readDigit_12 : decode cX1_readDigit 12 = .ok (.getfield 19, 3) := by decide +kernel
theorem dX1_readDigit_15 : decode cX1_readDigit 15 = .ok (.if_icmp .ge 12, 3) := by decide +kernel
theorem dX1_readDigit_18 : decode cX1_readDigit 18 = .ok (.aload_n 0, 1) := by decide +kernel
theorem dX1_readDigit_19 : decode cX1_readDigit 19 = .ok (.getfield 23, 3) := by decide +kernel
theorem dX1_readDigit_22 : decode cX1_readDigit 22 = .ok (.bipush 20, 2) := by decide +kernel
theorem dX1_readDigit_24 : decode cX1_readDigit 24 = .ok (.if_icmp .lt 5, 3) := by decide +kernel
theorem dX1_readDigit_27 : decode cX1_readDigit 27 = .ok (.iconst (-1), 1) := by decide +kernel
theorem dX1_readDigit_28 : decode cX1_readDigit 28 = .ok (.ireturn, 1) := by decide +kernel
theorem dX1_readDigit_29 : decode cX1_readDigit 29 = .ok (.aload_n 0, 1) := by decide +kernel
theorem dX1_readDigit_30 : decode cX1_readDigit 30 = .ok (.getfield 9, 3) := by decide +kernel
theorem dX1_readDigit_33 : decode cX1_readDigit 33 = .ok (.aload_n 0, 1) := by decide +kernel
theorem dX1_readDigit_34 : decode cX1_readDigit 34 = .ok (.getfield 23, 3) := by decide +kernel
theorem dX1_readDigit_37 : decode cX1_readDigit 37 = .ok (.caload, 1) := by decide +kernel
theorem dX1_readDigit_38 : decode cX1_readDigit 38 = .ok (.bipush 48, 2) := by decide +kernel
theorem dX1_readDigit_40 : decode cX1_readDigit 40 = .ok (.isub, 1) := by decide +kernel
theorem dX1_readDigit_41 : decode cX1_readDigit 41 = .ok (.istore_n 2, 1) := by decide +kernel
theorem dX1_readDigit_42 : decode cX1_readDigit 42 = .ok (.iload_n 2, 1) := by decide +kernel
theorem dX1_readDigit_43 : decode cX1_readDigit 43 = .ok (.ifCond .lt 8, 3) := by decide +kernel
theorem dX1_readDigit_46 : decode cX1_readDigit 46 = .ok (.iload_n 2, 1) := by decide +kernel
theorem dX1_readDigit_47 : decode cX1_readDigit 47 = .ok (.iload_n 1, 1) := by decide +kernel
theorem dX1_readDigit_48 : decode cX1_readDigit 48 = .ok (.if_icmp .lt 5, 3) := by decide +kernel
theorem dX1_readDigit_51 : decode cX1_readDigit 51 = .ok (.iconst (-1), 1) := by decide +kernel
theorem dX1_readDigit_52 : decode cX1_readDigit 52 = .ok (.ireturn, 1) := by decide +kernel
theorem dX1_readDigit_53 : decode cX1_readDigit 53 = .ok (.aload_n 0, 1) := by decide +kernel
theorem dX1_readDigit_54 : decode cX1_readDigit 54 = .ok (.dup, 1) := by decide +kernel
theorem dX1_readDigit_55 : decode cX1_readDigit 55 = .ok (.getfield 23, 3) := by decide +kernel
theorem dX1_readDigit_58 : decode cX1_readDigit 58 = .ok (.iconst 1, 1) := by decide +kernel
theorem dX1_readDigit_59 : decode cX1_readDigit 59 = .ok (.iadd, 1) := by decide +kernel
theorem dX1_readDigit_60 : decode cX1_readDigit 60 = .ok (.putfield 23, 3) := by decide +kernel
theorem dX1_readDigit_63 : decode cX1_readDigit 63 = .ok (.iload_n 2, 1) := by decide +kernel
theorem dX1_readDigit_64 : decode cX1_readDigit 64 = .ok (.ireturn, 1) := by decide +kernel
set_option maxRecDepth 20000 in
theorem ggX1_passes_X1_sees : GoodIn wsX1_passes wsX1_sees := goodIn_r _ [6, 1, 7, 8, 9, 10, 11] (by decide +kernel) (by decide +kernel)
set_option maxRecDepth 20000 in
theorem gX1_passes_X1_sees : GoodIn wsX1_passes (wsV RX1 42 RX1 yX1_sees wsX1_sees) := goodIn_app (goodIn_of _ (by decide +kernel)) ggX1_passes_X1_sees
theorem dX1_passes_0 : decode cX1_passes 0 = .ok (.aload_n 0, 1) := by decide +kernel
theorem dX1_passes_1 : decode cX1_passes 1 = .ok (.iload_n 1, 1) := by decide +kernel
theorem dX1_passes_2 : decode cX1_passes 2 = .ok (.invokevirtual 42, 3) := by decide +kernel
theorem dX1_passes_5 : decode cX1_passes 5 = .ok (.ifCond .ne 5, 3) := by decide +kernel
theorem dX1_passes_8 : decode cX1_passes 8 = .ok (.iconst 0, 1) := by decide +kernel
theorem dX1_passes_9 : decode cX1_passes 9 = .ok (.ireturn, 1) := by decide +kernel
theorem dX1_passes_10 : decode cX1_passes 10 = .ok (.aload_n 0, 1) := by decide +kernel
theorem dX1_passes_11 : decode cX1_passes 11 = .ok (.dup, 1) := by decide +kernel
theorem dX1_passes_12 : decode cX1_passes 12 = .ok (.getfield 23, 3) := by decide +kernel
theorem dX1_passes_15 : decode cX1_passes 15 = .ok (.iconst 1, 1) := by decide +kernel
theorem dX1_passes_16 : decode cX1_passes 16 = .ok (.iadd, 1) := by decide +kernel
theorem dX1_passes_17 : decode cX1_passes 17 = .ok (.putfield 23, 3) := by decide +kernel
theorem dX1_passes_20 : decode cX1_passes 20 = .ok (.iconst 1, 1) := by decide +kernel
theorem dX1_passes_21 : decode cX1_passes 21 = .ok (.ireturn, 1) := by decide +kernel
theorem dX1_sees_0 : decode cX1_sees 0 = .ok (.aload_n 0, 1) := by decide +kernel
theorem dX1_sees_1 : decode cX1_sees 1 = .ok (.getfield 23, 3) := by decide +kernel
theorem dX1_sees_4 : decode cX1_sees 4 = .ok (.ifCond .lt 40, 3) := by decide +kernel
theorem dX1_sees_7 : decode cX1_sees 7 = .ok (.aload_n 0, 1) := by decide +kernel
theorem dX1_sees_8 : decode cX1_sees 8 = .ok (.getfield 23, 3) := by decide +kernel
theorem dX1_sees_11 : decode cX1_sees 11 = .ok (.aload_n 0, 1) := by decide +kernel
theorem dX1_sees_12 : decode cX1_sees 12 = .ok (.getfield 19, 3) := by decide +kernel
theorem dX1_sees_15 : decode cX1_sees 15 = .ok (.if_icmp .ge 29, 3) := by decide +kernel
theorem dX1_sees_18 : decode cX1_sees 18 = .ok (.aload_n 0, 1) := by decide +kernel
theorem dX1_sees_19 : decode cX1_sees 19 = .ok (.getfield 23, 3) := by decide +kernel
theorem dX1_sees_22 : decode cX1_sees 22 = .ok (.bipush 20, 2) := by decide +kernel
theorem dX1_sees_24 : decode cX1_sees 24 = .ok (.if_icmp .ge 20, 3) := by decide +kernel
theorem dX1_sees_27 : decode cX1_sees 27 = .ok (.aload_n 0, 1) := by decide +kernel
theorem dX1_sees_28 : decode cX1_sees 28 = .ok (.getfield 9, 3) := by decide +kernel
theorem dX1_sees_31 : decode cX1_sees 31 = .ok (.aload_n 0, 1) := by decide +kernel
theorem dX1_sees_32 : decode cX1_sees 32 = .ok (.getfield 23, 3) := by decide +kernel
theorem dX1_sees_35 : decode cX1_sees 35 = .ok (.caload, 1) := by decide +kernel
theorem dX1_sees_36 : decode cX1_sees 36 = .ok (.iload_n 1, 1) := by decide +kernel
theorem dX1_sees_37 : decode cX1_sees 37 = .ok (.if_icmp .ne 7, 3) := by decide +kernel
theorem dX1_sees_40 : decode cX1_sees 40 = .ok (.iconst 1, 1) := by decide +kernel
theorem dX1_sees_41 : decode cX1_sees 41 = .ok (.goto 4, 3) := by decide +kernel
theorem dX1_sees_44 : decode cX1_sees 44 = .ok (.iconst 0, 1) := by decide +kernel
theorem dX1_sees_45 : decode cX1_sees 45 = .ok (.ireturn, 1) := by decide +kernel
theorem dX2_init_0 : decode cX2_init 0 = .ok (.aload_n 0, 1) := by decide +kernel
theorem dX2_init_1 : decode cX2_init 1 = .ok (.invokespecial 3, 3) := by decide +kernel
theorem dX2_init_4 : decode cX2_init 4 = .ok (.return_, 1) := by decide +kernel
theorem dX2_begin_0 : decode cX2_begin 0 = .ok (.aload_n 0, 1) := by decide +kernel
theorem dX2_begin_1 : decode cX2_begin 1 = .ok (.iload_n 1, 1) := by decide +kernel
theorem dX2_begin_2 : decode cX2_begin 2 = .ok (.putfield 9, 3) := by decide +kernel
theorem dX2_begin_5 : decode cX2_begin 5 = .ok (.aload_n 0, 1) := by decide +kernel
theorem dX2_begin_6 : decode cX2_begin 6 = .ok (.iload_n 2, 1) := by decide +kernel
theorem dX2_begin_7 : decode cX2_begin 7 = .ok (.putfield 15, 3) := by decide +kernel
theorem dX2_begin_10 : decode cX2_begin 10 = .ok (.aload_n 0, 1) := by decide +kernel
theorem dX2_begin_11 : decode cX2_begin 11 = .ok (.fload_n 3, 1) := by decide +kernel
theorem dX2_begin_12 : decode cX2_begin 12 = .ok (.putfield 18, 3) := by decide +kernel
theorem dX2_begin_15 : decode cX2_begin 15 = .ok (.aload_n 0, 1) := by decide +kernel
theorem dX2_begin_16 : decode cX2_begin 16 = .ok (.fconst 0, 1) := by decide +kernel
theorem dX2_begin_17 : decode cX2_begin 17 = .ok (.putfield 22, 3) := by decide +kernel
theorem dX2_begin_20 : decode cX2_begin 20 = .ok (.aload_n 0, 1) := by decide +kernel
theorem dX2_begin_21 : decode cX2_begin 21 = .ok (.fconst 0, 1) := by decide +kernel
theorem dX2_begin_22 : decode cX2_begin 22 = .ok (.putfield 25, 3) := by decide +kernel
theorem dX2_begin_25 : decode cX2_begin 25 = .ok (.aload_n 0, 1) := by decide +kernel
theorem dX2_begin_26 : decode cX2_begin 26 = .ok (.iconst 0, 1) := by decide +kernel
theorem dX2_begin_27 : decode cX2_begin 27 = .ok (.putfield 28, 3) := by decide +kernel
theorem dX2_begin_30 : decode cX2_begin 30 = .ok (.aload_n 0, 1) := by decide +kernel
theorem dX2_begin_31 : decode cX2_begin 31 = .ok (.iconst 0, 1) := by decide +kernel
theorem dX2_begin_32 : decode cX2_begin 32 = .ok (.putfield 31, 3) := by decide +kernel
theorem dX2_begin_35 : decode cX2_begin 35 = .ok (.aload_n 0, 1) := by decide +kernel
theorem dX2_begin_36 : decode cX2_begin 36 = .ok (.iconst 0, 1) := by decide +kernel
theorem dX2_begin_37 : decode cX2_begin 37 = .ok (.putfield 35, 3) := by decide +kernel
theorem dX2_begin_40 : decode cX2_begin 40 = .ok (.aload_n 0, 1) := by decide +kernel
theorem dX2_begin_41 : decode cX2_begin 41 = .ok (.iconst 0, 1) := by decide +kernel
theorem dX2_begin_42 : decode cX2_begin 42 = .ok (.putfield 38, 3) := by decide +kernel
theorem dX2_begin_45 : decode cX2_begin 45 = .ok (.return_, 1) := by decide +kernel
theorem dX2_isSensor_0 : decode cX2_isSensor 0 = .ok (.aload_n 0, 1) := by decide +kernel
theorem dX2_isSensor_1 : decode cX2_isSensor 1 = .ok (.getfield 9, 3) := by decide +kernel
theorem dX2_isSensor_4 : decode cX2_isSensor 4 = .ok (.iconst 1, 1) := by decide +kernel
theorem dX2_isSensor_5 : decode cX2_isSensor 5 = .ok (.if_icmp .lt 15, 3) := by decide +kernel
theorem dX2_isSensor_8 : decode cX2_isSensor 8 = .ok (.aload_n 0, 1) := by decide +kernel
theorem dX2_isSensor_9 : decode cX2_isSensor 9 = .ok (.getfield 9, 3) := by decide +kernel
theorem dX2_isSensor_12 : decode cX2_isSensor 12 = .ok (.iconst 3, 1) := by decide +kernel
theorem dX2_isSensor_13 : decode cX2_isSensor 13 = .ok (.if_icmp .gt 7, 3) := by decide +kernel
theorem dX2_isSensor_16 : decode cX2_isSensor 16 = .ok (.iconst 1, 1) := by decide +kernel
theorem dX2_isSensor_17 : decode cX2_isSensor 17 = .ok (.goto 4, 3) := by decide +kernel
theorem dX2_isSensor_20 : decode cX2_isSensor 20 = .ok (.iconst 0, 1) := by decide +kernel
theorem dX2_isSensor_21 : decode cX2_isSensor 21 = .ok (.ireturn, 1) := by decide +kernel
set_option maxRecDepth 20000 in
theorem ggX2_watches_X2_isSensor : GoodIn wsX2_watches wsX2_isSensor := goodIn_r _ [7, 8, 9, 10, 11, 12, 13, 14, 15, 16, 17, 18, 19] (by decide +kernel) (by decide +kernel)
set_option maxRecDepth 20000 in
theorem gX2_watches_X2_isSensor : GoodIn wsX2_watches (wsV RX2 41 RX2 yX2_isSensor wsX2_isSensor) := goodIn_app (goodIn_of _ (by decide +kernel)) ggX2_watches_X2_isSensor
theorem dX2_watches_0 : decode cX2_watches 0 = .ok (.aload_n 0, 1) := by decide +kernel
theorem dX2_watches_1 : decode cX2_watches 1 = .ok (.invokevirtual 41, 3) := by decide +kernel
theorem dX2_watches_4 : decode cX2_watches 4 = .ok (.ifCond .eq 22, 3) := by decide +kernel
theorem dX2_watches_7 : decode cX2_watches 7 = .ok (.aload_n 0, 1) := by decide +kernel
theorem dX2_watches_8 : decode cX2_watches 8 = .ok (.getfield 15, 3) := by decide +kernel
theorem dX2_watches_11 : decode cX2_watches 11 = .ok (.iload_n 1, 1) := by decide +kernel
theorem dX2_watches_12 : decode cX2_watches 12 = .ok (.if_icmp .ne 14, 3) := by decide +kernel
theorem dX2_watches_15 : decode cX2_watches 15 = .ok (.aload_n 0, 1) := by decide +kernel
theorem dX2_watches_16 : decode cX2_watches 16 = .ok (.getfield 45, 3) := by decide +kernel
theorem dX2_watches_19 : decode cX2_watches 19 = .ok (.ifCond .ne 7, 3) := by decide +kernel
theorem dX2_watches_22 : decode cX2_watches 22 = .ok (.iconst 1, 1) := by decide +kernel
theorem dX2_watches_23 : decode cX2_watches 23 = .ok (.goto 4, 3) := by decide +kernel
theorem dX2_watches_26 : decode cX2_watches 26 = .ok (.iconst 0, 1) := by decide +kernel
theorem dX2_watches_27 : decode cX2_watches 27 = .ok (.ireturn, 1) := by decide +kernel
theorem dX2_warns_0 : decode cX2_warns 0 = .ok (.aload_n 0, 1) := by decide +kernel
theorem dX2_warns_1 : decode cX2_warns 1 = .ok (.getfield 31, 3) := by decide +kernel
theorem dX2_warns_4 : decode cX2_warns 4 = .ok (.ifCond .ne 26, 3) := by decide +kernel
theorem dX2_warns_7 : decode cX2_warns 7 = .ok (.aload_n 0, 1) := by decide +kernel
theorem dX2_warns_8 : decode cX2_warns 8 = .ok (.getfield 9, 3) := by decide +kernel
theorem dX2_warns_11 : decode cX2_warns 11 = .ok (.iconst 1, 1) := by decide +kernel
theorem dX2_warns_12 : decode cX2_warns 12 = .ok (.if_icmp .ne 22, 3) := by decide +kernel
theorem dX2_warns_15 : decode cX2_warns 15 = .ok (.aload_n 0, 1) := by decide +kernel
theorem dX2_warns_16 : decode cX2_warns 16 = .ok (.getfield 25, 3) := by decide +kernel
theorem dX2_warns_19 : decode cX2_warns 19 = .ok (.aload_n 0, 1) := by decide +kernel
theorem dX2_warns_20 : decode cX2_warns 20 = .ok (.getfield 18, 3) := by decide +kernel
theorem dX2_warns_23 : decode cX2_warns 23 = .ok (.ldc 48, 2) := by decide +kernel
theorem dX2_warns_25 : decode cX2_warns 25 = .ok (.fmul, 1) := by decide +kernel
theorem dX2_warns_26 : decode cX2_warns 26 = .ok (.fcmp .l, 1) := by decide +kernel
theorem dX2_warns_27 : decode cX2_warns 27 = .ok (.ifCond .lt 7, 3) := by decide +kernel
theorem dX2_warns_30 : decode cX2_warns 30 = .ok (.iconst 1, 1) := by decide +kernel
theorem dX2_warns_31 : decode cX2_warns 31 = .ok (.goto 4, 3) := by decide +kernel
theorem dX2_warns_34 : decode cX2_warns 34 = .ok (.iconst 0, 1) := by decide +kernel
theorem dX2_warns_35 : decode cX2_warns 35 = .ok (.ireturn, 1) := by decide +kernel
set_option maxRecDepth 20000 in
theorem ggX2_sense_X2_senseSmoke : GoodIn wsX2_sense wsX2_senseSmoke := goodIn_r _ [8, 9, 10, 11, 12, 2, 13, 14, 15, 16, 7, 17, 18, 29, 30, 31, 32, 33, 34, 35, 36, 37, 38, 39] (by decide +kernel) (by decide +kernel)
set_option maxRecDepth 20000 in
theorem gX2_sense_X2_senseSmoke : GoodIn wsX2_sense (wsV RX2 49 RX2 yX2_senseSmoke wsX2_senseSmoke) := goodIn_app (goodIn_of _ (by decide +kernel)) ggX2_sense_X2_senseSmoke
set_option maxRecDepth 20000 in
theorem ggX2_sense_X2_senseHeat : GoodIn wsX2_sense wsX2_senseHeat := goodIn_r _ [22, 9, 10, 23, 24, 11, 14, 15, 16, 7, 17, 18, 2, 29, 30, 31, 32, 33, 34, 35, 36, 37, 38, 39] (by decide +kernel) (by decide +kernel)
set_option maxRecDepth 20000 in
theorem gX2_sense_X2_senseHeat : GoodIn wsX2_sense (wsV RX2 52 RX2 yX2_senseHeat wsX2_senseHeat) := goodIn_app (goodIn_of _ (by decide +kernel)) ggX2_sense_X2_senseHeat
set_option maxRecDepth 20000 in
theorem ggX2_sense_X2_senseButton : GoodIn wsX2_sense wsX2_senseButton := goodIn_r _ [28, 9, 2, 11, 29, 30, 31, 32, 33, 34, 35, 36, 37, 38, 39] (by decide +kernel) (by decide +kernel)
set_option maxRecDepth 20000 in
theorem gX2_sense_X2_senseButton : GoodIn wsX2_sense (wsV RX2 55 RX2 yX2_senseButton wsX2_senseButton) := goodIn_app (goodIn_of _ (by decide +kernel)) ggX2_sense_X2_senseButton
theorem dX2_sense_0 : decode cX2_sense 0 = .ok (.aload_n 0, 1) := by decide +kernel
theorem dX2_sense_1 : decode cX2_sense 1 = .ok (.getfield 9, 3) := by decide +kernel
theorem dX2_sense_4 : decode cX2_sense 4 = .ok (.iconst 1, 1) := by decide +kernel
theorem dX2_sense_5 : decode cX2_sense 5 = .ok (.if_icmp .ne 10, 3) := by decide +kernel
theorem dX2_sense_8 : decode cX2_sense 8 = .ok (.aload_n 0, 1) := by decide +kernel
theorem dX2_sense_9 : decode cX2_sense 9 = .ok (.invokevirtual 49, 3) := by decide +kernel
theorem dX2_sense_12 : decode cX2_sense 12 = .ok (.goto 22, 3) := by decide +kernel
theorem dX2_sense_15 : decode cX2_sense 15 = .ok (.aload_n 0, 1) := by decide +kernel
theorem dX2_sense_16 : decode cX2_sense 16 = .ok (.getfield 9, 3) := by decide +kernel
theorem dX2_sense_19 : decode cX2_sense 19 = .ok (.iconst 2, 1) := by decide +kernel
theorem dX2_sense_20 : decode cX2_sense 20 = .ok (.if_icmp .ne 10, 3) := by decide +kernel
theorem dX2_sense_23 : decode cX2_sense 23 = .ok (.aload_n 0, 1) := by decide +kernel
theorem dX2_sense_24 : decode cX2_sense 24 = .ok (.invokevirtual 52, 3) := by decide +kernel
theorem dX2_sense_27 : decode cX2_sense 27 = .ok (.goto 7, 3) := by decide +kernel
theorem dX2_sense_30 : decode cX2_sense 30 = .ok (.aload_n 0, 1) := by decide +kernel
theorem dX2_sense_31 : decode cX2_sense 31 = .ok (.invokevirtual 55, 3) := by decide +kernel
theorem dX2_sense_34 : decode cX2_sense 34 = .ok (.aload_n 0, 1) := by decide +kernel
theorem dX2_sense_35 : decode cX2_sense 35 = .ok (.getfield 28, 3) := by decide +kernel
theorem dX2_sense_38 : decode cX2_sense 38 = .ok (.iconst 3, 1) := by decide +kernel
theorem dX2_sense_39 : decode cX2_sense 39 = .ok (.if_icmp .lt 8, 3) := by decide +kernel
theorem dX2_sense_42 : decode cX2_sense 42 = .ok (.aload_n 0, 1) := by decide +kernel
theorem dX2_sense_43 : decode cX2_sense 43 = .ok (.iconst 1, 1) := by decide +kernel
theorem dX2_sense_44 : decode cX2_sense 44 = .ok (.putfield 31, 3) := by decide +kernel
theorem dX2_sense_47 : decode cX2_sense 47 = .ok (.return_, 1) := by decide +kernel
theorem dX2_calmDown_0 : decode cX2_calmDown 0 = .ok (.aload_n 0, 1) := by decide +kernel
theorem dX2_calmDown_1 : decode cX2_calmDown 1 = .ok (.iconst 0, 1) := by decide +kernel
theorem dX2_calmDown_2 : decode cX2_calmDown 2 = .ok (.putfield 31, 3) := by decide +kernel
theorem dX2_calmDown_5 : decode cX2_calmDown 5 = .ok (.aload_n 0, 1) := by decide +kernel
theorem dX2_calmDown_6 : decode cX2_calmDown 6 = .ok (.iconst 0, 1) := by decide +kernel
theorem dX2_calmDown_7 : decode cX2_calmDown 7 = .ok (.putfield 28, 3) := by decide +kernel
theorem dX2_calmDown_10 : decode cX2_calmDown 10 = .ok (.return_, 1) := by decide +kernel
set_option maxRecDepth 20000 in
theorem ggX2_senseSmoke_X2_countOver : GoodIn wsX2_senseSmoke wsX2_countOver := goodIn_r _ [11, 3, 12, 5, 13, 14, 15, 16, 17, 18, 19, 20, 21, 22, 23] (by decide +kernel) (by decide +kernel)
set_option maxRecDepth 20000 in
theorem gX2_senseSmoke_X2_countOver : GoodIn wsX2_senseSmoke (wsV RX2 62 RX2 yX2_countOver wsX2_countOver) := goodIn_app (goodIn_of _ (by decide +kernel)) ggX2_senseSmoke_X2_countOver
theorem dX2_senseSmoke_0 : decode cX2_senseSmoke 0 = .ok (.aload_n 0, 1) := by decide +kernel
theorem dX2_senseSmoke_1 : decode cX2_senseSmoke 1 = .ok (.getfield 58, 3) := by decide +kernel
theorem dX2_senseSmoke_4 : decode cX2_senseSmoke 4 = .ok (.aload_n 0, 1) := by decide +kernel
theorem dX2_senseSmoke_5 : decode cX2_senseSmoke 5 = .ok (.getfield 22, 3) := by decide +kernel
theorem dX2_senseSmoke_8 : decode cX2_senseSmoke 8 = .ok (.fsub, 1) := by decide +kernel
theorem dX2_senseSmoke_9 : decode cX2_senseSmoke 9 = .ok (.fstore_n 1, 1) := by decide +kernel
theorem dX2_senseSmoke_10 : decode cX2_senseSmoke 10 = .ok (.aload_n 0, 1) := by decide +kernel
theorem dX2_senseSmoke_11 : decode cX2_senseSmoke 11 = .ok (.aload_n 0, 1) := by decide +kernel
theorem dX2_senseSmoke_12 : decode cX2_senseSmoke 12 = .ok (.getfield 25, 3) := by decide +kernel
theorem dX2_senseSmoke_15 : decode cX2_senseSmoke 15 = .ok (.fload_n 1, 1) := by decide +kernel
theorem dX2_senseSmoke_16 : decode cX2_senseSmoke 16 = .ok (.aload_n 0, 1) := by decide +kernel
theorem dX2_senseSmoke_17 : decode cX2_senseSmoke 17 = .ok (.getfield 25, 3) := by decide +kernel
theorem dX2_senseSmoke_20 : decode cX2_senseSmoke 20 = .ok (.fsub, 1) := by decide +kernel
theorem dX2_senseSmoke_21 : decode cX2_senseSmoke 21 = .ok (.ldc 61, 2) := by decide +kernel
theorem dX2_senseSmoke_23 : decode cX2_senseSmoke 23 = .ok (.fmul, 1) := by decide +kernel
theorem dX2_senseSmoke_24 : decode cX2_senseSmoke 24 = .ok (.fadd, 1) := by decide +kernel
theorem dX2_senseSmoke_25 : decode cX2_senseSmoke 25 = .ok (.putfield 25, 3) := by decide +kernel
theorem dX2_senseSmoke_28 : decode cX2_senseSmoke 28 = .ok (.aload_n 0, 1) := by decide +kernel
theorem dX2_senseSmoke_29 : decode cX2_senseSmoke 29 = .ok (.invokevirtual 62, 3) := by decide +kernel
theorem dX2_senseSmoke_32 : decode cX2_senseSmoke 32 = .ok (.aload_n 0, 1) := by decide +kernel
theorem dX2_senseSmoke_33 : decode cX2_senseSmoke 33 = .ok (.getfield 28, 3) := by decide +kernel
theorem dX2_senseSmoke_36 : decode cX2_senseSmoke 36 = .ok (.ifCond .ne 16, 3) := by decide +kernel
theorem dX2_senseSmoke_39 : decode cX2_senseSmoke 39 = .ok (.aload_n 0, 1) := by decide +kernel
theorem dX2_senseSmoke_40 : decode cX2_senseSmoke 40 = .ok (.aload_n 0, 1) := by decide +kernel
theorem dX2_senseSmoke_41 : decode cX2_senseSmoke 41 = .ok (.getfield 22, 3) := by decide +kernel
theorem dX2_senseSmoke_44 : decode cX2_senseSmoke 44 = .ok (.fload_n 1, 1) := by decide +kernel
theorem dX2_senseSmoke_45 : decode cX2_senseSmoke 45 = .ok (.ldc 65, 2) := by decide +kernel
theorem dX2_senseSmoke_47 : decode cX2_senseSmoke 47 = .ok (.fmul, 1) := by decide +kernel
theorem dX2_senseSmoke_48 : decode cX2_senseSmoke 48 = .ok (.fadd, 1) := by decide +kernel
theorem dX2_senseSmoke_49 : decode cX2_senseSmoke 49 = .ok (.putfield 22, 3) := by decide +kernel
theorem dX2_senseSmoke_52 : decode cX2_senseSmoke 52 = .ok (.return_, 1) := by decide +kernel
set_option maxRecDepth 20000 in
theorem ggX2_senseHeat_X2_countOver : GoodIn wsX2_senseHeat wsX2_countOver := goodIn_r _ [10, 5, 11, 12, 13, 14, 15, 16, 17, 18, 19, 20, 21, 22, 23] (by decide +kernel) (by decide +kernel)
set_option maxRecDepth 20000 in
theorem gX2_senseHeat_X2_countOver : GoodIn wsX2_senseHeat (wsV RX2 62 RX2 yX2_countOver wsX2_countOver) := goodIn_app (goodIn_of _ (by decide +kernel)) ggX2_senseHeat_X2_countOver
theorem dX2_senseHeat_0 : decode cX2_senseHeat 0 = .ok (.aload_n 0, 1) := by decide +kernel
theorem dX2_senseHeat_1 : decode cX2_senseHeat 1 = .ok (.aload_n 0, 1) := by decide +kernel
theorem dX2_senseHeat_2 : decode cX2_senseHeat 2 = .ok (.getfield 58, 3) := by decide +kernel
theorem dX2_senseHeat_5 : decode cX2_senseHeat 5 = .ok (.aload_n 0, 1) := by decide +kernel
theorem dX2_senseHeat_6 : decode cX2_senseHeat 6 = .ok (.getfield 22, 3) := by decide +kernel
theorem dX2_senseHeat_9 : decode cX2_senseHeat 9 = .ok (.fsub, 1) := by decide +kernel
theorem dX2_senseHeat_10 : decode cX2_senseHeat 10 = .ok (.ldc 66, 2) := by decide +kernel
theorem dX2_senseHeat_12 : decode cX2_senseHeat 12 = .ok (.fmul, 1) := by decide +kernel
theorem dX2_senseHeat_13 : decode cX2_senseHeat 13 = .ok (.aload_n 0, 1) := by decide +kernel
theorem dX2_senseHeat_14 : decode cX2_senseHeat 14 = .ok (.getfield 58, 3) := by decide +kernel
theorem dX2_senseHeat_17 : decode cX2_senseHeat 17 = .ok (.ldc 67, 2) := by decide +kernel
theorem dX2_senseHeat_19 : decode cX2_senseHeat 19 = .ok (.fmul, 1) := by decide +kernel
theorem dX2_senseHeat_20 : decode cX2_senseHeat 20 = .ok (.fadd, 1) := by decide +kernel
theorem dX2_senseHeat_21 : decode cX2_senseHeat 21 = .ok (.putfield 25, 3) := by decide +kernel
theorem dX2_senseHeat_24 : decode cX2_senseHeat 24 = .ok (.aload_n 0, 1) := by decide +kernel
theorem dX2_senseHeat_25 : decode cX2_senseHeat 25 = .ok (.aload_n 0, 1) := by decide +kernel
theorem dX2_senseHeat_26 : decode cX2_senseHeat 26 = .ok (.getfield 58, 3) := by decide +kernel
theorem dX2_senseHeat_29 : decode cX2_senseHeat 29 = .ok (.putfield 22, 3) := by decide +kernel
theorem dX2_senseHeat_32 : decode cX2_senseHeat 32 = .ok (.aload_n 0, 1) := by decide +kernel
theorem dX2_senseHeat_33 : decode cX2_senseHeat 33 = .ok (.invokevirtual 62, 3) := by decide +kernel
theorem dX2_senseHeat_36 : decode cX2_senseHeat 36 = .ok (.return_, 1) := by decide +kernel
theorem dX2_senseButton_0 : decode cX2_senseButton 0 = .ok (.aload_n 0, 1) := by decide +kernel
theorem dX2_senseButton_1 : decode cX2_senseButton 1 = .ok (.getfield 58, 3) := by decide +kernel
theorem dX2_senseButton_4 : decode cX2_senseButton 4 = .ok (.fconst 0, 1) := by decide +kernel
theorem dX2_senseButton_5 : decode cX2_senseButton 5 = .ok (.fcmp .l, 1) := by decide +kernel
theorem dX2_senseButton_6 : decode cX2_senseButton 6 = .ok (.ifCond .le 8, 3) := by decide +kernel
theorem dX2_senseButton_9 : decode cX2_senseButton 9 = .ok (.aload_n 0, 1) := by decide +kernel
theorem dX2_senseButton_10 : decode cX2_senseButton 10 = .ok (.iconst 3, 1) := by decide +kernel
theorem dX2_senseButton_11 : decode cX2_senseButton 11 = .ok (.putfield 28, 3) := by decide +kernel
theorem dX2_senseButton_14 : decode cX2_senseButton 14 = .ok (.aload_n 0, 1) := by decide +kernel
theorem dX2_senseButton_15 : decode cX2_senseButton 15 = .ok (.aload_n 0, 1) := by decide +kernel
theorem dX2_senseButton_16 : decode cX2_senseButton 16 = .ok (.getfield 58, 3) := by decide +kernel
theorem dX2_senseButton_19 : decode cX2_senseButton 19 = .ok (.putfield 25, 3) := by decide +kernel
theorem dX2_senseButton_22 : decode cX2_senseButton 22 = .ok (.return_, 1) := by decide +kernel
theorem dX2_countOver_0 : decode cX2_countOver 0 = .ok (.aload_n 0, 1) := by decide +kernel
theorem dX2_countOver_1 : decode cX2_countOver 1 = .ok (.aload_n 0, 1) := by decide +kernel
theorem dX2_countOver_2 : decode cX2_countOver 2 = .ok (.getfield 25, 3) := by decide +kernel
theorem dX2_countOver_5 : decode cX2_countOver 5 = .ok (.aload_n 0, 1) := by decide +kernel
theorem dX2_countOver_6 : decode cX2_countOver 6 = .ok (.getfield 18, 3) := by decide +kernel
theorem dX2_countOver_9 : decode cX2_countOver 9 = .ok (.fcmp .l, 1) := by decide +kernel
theorem dX2_countOver_10 : decode cX2_countOver 10 = .ok (.ifCond .lt 12, 3) := by decide +kernel
theorem dX2_countOver_13 : decode cX2_countOver 13 = .ok (.aload_n 0, 1) := by decide +kernel
theorem dX2_countOver_14 : decode cX2_countOver 14 = .ok (.getfield 28, 3) := by decide +kernel
theorem dX2_countOver_17 : decode cX2_countOver 17 = .ok (.iconst 1, 1) := by decide +kernel
theorem dX2_countOver_18 : decode cX2_countOver 18 = .ok (.iadd, 1) := by decide +kernel
theorem dX2_countOver_19 : decode cX2_countOver 19 = .ok (.goto 4, 3) := by decide +kernel
theorem dX2_countOver_22 : decode cX2_countOver 22 = .ok (.iconst 0, 1) := by decide +kernel
theorem dX2_countOver_23 : decode cX2_countOver 23 = .ok (.putfield 28, 3) := by decide +kernel
theorem dX2_countOver_26 : decode cX2_countOver 26 = .ok (.return_, 1) := by decide +kernel
set_option maxRecDepth 20000 in
theorem ggX3_init_X2_init : GoodIn wsX3_init wsX2_init := goodIn_r _ [12, 13, 2, 3] (by decide +kernel) (by decide +kernel)
set_option maxRecDepth 20000 in
theorem gX3_init_X2_init : GoodIn wsX3_init (wsX2_init) := ggX3_init_X2_init
theorem dX3_init_0 : decode cX3_init 0 = .ok (.aload_n 0, 1) := by decide +kernel
theorem dX3_init_1 : decode cX3_init 1 = .ok (.invokespecial 3, 3) := by decide +kernel
theorem dX3_init_4 : decode cX3_init 4 = .ok (.aload_n 0, 1) := by decide +kernel
theorem dX3_init_5 : decode cX3_init 5 = .ok (.bipush 16, 2) := by decide +kernel
theorem dX3_init_7 : decode cX3_init 7 = .ok (.anewarray 9, 3) := by decide +kernel
theorem dX3_init_10 : decode cX3_init 10 = .ok (.putfield 11, 3) := by decide +kernel
theorem dX3_init_13 : decode cX3_init 13 = .ok (.iconst 0, 1) := by decide +kernel
theorem dX3_init_14 : decode cX3_init 14 = .ok (.istore_n 1, 1) := by decide +kernel
theorem dX3_init_15 : decode cX3_init 15 = .ok (.iload_n 1, 1) := by decide +kernel
theorem dX3_init_16 : decode cX3_init 16 = .ok (.bipush 16, 2) := by decide +kernel
theorem dX3_init_18 : decode cX3_init 18 = .ok (.if_icmp .ge 22, 3) := by decide +kernel
theorem dX3_init_21 : decode cX3_init 21 = .ok (.aload_n 0, 1) := by decide +kernel
theorem dX3_init_22 : decode cX3_init 22 = .ok (.getfield 11, 3) := by decide +kernel
theorem dX3_init_25 : decode cX3_init 25 = .ok (.iload_n 1, 1) := by decide +kernel
theorem dX3_init_26 : decode cX3_init 26 = .ok (.new 9, 3) := by decide +kernel
theorem dX3_init_29 : decode cX3_init 29 = .ok (.dup, 1) := by decide +kernel
theorem dX3_init_30 : decode cX3_init 30 = .ok (.invokespecial 17, 3) := by decide +kernel
theorem dX3_init_33 : decode cX3_init 33 = .ok (.aastore, 1) := by decide +kernel
theorem dX3_init_34 : decode cX3_init 34 = .ok (.iinc 1 1, 3) := by decide +kernel
theorem dX3_init_37 : decode cX3_init 37 = .ok (.goto (-22), 3) := by decide +kernel
theorem dX3_init_40 : decode cX3_init 40 = .ok (.aload_n 0, 1) := by decide +kernel
theorem dX3_init_41 : decode cX3_init 41 = .ok (.bipush 17, 2) := by decide +kernel
theorem dX3_init_43 : decode cX3_init 43 = .ok (.newarray .int, 2) := by decide +kernel
theorem dX3_init_45 : decode cX3_init 45 = .ok (.putfield 18, 3) := by decide +kernel
theorem dX3_init_48 : decode cX3_init 48 = .ok (.return_, 1) := by decide +kernel
set_option maxRecDepth 20000 in
theorem ggX3_reachedPlaces_X3_passableWires : GoodIn wsX3_reachedPlaces wsX3_passableWires := goodIn_r _ [5, 6, 7, 8, 9, 4, 10, 11, 12, 13, 14, 15, 16, 17, 18, 19, 20, 21, 22, 23, 24, 25] (by decide +kernel) (by decide +kernel)
set_option maxRecDepth 20000 in
theorem gX3_reachedPlaces_X3_passableWires : GoodIn wsX3_reachedPlaces (wsV RX3 22 RX3 yX3_passableWires wsX3_passableWires) := goodIn_app (goodIn_of _ (by decide +kernel)) ggX3_reachedPlaces_X3_passableWires
theorem dX3_reachedPlaces_0 : decode cX3_reachedPlaces 0 = .ok (.aload_n 0, 1) := by decide +kernel
theorem dX3_reachedPlaces_1 : decode cX3_reachedPlaces 1 = .ok (.invokevirtual 22, 3) := by decide +kernel
theorem dX3_reachedPlaces_4 : decode cX3_reachedPlaces 4 = .ok (.istore_n 1, 1) := by decide +kernel
theorem dX3_reachedPlaces_5 : decode cX3_reachedPlaces 5 = .ok (.iconst 0, 1) := by decide +kernel
theorem dX3_reachedPlaces_6 : decode cX3_reachedPlaces 6 = .ok (.istore_n 2, 1) := by decide +kernel
theorem dX3_reachedPlaces_7 : decode cX3_reachedPlaces 7 = .ok (.iconst 0, 1) := by decide +kernel
theorem dX3_reachedPlaces_8 : decode cX3_reachedPlaces 8 = .ok (.istore_n 3, 1) := by decide +kernel
theorem dX3_reachedPlaces_9 : decode cX3_reachedPlaces 9 = .ok (.iload_n 3, 1) := by decide +kernel
theorem dX3_reachedPlaces_10 : decode cX3_reachedPlaces 10 = .ok (.bipush 16, 2) := by decide +kernel
theorem dX3_reachedPlaces_12 : decode cX3_reachedPlaces 12 = .ok (.if_icmp .ge 23, 3) := by decide +kernel
theorem dX3_reachedPlaces_15 : decode cX3_reachedPlaces 15 = .ok (.iload_n 1, 1) := by decide +kernel
theorem dX3_reachedPlaces_16 : decode cX3_reachedPlaces 16 = .ok (.iload_n 3, 1) := by decide +kernel
theorem dX3_reachedPlaces_17 : decode cX3_reachedPlaces 17 = .ok (.ishr, 1) := by decide +kernel
theorem dX3_reachedPlaces_18 : decode cX3_reachedPlaces 18 = .ok (.iconst 1, 1) := by decide +kernel
theorem dX3_reachedPlaces_19 : decode cX3_reachedPlaces 19 = .ok (.iand, 1) := by decide +kernel
theorem dX3_reachedPlaces_20 : decode cX3_reachedPlaces 20 = .ok (.ifCond .eq 15, 3) := by decide +kernel
theorem dX3_reachedPlaces_23 : decode cX3_reachedPlaces 23 = .ok (.iload_n 2, 1) := by decide +kernel
theorem dX3_reachedPlaces_24 : decode cX3_reachedPlaces 24 = .ok (.iconst 1, 1) := by decide +kernel
theorem dX3_reachedPlaces_25 : decode cX3_reachedPlaces 25 = .ok (.iload_n 3, 1) := by decide +kernel
theorem dX3_reachedPlaces_26 : decode cX3_reachedPlaces 26 = .ok (.ishl, 1) := by decide +kernel
theorem dX3_reachedPlaces_27 : decode cX3_reachedPlaces 27 = .ok (.ior, 1) := by decide +kernel
theorem dX3_reachedPlaces_28 : decode cX3_reachedPlaces 28 = .ok (.istore_n 2, 1) := by decide +kernel
theorem dX3_reachedPlaces_29 : decode cX3_reachedPlaces 29 = .ok (.iinc 3 1, 3) := by decide +kernel
theorem dX3_reachedPlaces_32 : decode cX3_reachedPlaces 32 = .ok (.goto (-23), 3) := by decide +kernel
theorem dX3_reachedPlaces_35 : decode cX3_reachedPlaces 35 = .ok (.bipush 15, 2) := by decide +kernel
theorem dX3_reachedPlaces_37 : decode cX3_reachedPlaces 37 = .ok (.istore_n 3, 1) := by decide +kernel
theorem dX3_reachedPlaces_38 : decode cX3_reachedPlaces 38 = .ok (.iload_n 3, 1) := by decide +kernel
theorem dX3_reachedPlaces_39 : decode cX3_reachedPlaces 39 = .ok (.ifCond .lt 25, 3) := by decide +kernel
theorem dX3_reachedPlaces_42 : decode cX3_reachedPlaces 42 = .ok (.iload_n 1, 1) := by decide +kernel
theorem dX3_reachedPlaces_43 : decode cX3_reachedPlaces 43 = .ok (.iload_n 3, 1) := by decide +kernel
theorem dX3_reachedPlaces_44 : decode cX3_reachedPlaces 44 = .ok (.iconst 1, 1) := by decide +kernel
theorem dX3_reachedPlaces_45 : decode cX3_reachedPlaces 45 = .ok (.iadd, 1) := by decide +kernel
theorem dX3_reachedPlaces_46 : decode cX3_reachedPlaces 46 = .ok (.ishr, 1) := by decide +kernel
theorem dX3_reachedPlaces_47 : decode cX3_reachedPlaces 47 = .ok (.iconst 1, 1) := by decide +kernel
theorem dX3_reachedPlaces_48 : decode cX3_reachedPlaces 48 = .ok (.iand, 1) := by decide +kernel
theorem dX3_reachedPlaces_49 : decode cX3_reachedPlaces 49 = .ok (.ifCond .eq 15, 3) := by decide +kernel
theorem dX3_reachedPlaces_52 : decode cX3_reachedPlaces 52 = .ok (.iload_n 2, 1) := by decide +kernel
theorem dX3_reachedPlaces_53 : decode cX3_reachedPlaces 53 = .ok (.iconst 1, 1) := by decide +kernel
theorem dX3_reachedPlaces_54 : decode cX3_reachedPlaces 54 = .ok (.iload_n 3, 1) := by decide +kernel
theorem dX3_reachedPlaces_55 : decode cX3_reachedPlaces 55 = .ok (.ishl, 1) := by decide +kernel
theorem dX3_reachedPlaces_56 : decode cX3_reachedPlaces 56 = .ok (.ior, 1) := by decide +kernel
theorem dX3_reachedPlaces_57 : decode cX3_reachedPlaces 57 = .ok (.istore_n 2, 1) := by decide +kernel
theorem dX3_reachedPlaces_58 : decode cX3_reachedPlaces 58 = .ok (.iinc 3 (-1), 3) := by decide +kernel
theorem dX3_reachedPlaces_61 : decode cX3_reachedPlaces 61 = .ok (.goto (-23), 3) := by decide +kernel
theorem dX3_reachedPlaces_64 : decode cX3_reachedPlaces 64 = .ok (.iload_n 2, 1) := by decide +kernel
theorem dX3_reachedPlaces_65 : decode cX3_reachedPlaces 65 = .ok (.ireturn, 1) := by decide +kernel
set_option maxRecDepth 20000 in
theorem ggX3_passableWires_X3_endsStretch : GoodIn wsX3_passableWires wsX3_endsStretch := goodIn_r _ [6, 7, 8, 9, 10, 11, 12, 13, 14, 15, 16, 17, 18, 19, 20, 21] (by decide +kernel) (by decide +kernel)
set_option maxRecDepth 20000 in
theorem gX3_passableWires_X3_endsStretch : GoodIn wsX3_passableWires (wsV RX3 26 RX3 yX3_endsStretch wsX3_endsStretch) := goodIn_app (goodIn_of _ (by decide +kernel)) ggX3_passableWires_X3_endsStretch
theorem dX3_passableWires_0 : decode cX3_passableWires 0 = .ok (.iconst 0, 1) := by decide +kernel
theorem dX3_passableWires_1 : decode cX3_passableWires 1 = .ok (.istore_n 1, 1) := by decide +kernel
theorem dX3_passableWires_2 : decode cX3_passableWires 2 = .ok (.iconst 0, 1) := by decide +kernel
theorem dX3_passableWires_3 : decode cX3_passableWires 3 = .ok (.istore_n 2, 1) := by decide +kernel
theorem dX3_passableWires_4 : decode cX3_passableWires 4 = .ok (.iconst 0, 1) := by decide +kernel
theorem dX3_passableWires_5 : decode cX3_passableWires 5 = .ok (.istore_n 3, 1) := by decide +kernel
theorem dX3_passableWires_6 : decode cX3_passableWires 6 = .ok (.iconst 0, 1) := by decide +kernel
theorem dX3_passableWires_7 : decode cX3_passableWires 7 = .ok (.istore 4, 2) := by decide +kernel
theorem dX3_passableWires_9 : decode cX3_passableWires 9 = .ok (.iload 4, 2) := by decide +kernel
theorem dX3_passableWires_11 : decode cX3_passableWires 11 = .ok (.bipush 17, 2) := by decide +kernel
theorem dX3_passableWires_13 : decode cX3_passableWires 13 = .ok (.if_icmp .ge 72, 3) := by decide +kernel
theorem dX3_passableWires_16 : decode cX3_passableWires 16 = .ok (.aload_n 0, 1) := by decide +kernel
theorem dX3_passableWires_17 : decode cX3_passableWires 17 = .ok (.getfield 18, 3) := by decide +kernel
theorem dX3_passableWires_20 : decode cX3_passableWires 20 = .ok (.iload 4, 2) := by decide +kernel
theorem dX3_passableWires_22 : decode cX3_passableWires 22 = .ok (.iaload, 1) := by decide +kernel
theorem dX3_passableWires_23 : decode cX3_passableWires 23 = .ok (.ifCond .ne 10, 3) := by decide +kernel
theorem dX3_passableWires_26 : decode cX3_passableWires 26 = .ok (.iload_n 2, 1) := by decide +kernel
theorem dX3_passableWires_27 : decode cX3_passableWires 27 = .ok (.iconst 1, 1) := by decide +kernel
theorem dX3_passableWires_28 : decode cX3_passableWires 28 = .ok (.iload 4, 2) := by decide +kernel
theorem dX3_passableWires_30 : decode cX3_passableWires 30 = .ok (.ishl, 1) := by decide +kernel
theorem dX3_passableWires_31 : decode cX3_passableWires 31 = .ok (.ior, 1) := by decide +kernel
theorem dX3_passableWires_32 : decode cX3_passableWires 32 = .ok (.istore_n 2, 1) := by decide +kernel
theorem dX3_passableWires_33 : decode cX3_passableWires 33 = .ok (.iload_n 3, 1) := by decide +kernel
theorem dX3_passableWires_34 : decode cX3_passableWires 34 = .ok (.ifCond .ne 14, 3) := by decide +kernel
theorem dX3_passableWires_37 : decode cX3_passableWires 37 = .ok (.aload_n 0, 1) := by decide +kernel
theorem dX3_passableWires_38 : decode cX3_passableWires 38 = .ok (.getfield 18, 3) := by decide +kernel
theorem dX3_passableWires_41 : decode cX3_passableWires 41 = .ok (.iload 4, 2) := by decide +kernel
theorem dX3_passableWires_43 : decode cX3_passableWires 43 = .ok (.iaload, 1) := by decide +kernel
theorem dX3_passableWires_44 : decode cX3_passableWires 44 = .ok (.iconst 2, 1) := by decide +kernel
theorem dX3_passableWires_45 : decode cX3_passableWires 45 = .ok (.if_icmp .ne 7, 3) := by decide +kernel
theorem dX3_passableWires_48 : decode cX3_passableWires 48 = .ok (.iconst 1, 1) := by decide +kernel
theorem dX3_passableWires_49 : decode cX3_passableWires 49 = .ok (.goto 4, 3) := by decide +kernel
theorem dX3_passableWires_52 : decode cX3_passableWires 52 = .ok (.iconst 0, 1) := by decide +kernel
theorem dX3_passableWires_53 : decode cX3_passableWires 53 = .ok (.istore_n 3, 1) := by decide +kernel
theorem dX3_passableWires_54 : decode cX3_passableWires 54 = .ok (.aload_n 0, 1) := by decide +kernel
theorem dX3_passableWires_55 : decode cX3_passableWires 55 = .ok (.iload 4, 2) := by decide +kernel
theorem dX3_passableWires_57 : decode cX3_passableWires 57 = .ok (.invokevirtual 26, 3) := by decide +kernel
theorem dX3_passableWires_60 : decode cX3_passableWires 60 = .ok (.ifCond .eq 19, 3) := by decide +kernel
theorem dX3_passableWires_63 : decode cX3_passableWires 63 = .ok (.iload_n 1, 1) := by decide +kernel
theorem dX3_passableWires_64 : decode cX3_passableWires 64 = .ok (.iload_n 3, 1) := by decide +kernel
theorem dX3_passableWires_65 : decode cX3_passableWires 65 = .ok (.ifCond .eq 7, 3) := by decide +kernel
theorem dX3_passableWires_68 : decode cX3_passableWires 68 = .ok (.iconst 0, 1) := by decide +kernel
theorem dX3_passableWires_69 : decode cX3_passableWires 69 = .ok (.goto 4, 3) := by decide +kernel
theorem dX3_passableWires_72 : decode cX3_passableWires 72 = .ok (.iload_n 2, 1) := by decide +kernel
theorem dX3_passableWires_73 : decode cX3_passableWires 73 = .ok (.ior, 1) := by decide +kernel
theorem dX3_passableWires_74 : decode cX3_passableWires 74 = .ok (.istore_n 1, 1) := by decide +kernel
theorem dX3_passableWires_75 : decode cX3_passableWires 75 = .ok (.iconst 0, 1) := by decide +kernel
theorem dX3_passableWires_76 : decode cX3_passableWires 76 = .ok (.istore_n 2, 1) := by decide +kernel
theorem dX3_passableWires_77 : decode cX3_passableWires 77 = .ok (.iconst 0, 1) := by decide +kernel
theorem dX3_passableWires_78 : decode cX3_passableWires 78 = .ok (.istore_n 3, 1) := by decide +kernel
theorem dX3_passableWires_79 : decode cX3_passableWires 79 = .ok (.iinc 4 1, 3) := by decide +kernel
theorem dX3_passableWires_82 : decode cX3_passableWires 82 = .ok (.goto (-73), 3) := by decide +kernel
theorem dX3_passableWires_85 : decode cX3_passableWires 85 = .ok (.iload_n 1, 1) := by decide +kernel
theorem dX3_passableWires_86 : decode cX3_passableWires 86 = .ok (.ireturn, 1) := by decide +kernel
theorem dX3_endsStretch_0 : decode cX3_endsStretch 0 = .ok (.iload_n 1, 1) := by decide +kernel
theorem dX3_endsStretch_1 : decode cX3_endsStretch 1 = .ok (.ifCond .lt 22, 3) := by decide +kernel
theorem dX3_endsStretch_4 : decode cX3_endsStretch 4 = .ok (.iload_n 1, 1) := by decide +kernel
theorem dX3_endsStretch_5 : decode cX3_endsStretch 5 = .ok (.bipush 16, 2) := by decide +kernel
theorem dX3_endsStretch_7 : decode cX3_endsStretch 7 = .ok (.if_icmp .ge 16, 3) := by decide +kernel
theorem dX3_endsStretch_10 : decode cX3_endsStretch 10 = .ok (.aload_n 0, 1) := by decide +kernel
theorem dX3_endsStretch_11 : decode cX3_endsStretch 11 = .ok (.getfield 11, 3) := by decide +kernel
theorem dX3_endsStretch_14 : decode cX3_endsStretch 14 = .ok (.iload_n 1, 1) := by decide +kernel
theorem dX3_endsStretch_15 : decode cX3_endsStretch 15 = .ok (.aaload, 1) := by decide +kernel
theorem dX3_endsStretch_16 : decode cX3_endsStretch 16 = .ok (.getfield 30, 3) := by decide +kernel
theorem dX3_endsStretch_19 : decode cX3_endsStretch 19 = .ok (.iconst 4, 1) := by decide +kernel
theorem dX3_endsStretch_20 : decode cX3_endsStretch 20 = .ok (.if_icmp .ne 7, 3) := by decide +kernel
theorem dX3_endsStretch_23 : decode cX3_endsStretch 23 = .ok (.iconst 1, 1) := by decide +kernel
theorem dX3_endsStretch_24 : decode cX3_endsStretch 24 = .ok (.goto 4, 3) := by decide +kernel
theorem dX3_endsStretch_27 : decode cX3_endsStretch 27 = .ok (.iconst 0, 1) := by decide +kernel
theorem dX3_endsStretch_28 : decode cX3_endsStretch 28 = .ok (.ireturn, 1) := by decide +kernel
theorem dX4_init_0 : decode cX4_init 0 = .ok (.aload_n 0, 1) := by decide +kernel
theorem dX4_init_1 : decode cX4_init 1 = .ok (.invokespecial 3, 3) := by decide +kernel
theorem dX4_init_4 : decode cX4_init 4 = .ok (.aload_n 0, 1) := by decide +kernel
theorem dX4_init_5 : decode cX4_init 5 = .ok (.bipush 20, 2) := by decide +kernel
theorem dX4_init_7 : decode cX4_init 7 = .ok (.newarray .int, 2) := by decide +kernel
theorem dX4_init_9 : decode cX4_init 9 = .ok (.putfield 9, 3) := by decide +kernel
theorem dX4_init_12 : decode cX4_init 12 = .ok (.return_, 1) := by decide +kernel
theorem dX4_clear_0 : decode cX4_clear 0 = .ok (.aload_n 0, 1) := by decide +kernel
theorem dX4_clear_1 : decode cX4_clear 1 = .ok (.iconst 0, 1) := by decide +kernel
theorem dX4_clear_2 : decode cX4_clear 2 = .ok (.putfield 15, 3) := by decide +kernel
theorem dX4_clear_5 : decode cX4_clear 5 = .ok (.aload_n 0, 1) := by decide +kernel
theorem dX4_clear_6 : decode cX4_clear 6 = .ok (.iconst 0, 1) := by decide +kernel
theorem dX4_clear_7 : decode cX4_clear 7 = .ok (.putfield 19, 3) := by decide +kernel
theorem dX4_clear_10 : decode cX4_clear 10 = .ok (.aload_n 0, 1) := by decide +kernel
theorem dX4_clear_11 : decode cX4_clear 11 = .ok (.iconst 0, 1) := by decide +kernel
theorem dX4_clear_12 : decode cX4_clear 12 = .ok (.putfield 22, 3) := by decide +kernel
theorem dX4_clear_15 : decode cX4_clear 15 = .ok (.aload_n 0, 1) := by decide +kernel
theorem dX4_clear_16 : decode cX4_clear 16 = .ok (.iconst 0, 1) := by decide +kernel
theorem dX4_clear_17 : decode cX4_clear 17 = .ok (.putfield 25, 3) := by decide +kernel
theorem dX4_clear_20 : decode cX4_clear 20 = .ok (.return_, 1) := by decide +kernel
theorem dX4_addStep_0 : decode cX4_addStep 0 = .ok (.aload_n 0, 1) := by decide +kernel
theorem dX4_addStep_1 : decode cX4_addStep 1 = .ok (.getfield 15, 3) := by decide +kernel
theorem dX4_addStep_4 : decode cX4_addStep 4 = .ok (.ifCond .lt 32, 3) := by decide +kernel
theorem dX4_addStep_7 : decode cX4_addStep 7 = .ok (.aload_n 0, 1) := by decide +kernel
theorem dX4_addStep_8 : decode cX4_addStep 8 = .ok (.getfield 15, 3) := by decide +kernel
theorem dX4_addStep_11 : decode cX4_addStep 11 = .ok (.bipush 20, 2) := by decide +kernel
theorem dX4_addStep_13 : decode cX4_addStep 13 = .ok (.if_icmp .ge 23, 3) := by decide +kernel
theorem dX4_addStep_16 : decode cX4_addStep 16 = .ok (.aload_n 0, 1) := by decide +kernel
theorem dX4_addStep_17 : decode cX4_addStep 17 = .ok (.getfield 9, 3) := by decide +kernel
theorem dX4_addStep_20 : decode cX4_addStep 20 = .ok (.aload_n 0, 1) := by decide +kernel
theorem dX4_addStep_21 : decode cX4_addStep 21 = .ok (.getfield 15, 3) := by decide +kernel
theorem dX4_addStep_24 : decode cX4_addStep 24 = .ok (.iload_n 1, 1) := by decide +kernel
theorem dX4_addStep_25 : decode cX4_addStep 25 = .ok (.iastore, 1) := by decide +kernel
theorem dX4_addStep_26 : decode cX4_addStep 26 = .ok (.aload_n 0, 1) := by decide +kernel
theorem dX4_addStep_27 : decode cX4_addStep 27 = .ok (.dup, 1) := by decide +kernel
theorem dX4_addStep_28 : decode cX4_addStep 28 = .ok (.getfield 15, 3) := by decide +kernel
theorem dX4_addStep_31 : decode cX4_addStep 31 = .ok (.iconst 1, 1) := by decide +kernel
theorem dX4_addStep_32 : decode cX4_addStep 32 = .ok (.iadd, 1) := by decide +kernel
theorem dX4_addStep_33 : decode cX4_addStep 33 = .ok (.putfield 15, 3) := by decide +kernel
theorem dX4_addStep_36 : decode cX4_addStep 36 = .ok (.return_, 1) := by decide +kernel
set_option maxRecDepth 20000 in
theorem ggX4_isTrue_X4_workOff : GoodIn wsX4_isTrue wsX4_workOff := goodIn_r _ [6] (by decide +kernel) (by decide +kernel)
set_option maxRecDepth 20000 in
theorem gX4_isTrue_X4_workOff : GoodIn wsX4_isTrue (va_wsS RX4 28 yX4_workOff wsX4_workOff) := goodIn_app (goodIn_of _ (by decide +kernel)) ggX4_isTrue_X4_workOff
theorem dX4_isTrue_0 : decode cX4_isTrue 0 = .ok (.iconst 0, 1) := by decide +kernel
theorem dX4_isTrue_1 : decode cX4_isTrue 1 = .ok (.istore_n 2, 1) := by decide +kernel
theorem dX4_isTrue_2 : decode cX4_isTrue 2 = .ok (.iconst 0, 1) := by decide +kernel
theorem dX4_isTrue_3 : decode cX4_isTrue 3 = .ok (.istore_n 3, 1) := by decide +kernel
theorem dX4_isTrue_4 : decode cX4_isTrue 4 = .ok (.iload_n 3, 1) := by decide +kernel
theorem dX4_isTrue_5 : decode cX4_isTrue 5 = .ok (.aload_n 0, 1) := by decide +kernel
theorem dX4_isTrue_6 : decode cX4_isTrue 6 = .ok (.getfield 15, 3) := by decide +kernel
theorem dX4_isTrue_9 : decode cX4_isTrue 9 = .ok (.if_icmp .ge 27, 3) := by decide +kernel
theorem dX4_isTrue_12 : decode cX4_isTrue 12 = .ok (.iload_n 3, 1) := by decide +kernel
theorem dX4_isTrue_13 : decode cX4_isTrue 13 = .ok (.bipush 20, 2) := by decide +kernel
theorem dX4_isTrue_15 : decode cX4_isTrue 15 = .ok (.if_icmp .ge 21, 3) := by decide +kernel
theorem dX4_isTrue_18 : decode cX4_isTrue 18 = .ok (.aload_n 0, 1) := by decide +kernel
theorem dX4_isTrue_19 : decode cX4_isTrue 19 = .ok (.getfield 9, 3) := by decide +kernel
theorem dX4_isTrue_22 : decode cX4_isTrue 22 = .ok (.iload_n 3, 1) := by decide +kernel
theorem dX4_isTrue_23 : decode cX4_isTrue 23 = .ok (.iaload, 1) := by decide +kernel
theorem dX4_isTrue_24 : decode cX4_isTrue 24 = .ok (.iload_n 2, 1) := by decide +kernel
theorem dX4_isTrue_25 : decode cX4_isTrue 25 = .ok (.iload_n 1, 1) := by decide +kernel
theorem dX4_isTrue_26 : decode cX4_isTrue 26 = .ok (.invokestatic 28, 3) := by decide +kernel
theorem dX4_isTrue_29 : decode cX4_isTrue 29 = .ok (.istore_n 2, 1) := by decide +kernel
theorem dX4_isTrue_30 : decode cX4_isTrue 30 = .ok (.iinc 3 1, 3) := by decide +kernel
theorem dX4_isTrue_33 : decode cX4_isTrue 33 = .ok (.goto (-29), 3) := by decide +kernel
theorem dX4_isTrue_36 : decode cX4_isTrue 36 = .ok (.iload_n 2, 1) := by decide +kernel
theorem dX4_isTrue_37 : decode cX4_isTrue 37 = .ok (.iconst 1, 1) := by decide +kernel
theorem dX4_isTrue_38 : decode cX4_isTrue 38 = .ok (.iand, 1) := by decide +kernel
theorem dX4_isTrue_39 : decode cX4_isTrue 39 = .ok (.ifCond .eq 7, 3) := by decide +kernel
theorem dX4_isTrue_42 : decode cX4_isTrue 42 = .ok (.iconst 1, 1) := by decide +kernel
theorem dX4_isTrue_43 : decode cX4_isTrue 43 = .ok (.goto 4, 3) := by decide +kernel
theorem dX4_isTrue_46 : decode cX4_isTrue 46 = .ok (.iconst 0, 1) := by decide +kernel
theorem dX4_isTrue_47 : decode cX4_isTrue 47 = .ok (.ireturn, 1) := by decide +kernel
theorem dX4_workOff_0 : decode cX4_workOff 0 = .ok (.iload_n 1, 1) := by decide +kernel
theorem dX4_workOff_1 : decode cX4_workOff 1 = .ok (.iconst 1, 1) := by decide +kernel
theorem dX4_workOff_2 : decode cX4_workOff 2 = .ok (.iand, 1) := by decide +kernel
theorem dX4_workOff_3 : decode cX4_workOff 3 = .ok (.istore_n 3, 1) := by decide +kernel
theorem dX4_workOff_4 : decode cX4_workOff 4 = .ok (.iload_n 1, 1) := by decide +kernel
theorem dX4_workOff_5 : decode cX4_workOff 5 = .ok (.iconst 1, 1) := by decide +kernel
theorem dX4_workOff_6 : decode cX4_workOff 6 = .ok (.ishr, 1) := by decide +kernel
theorem dX4_workOff_7 : decode cX4_workOff 7 = .ok (.istore 4, 2) := by decide +kernel
theorem dX4_workOff_9 : decode cX4_workOff 9 = .ok (.iload_n 0, 1) := by decide +kernel
theorem dX4_workOff_10 : decode cX4_workOff 10 = .ok (.tableswitch 43 9 11 #[26, 30, 38], 26) := by decide +kernel
theorem dX4_workOff_36 : decode cX4_workOff 36 = .ok (.iload_n 1, 1) := by decide +kernel
theorem dX4_workOff_37 : decode cX4_workOff 37 = .ok (.iconst 1, 1) := by decide +kernel
theorem dX4_workOff_38 : decode cX4_workOff 38 = .ok (.ixor, 1) := by decide +kernel
theorem dX4_workOff_39 : decode cX4_workOff 39 = .ok (.ireturn, 1) := by decide +kernel
theorem dX4_workOff_40 : decode cX4_workOff 40 = .ok (.iload 4, 2) := by decide +kernel
theorem dX4_workOff_42 : decode cX4_workOff 42 = .ok (.bipush (-2), 2) := by decide +kernel
theorem dX4_workOff_44 : decode cX4_workOff 44 = .ok (.iload_n 3, 1) := by decide +kernel
theorem dX4_workOff_45 : decode cX4_workOff 45 = .ok (.ior, 1) := by decide +kernel
theorem dX4_workOff_46 : decode cX4_workOff 46 = .ok (.iand, 1) := by decide +kernel
theorem dX4_workOff_47 : decode cX4_workOff 47 = .ok (.ireturn, 1) := by decide +kernel
theorem dX4_workOff_48 : decode cX4_workOff 48 = .ok (.iload 4, 2) := by decide +kernel
theorem dX4_workOff_50 : decode cX4_workOff 50 = .ok (.iload_n 3, 1) := by decide +kernel
theorem dX4_workOff_51 : decode cX4_workOff 51 = .ok (.ior, 1) := by decide +kernel
theorem dX4_workOff_52 : decode cX4_workOff 52 = .ok (.ireturn, 1) := by decide +kernel
theorem dX4_workOff_53 : decode cX4_workOff 53 = .ok (.iload_n 1, 1) := by decide +kernel
theorem dX4_workOff_54 : decode cX4_workOff 54 = .ok (.iconst 1, 1) := by decide +kernel
theorem dX4_workOff_55 : decode cX4_workOff 55 = .ok (.ishl, 1) := by decide +kernel
theorem dX4_workOff_56 : decode cX4_workOff 56 = .ok (.iload_n 2, 1) := by decide +kernel
theorem dX4_workOff_57 : decode cX4_workOff 57 = .ok (.iload_n 0, 1) := by decide +kernel
theorem dX4_workOff_58 : decode cX4_workOff 58 = .ok (.ishr, 1) := by decide +kernel
theorem dX4_workOff_59 : decode cX4_workOff 59 = .ok (.iconst 1, 1) := by decide +kernel
theorem dX4_workOff_60 : decode cX4_workOff 60 = .ok (.iand, 1) := by decide +kernel
theorem dX4_workOff_61 : decode cX4_workOff 61 = .ok (.ior, 1) := by decide +kernel
theorem dX4_workOff_62 : decode cX4_workOff 62 = .ok (.ireturn, 1) := by decide +kernel
theorem dX5_init_0 : decode cX5_init 0 = .ok (.aload_n 0, 1) := by decide +kernel
theorem dX5_init_1 : decode cX5_init 1 = .ok (.invokespecial 1, 3) := by decide +kernel
theorem dX5_init_4 : decode cX5_init 4 = .ok (.aload_n 0, 1) := by decide +kernel
theorem dX5_init_5 : decode cX5_init 5 = .ok (.iconst 1, 1) := by decide +kernel
theorem dX5_init_6 : decode cX5_init 6 = .ok (.putfield 7, 3) := by decide +kernel
theorem dX5_init_9 : decode cX5_init 9 = .ok (.return_, 1) := by decide +kernel
set_option maxRecDepth 20000 in
theorem ggX6_init_X3_init : GoodIn wsX6_init wsX3_init := goodIn_r _ [28, 29, 2, 3, 30, 31, 32, 33, 34, 35, 36, 37, 38, 39, 61, 62, 86, 87, 88, 89, 90, 91, 92, 93, 94, 95, 96] (by decide +kernel) (by decide +kernel)
set_option maxRecDepth 20000 in
theorem gX6_init_X3_init : GoodIn wsX6_init (wsX3_init) := ggX6_init_X3_init
set_option maxRecDepth 20000 in
theorem ggX6_init_X5_init : GoodIn wsX6_init wsX5_init := goodIn_r _ [42, 43, 2, 3, 44, 73, 74, 75] (by decide +kernel) (by decide +kernel)
set_option maxRecDepth 20000 in
theorem gX6_init_X5_init : GoodIn wsX6_init (wsX5_init) := ggX6_init_X5_init
set_option maxRecDepth 20000 in
theorem ggX6_init_X4_init : GoodIn wsX6_init wsX4_init := goodIn_r _ [47, 48, 2, 3, 34, 49, 76, 77, 78, 79, 80] (by decide +kernel) (by decide +kernel)
set_option maxRecDepth 20000 in
theorem gX6_init_X4_init : GoodIn wsX6_init (wsX4_init) := ggX6_init_X4_init
set_option maxRecDepth 20000 in
theorem ggX6_init_X1_init : GoodIn wsX6_init wsX1_init := goodIn_r _ [52, 53, 2, 3, 54, 55, 81, 82, 83] (by decide +kernel) (by decide +kernel)
set_option maxRecDepth 20000 in
theorem gX6_init_X1_init : GoodIn wsX6_init (wsX1_init) := ggX6_init_X1_init
set_option maxRecDepth 20000 in
theorem ggX6_init_X0_init : GoodIn wsX6_init wsX0_init := goodIn_r _ [58, 59, 2, 3, 34, 60, 84, 85] (by decide +kernel) (by decide +kernel)
set_option maxRecDepth 20000 in
theorem gX6_init_X0_init : GoodIn wsX6_init (wsX0_init) := ggX6_init_X0_init
theorem dX6_init_0 : decode cX6_init 0 = .ok (.aload_n 0, 1) := by decide +kernel
theorem dX6_init_1 : decode cX6_init 1 = .ok (.invokespecial 1, 3) := by decide +kernel
theorem dX6_init_4 : decode cX6_init 4 = .ok (.aload_n 0, 1) := by decide +kernel
theorem dX6_init_5 : decode cX6_init 5 = .ok (.new 7, 3) := by decide +kernel
theorem dX6_init_8 : decode cX6_init 8 = .ok (.dup, 1) := by decide +kernel
theorem dX6_init_9 : decode cX6_init 9 = .ok (.invokespecial 9, 3) := by decide +kernel
theorem dX6_init_12 : decode cX6_init 12 = .ok (.putfield 10, 3) := by decide +kernel
theorem dX6_init_15 : decode cX6_init 15 = .ok (.aload_n 0, 1) := by decide +kernel
theorem dX6_init_16 : decode cX6_init 16 = .ok (.iconst 4, 1) := by decide +kernel
theorem dX6_init_17 : decode cX6_init 17 = .ok (.anewarray 16, 3) := by decide +kernel
theorem dX6_init_20 : decode cX6_init 20 = .ok (.putfield 18, 3) := by decide +kernel
theorem dX6_init_23 : decode cX6_init 23 = .ok (.iconst 0, 1) := by decide +kernel
theorem dX6_init_24 : decode cX6_init 24 = .ok (.istore_n 1, 1) := by decide +kernel
theorem dX6_init_25 : decode cX6_init 25 = .ok (.iload_n 1, 1) := by decide +kernel
theorem dX6_init_26 : decode cX6_init 26 = .ok (.iconst 4, 1) := by decide +kernel
theorem dX6_init_27 : decode cX6_init 27 = .ok (.if_icmp .ge 22, 3) := by decide +kernel
theorem dX6_init_30 : decode cX6_init 30 = .ok (.aload_n 0, 1) := by decide +kernel
theorem dX6_init_31 : decode cX6_init 31 = .ok (.getfield 18, 3) := by decide +kernel
theorem dX6_init_34 : decode cX6_init 34 = .ok (.iload_n 1, 1) := by decide +kernel
theorem dX6_init_35 : decode cX6_init 35 = .ok (.new 16, 3) := by decide +kernel
theorem dX6_init_38 : decode cX6_init 38 = .ok (.dup, 1) := by decide +kernel
theorem dX6_init_39 : decode cX6_init 39 = .ok (.invokespecial 22, 3) := by decide +kernel
theorem dX6_init_42 : decode cX6_init 42 = .ok (.aastore, 1) := by decide +kernel
theorem dX6_init_43 : decode cX6_init 43 = .ok (.iinc 1 1, 3) := by decide +kernel
theorem dX6_init_46 : decode cX6_init 46 = .ok (.goto (-21), 3) := by decide +kernel
theorem dX6_init_49 : decode cX6_init 49 = .ok (.aload_n 0, 1) := by decide +kernel
theorem dX6_init_50 : decode cX6_init 50 = .ok (.bipush 6, 2) := by decide +kernel
theorem dX6_init_52 : decode cX6_init 52 = .ok (.anewarray 23, 3) := by decide +kernel
theorem dX6_init_55 : decode cX6_init 55 = .ok (.putfield 25, 3) := by decide +kernel
theorem dX6_init_58 : decode cX6_init 58 = .ok (.iconst 0, 1) := by decide +kernel
theorem dX6_init_59 : decode cX6_init 59 = .ok (.istore_n 1, 1) := by decide +kernel
theorem dX6_init_60 : decode cX6_init 60 = .ok (.iload_n 1, 1) := by decide +kernel
theorem dX6_init_61 : decode cX6_init 61 = .ok (.bipush 6, 2) := by decide +kernel
theorem dX6_init_63 : decode cX6_init 63 = .ok (.if_icmp .ge 22, 3) := by decide +kernel
theorem dX6_init_66 : decode cX6_init 66 = .ok (.aload_n 0, 1) := by decide +kernel
theorem dX6_init_67 : decode cX6_init 67 = .ok (.getfield 25, 3) := by decide +kernel
theorem dX6_init_70 : decode cX6_init 70 = .ok (.iload_n 1, 1) := by decide +kernel
theorem dX6_init_71 : decode cX6_init 71 = .ok (.new 23, 3) := by decide +kernel
theorem dX6_init_74 : decode cX6_init 74 = .ok (.dup, 1) := by decide +kernel
theorem dX6_init_75 : decode cX6_init 75 = .ok (.invokespecial 29, 3) := by decide +kernel
theorem dX6_init_78 : decode cX6_init 78 = .ok (.aastore, 1) := by decide +kernel
theorem dX6_init_79 : decode cX6_init 79 = .ok (.iinc 1 1, 3) := by decide +kernel
theorem dX6_init_82 : decode cX6_init 82 = .ok (.goto (-22), 3) := by decide +kernel
theorem dX6_init_85 : decode cX6_init 85 = .ok (.aload_n 0, 1) := by decide +kernel
theorem dX6_init_86 : decode cX6_init 86 = .ok (.bipush 6, 2) := by decide +kernel
theorem dX6_init_88 : decode cX6_init 88 = .ok (.newarray .boolean, 2) := by decide +kernel
theorem dX6_init_90 : decode cX6_init 90 = .ok (.putfield 30, 3) := by decide +kernel
theorem dX6_init_93 : decode cX6_init 93 = .ok (.aload_n 0, 1) := by decide +kernel
theorem dX6_init_94 : decode cX6_init 94 = .ok (.new 34, 3) := by decide +kernel
theorem dX6_init_97 : decode cX6_init 97 = .ok (.dup, 1) := by decide +kernel
theorem dX6_init_98 : decode cX6_init 98 = .ok (.invokespecial 36, 3) := by decide +kernel
theorem dX6_init_101 : decode cX6_init 101 = .ok (.putfield 37, 3) := by decide +kernel
theorem dX6_init_104 : decode cX6_init 104 = .ok (.aload_n 0, 1) := by decide +kernel
theorem dX6_init_105 : decode cX6_init 105 = .ok (.new 41, 3) := by decide +kernel
theorem dX6_init_108 : decode cX6_init 108 = .ok (.dup, 1) := by decide +kernel
theorem dX6_init_109 : decode cX6_init 109 = .ok (.invokespecial 43, 3) := by decide +kernel
theorem dX6_init_112 : decode cX6_init 112 = .ok (.putfield 44, 3) := by decide +kernel
theorem dX6_init_115 : decode cX6_init 115 = .ok (.return_, 1) := by decide +kernel
set_option maxRecDepth 20000 in
theorem ggX6_fit_X6_mustExist : GoodIn wsX6_fit wsX6_mustExist := goodIn_ca (goodIn_r _ [8, 9, 10] (by decide +kernel) (by decide +kernel)) (goodIn_sub (fun _ h => List.mem_cons_of_mem _ (List.mem_append_left _ (List.mem_append_left _ (List.mem_append_right _ h)))) (by decide +kernel))
set_option maxRecDepth 20000 in
theorem gX6_fit_X6_mustExist : GoodIn wsX6_fit (va_wsS RX6 48 yX6_mustExist wsX6_mustExist) := goodIn_app (goodIn_of _ (by decide +kernel)) ggX6_fit_X6_mustExist
set_option maxRecDepth 20000 in
theorem ggX6_fit_X6_mustBeAllowed : GoodIn wsX6_fit wsX6_mustBeAllowed := goodIn_ca (goodIn_r _ [13, 14, 15] (by decide +kernel) (by decide +kernel)) (goodIn_sub (fun _ h => List.mem_cons_of_mem _ (List.mem_append_left _ (List.mem_append_right _ h))) (by decide +kernel))
set_option maxRecDepth 20000 in
theorem gX6_fit_X6_mustBeAllowed : GoodIn wsX6_fit (va_wsS RX6 52 yX6_mustBeAllowed wsX6_mustBeAllowed) := goodIn_app (goodIn_of _ (by decide +kernel)) ggX6_fit_X6_mustBeAllowed
set_option maxRecDepth 20000 in
theorem ggX6_fit_X6_mustHaveEntered : GoodIn wsX6_fit wsX6_mustHaveEntered := goodIn_ca (goodIn_r _ [19, 20, 21, 22, 37, 38, 39, 40, 41, 42, 43, 44, 45, 46] (by decide +kernel) (by decide +kernel)) (goodIn_sub (fun _ h => List.mem_cons_of_mem _ (List.mem_append_right _ h)) (by decide +kernel))
set_option maxRecDepth 20000 in
theorem gX6_fit_X6_mustHaveEntered : GoodIn wsX6_fit (wsV RX6 58 RX6 yX6_mustHaveEntered wsX6_mustHaveEntered) := goodIn_app (goodIn_of _ (by decide +kernel)) ggX6_fit_X6_mustHaveEntered
set_option maxRecDepth 20000 in
theorem ggX6_fit_X2_begin : GoodIn wsX6_fit wsX2_begin := goodIn_r _ [27, 28, 29, 30, 31, 32, 33, 34, 35, 36, 49, 50, 51, 52, 53, 54, 55, 56, 57, 58, 59] (by decide +kernel) (by decide +kernel)
set_option maxRecDepth 20000 in
theorem gX6_fit_X2_begin : GoodIn wsX6_fit (wsV RX6 66 RX2 yX2_begin wsX2_begin) := goodIn_app (goodIn_of _ (by decide +kernel)) ggX6_fit_X2_begin
theorem dX6_fit_0 : decode cX6_fit 0 = .ok (.iload_n 1, 1) := by decide +kernel
theorem dX6_fit_1 : decode cX6_fit 1 = .ok (.bipush 16, 2) := by decide +kernel
theorem dX6_fit_3 : decode cX6_fit 3 = .ok (.invokestatic 48, 3) := by decide +kernel
theorem dX6_fit_6 : decode cX6_fit 6 = .ok (.iload_n 3, 1) := by decide +kernel
theorem dX6_fit_7 : decode cX6_fit 7 = .ok (.iconst 4, 1) := by decide +kernel
theorem dX6_fit_8 : decode cX6_fit 8 = .ok (.invokestatic 48, 3) := by decide +kernel
theorem dX6_fit_11 : decode cX6_fit 11 = .ok (.iload_n 2, 1) := by decide +kernel
theorem dX6_fit_12 : decode cX6_fit 12 = .ok (.ifCond .lt 12, 3) := by decide +kernel
theorem dX6_fit_15 : decode cX6_fit 15 = .ok (.iload_n 2, 1) := by decide +kernel
theorem dX6_fit_16 : decode cX6_fit 16 = .ok (.iconst 4, 1) := by decide +kernel
theorem dX6_fit_17 : decode cX6_fit 17 = .ok (.if_icmp .gt 7, 3) := by decide +kernel
theorem dX6_fit_20 : decode cX6_fit 20 = .ok (.iconst 1, 1) := by decide +kernel
theorem dX6_fit_21 : decode cX6_fit 21 = .ok (.goto 4, 3) := by decide +kernel
theorem dX6_fit_24 : decode cX6_fit 24 = .ok (.iconst 0, 1) := by decide +kernel
theorem dX6_fit_25 : decode cX6_fit 25 = .ok (.invokestatic 52, 3) := by decide +kernel
theorem dX6_fit_28 : decode cX6_fit 28 = .ok (.fload 4, 2) := by decide +kernel
theorem dX6_fit_30 : decode cX6_fit 30 = .ok (.ldc 56, 2) := by decide +kernel
theorem dX6_fit_32 : decode cX6_fit 32 = .ok (.fcmp .l, 1) := by decide +kernel
theorem dX6_fit_33 : decode cX6_fit 33 = .ok (.ifCond .lt 15, 3) := by decide +kernel
theorem dX6_fit_36 : decode cX6_fit 36 = .ok (.fload 4, 2) := by decide +kernel
theorem dX6_fit_38 : decode cX6_fit 38 = .ok (.ldc 57, 2) := by decide +kernel
theorem dX6_fit_40 : decode cX6_fit 40 = .ok (.fcmp .g, 1) := by decide +kernel
theorem dX6_fit_41 : decode cX6_fit 41 = .ok (.ifCond .gt 7, 3) := by decide +kernel
theorem dX6_fit_44 : decode cX6_fit 44 = .ok (.iconst 1, 1) := by decide +kernel
theorem dX6_fit_45 : decode cX6_fit 45 = .ok (.goto 4, 3) := by decide +kernel
theorem dX6_fit_48 : decode cX6_fit 48 = .ok (.iconst 0, 1) := by decide +kernel
theorem dX6_fit_49 : decode cX6_fit 49 = .ok (.invokestatic 52, 3) := by decide +kernel
theorem dX6_fit_52 : decode cX6_fit 52 = .ok (.aload_n 0, 1) := by decide +kernel
theorem dX6_fit_53 : decode cX6_fit 53 = .ok (.iconst 2, 1) := by decide +kernel
theorem dX6_fit_54 : decode cX6_fit 54 = .ok (.invokevirtual 58, 3) := by decide +kernel
theorem dX6_fit_57 : decode cX6_fit 57 = .ok (.aload_n 0, 1) := by decide +kernel
theorem dX6_fit_58 : decode cX6_fit 58 = .ok (.getfield 10, 3) := by decide +kernel
theorem dX6_fit_61 : decode cX6_fit 61 = .ok (.getfield 62, 3) := by decide +kernel
theorem dX6_fit_64 : decode cX6_fit 64 = .ok (.iload_n 1, 1) := by decide +kernel
theorem dX6_fit_65 : decode cX6_fit 65 = .ok (.aaload, 1) := by decide +kernel
theorem dX6_fit_66 : decode cX6_fit 66 = .ok (.iload_n 2, 1) := by decide +kernel
theorem dX6_fit_67 : decode cX6_fit 67 = .ok (.iload_n 3, 1) := by decide +kernel
theorem dX6_fit_68 : decode cX6_fit 68 = .ok (.fload 4, 2) := by decide +kernel
theorem dX6_fit_70 : decode cX6_fit 70 = .ok (.invokevirtual 66, 3) := by decide +kernel
theorem dX6_fit_73 : decode cX6_fit 73 = .ok (.return_, 1) := by decide +kernel
set_option maxRecDepth 20000 in
theorem ggX6_need_X6_mustExist : GoodIn wsX6_need wsX6_mustExist := goodIn_ca (goodIn_r _ [6, 7, 8] (by decide +kernel) (by decide +kernel)) (goodIn_sub (fun _ h => List.mem_cons_of_mem _ (List.mem_append_left _ (List.mem_append_left _ (List.mem_append_right _ h)))) (by decide +kernel))
set_option maxRecDepth 20000 in
theorem gX6_need_X6_mustExist : GoodIn wsX6_need (va_wsS RX6 48 yX6_mustExist wsX6_mustExist) := goodIn_app (goodIn_of _ (by decide +kernel)) ggX6_need_X6_mustExist
set_option maxRecDepth 20000 in
theorem ggX6_need_X6_mustBeAllowed : GoodIn wsX6_need wsX6_mustBeAllowed := goodIn_ca (goodIn_r _ [11, 12, 13] (by decide +kernel) (by decide +kernel)) (goodIn_sub (fun _ h => List.mem_cons_of_mem _ (List.mem_append_left _ (List.mem_append_right _ h))) (by decide +kernel))
set_option maxRecDepth 20000 in
theorem gX6_need_X6_mustBeAllowed : GoodIn wsX6_need (va_wsS RX6 52 yX6_mustBeAllowed wsX6_mustBeAllowed) := goodIn_app (goodIn_of _ (by decide +kernel)) ggX6_need_X6_mustBeAllowed
set_option maxRecDepth 20000 in
theorem ggX6_need_X6_mustHaveEntered : GoodIn wsX6_need wsX6_mustHaveEntered := goodIn_ca (goodIn_r _ [17, 18, 19, 20, 21, 22, 23, 24, 25, 26, 27, 28, 29, 30] (by decide +kernel) (by decide +kernel)) (goodIn_sub (fun _ h => List.mem_cons_of_mem _ (List.mem_append_right _ h)) (by decide +kernel))
set_option maxRecDepth 20000 in
theorem gX6_need_X6_mustHaveEntered : GoodIn wsX6_need (wsV RX6 58 RX6 yX6_mustHaveEntered wsX6_mustHaveEntered) := goodIn_app (goodIn_of _ (by decide +kernel)) ggX6_need_X6_mustHaveEntered
theorem dX6_need_0 : decode cX6_need 0 = .ok (.iload_n 1, 1) := by decide +kernel
theorem dX6_need_1 : decode cX6_need 1 = .ok (.iconst 4, 1) := by decide +kernel
theorem dX6_need_2 : decode cX6_need 2 = .ok (.invokestatic 48, 3) := by decide +kernel
theorem dX6_need_5 : decode cX6_need 5 = .ok (.iload_n 2, 1) := by decide +kernel
theorem dX6_need_6 : decode cX6_need 6 = .ok (.iconst 1, 1) := by decide +kernel
theorem dX6_need_7 : decode cX6_need 7 = .ok (.if_icmp .lt 12, 3) := by decide +kernel
theorem dX6_need_10 : decode cX6_need 10 = .ok (.iload_n 2, 1) := by decide +kernel
theorem dX6_need_11 : decode cX6_need 11 = .ok (.iconst 4, 1) := by decide +kernel
theorem dX6_need_12 : decode cX6_need 12 = .ok (.if_icmp .gt 7, 3) := by decide +kernel
theorem dX6_need_15 : decode cX6_need 15 = .ok (.iconst 1, 1) := by decide +kernel
theorem dX6_need_16 : decode cX6_need 16 = .ok (.goto 4, 3) := by decide +kernel
theorem dX6_need_19 : decode cX6_need 19 = .ok (.iconst 0, 1) := by decide +kernel
theorem dX6_need_20 : decode cX6_need 20 = .ok (.invokestatic 52, 3) := by decide +kernel
theorem dX6_need_23 : decode cX6_need 23 = .ok (.aload_n 0, 1) := by decide +kernel
theorem dX6_need_24 : decode cX6_need 24 = .ok (.iconst 2, 1) := by decide +kernel
theorem dX6_need_25 : decode cX6_need 25 = .ok (.invokevirtual 58, 3) := by decide +kernel
theorem dX6_need_28 : decode cX6_need 28 = .ok (.aload_n 0, 1) := by decide +kernel
theorem dX6_need_29 : decode cX6_need 29 = .ok (.getfield 18, 3) := by decide +kernel
theorem dX6_need_32 : decode cX6_need 32 = .ok (.iload_n 1, 1) := by decide +kernel
theorem dX6_need_33 : decode cX6_need 33 = .ok (.aaload, 1) := by decide +kernel
theorem dX6_need_34 : decode cX6_need 34 = .ok (.iload_n 2, 1) := by decide +kernel
theorem dX6_need_35 : decode cX6_need 35 = .ok (.putfield 72, 3) := by decide +kernel
theorem dX6_need_38 : decode cX6_need 38 = .ok (.return_, 1) := by decide +kernel
set_option maxRecDepth 20000 in
theorem ggX6_wire_X6_mustExist : GoodIn wsX6_wire wsX6_mustExist := goodIn_ca (goodIn_r _ [6, 7, 8] (by decide +kernel) (by decide +kernel)) (goodIn_sub (fun _ h => List.mem_cons_of_mem _ (List.mem_append_left _ (List.mem_append_right _ h))) (by decide +kernel))
set_option maxRecDepth 20000 in
theorem gX6_wire_X6_mustExist : GoodIn wsX6_wire (va_wsS RX6 48 yX6_mustExist wsX6_mustExist) := goodIn_app (goodIn_of _ (by decide +kernel)) ggX6_wire_X6_mustExist
set_option maxRecDepth 20000 in
theorem ggX6_wire_X6_mustBeAllowed : GoodIn wsX6_wire wsX6_mustBeAllowed := goodIn_ca (goodIn_r _ [11, 12, 13] (by decide +kernel) (by decide +kernel)) (goodIn_sub (fun _ h => List.mem_cons_of_mem _ (List.mem_append_right _ h)) (by decide +kernel))
set_option maxRecDepth 20000 in
theorem gX6_wire_X6_mustBeAllowed : GoodIn wsX6_wire (va_wsS RX6 52 yX6_mustBeAllowed wsX6_mustBeAllowed) := goodIn_app (goodIn_of _ (by decide +kernel)) ggX6_wire_X6_mustBeAllowed
theorem dX6_wire_0 : decode cX6_wire 0 = .ok (.iload_n 1, 1) := by decide +kernel
theorem dX6_wire_1 : decode cX6_wire 1 = .ok (.bipush 17, 2) := by decide +kernel
theorem dX6_wire_3 : decode cX6_wire 3 = .ok (.invokestatic 48, 3) := by decide +kernel
theorem dX6_wire_6 : decode cX6_wire 6 = .ok (.iload_n 2, 1) := by decide +kernel
theorem dX6_wire_7 : decode cX6_wire 7 = .ok (.ifCond .lt 12, 3) := by decide +kernel
theorem dX6_wire_10 : decode cX6_wire 10 = .ok (.iload_n 2, 1) := by decide +kernel
theorem dX6_wire_11 : decode cX6_wire 11 = .ok (.iconst 2, 1) := by decide +kernel
theorem dX6_wire_12 : decode cX6_wire 12 = .ok (.if_icmp .gt 7, 3) := by decide +kernel
theorem dX6_wire_15 : decode cX6_wire 15 = .ok (.iconst 1, 1) := by decide +kernel
theorem dX6_wire_16 : decode cX6_wire 16 = .ok (.goto 4, 3) := by decide +kernel
theorem dX6_wire_19 : decode cX6_wire 19 = .ok (.iconst 0, 1) := by decide +kernel
theorem dX6_wire_20 : decode cX6_wire 20 = .ok (.invokestatic 52, 3) := by decide +kernel
theorem dX6_wire_23 : decode cX6_wire 23 = .ok (.aload_n 0, 1) := by decide +kernel
theorem dX6_wire_24 : decode cX6_wire 24 = .ok (.getfield 10, 3) := by decide +kernel
theorem dX6_wire_27 : decode cX6_wire 27 = .ok (.getfield 76, 3) := by decide +kernel
theorem dX6_wire_30 : decode cX6_wire 30 = .ok (.iload_n 1, 1) := by decide +kernel
theorem dX6_wire_31 : decode cX6_wire 31 = .ok (.iload_n 2, 1) := by decide +kernel
theorem dX6_wire_32 : decode cX6_wire 32 = .ok (.iastore, 1) := by decide +kernel
theorem dX6_wire_33 : decode cX6_wire 33 = .ok (.return_, 1) := by decide +kernel
set_option maxRecDepth 20000 in
theorem ggX6_reading_X6_mustExist : GoodIn wsX6_reading wsX6_mustExist := goodIn_ca (goodIn_r _ [9, 10, 11] (by decide +kernel) (by decide +kernel)) (goodIn_sub (fun _ h => List.mem_cons_of_mem _ (List.mem_append_left _ (List.mem_append_right _ h))) (by decide +kernel))
set_option maxRecDepth 20000 in
theorem gX6_reading_X6_mustExist : GoodIn wsX6_reading (va_wsS RX6 48 yX6_mustExist wsX6_mustExist) := goodIn_app (goodIn_of _ (by decide +kernel)) ggX6_reading_X6_mustExist
set_option maxRecDepth 20000 in
theorem ggX6_reading_X6_mustBeAllowed : GoodIn wsX6_reading wsX6_mustBeAllowed := goodIn_ca (goodIn_r _ [14, 15, 16] (by decide +kernel) (by decide +kernel)) (goodIn_sub (fun _ h => List.mem_cons_of_mem _ (List.mem_append_right _ h)) (by decide +kernel))
set_option maxRecDepth 20000 in
theorem gX6_reading_X6_mustBeAllowed : GoodIn wsX6_reading (va_wsS RX6 52 yX6_mustBeAllowed wsX6_mustBeAllowed) := goodIn_app (goodIn_of _ (by decide +kernel)) ggX6_reading_X6_mustBeAllowed
theorem dX6_reading_0 : decode cX6_reading 0 = .ok (.iload_n 1, 1) := by decide +kernel
theorem dX6_reading_1 : decode cX6_reading 1 = .ok (.bipush 16, 2) := by decide +kernel
theorem dX6_reading_3 : decode cX6_reading 3 = .ok (.invokestatic 48, 3) := by decide +kernel
theorem dX6_reading_6 : decode cX6_reading 6 = .ok (.fload_n 2, 1) := by decide +kernel
theorem dX6_reading_7 : decode cX6_reading 7 = .ok (.ldc 80, 2) := by decide +kernel
theorem dX6_reading_9 : decode cX6_reading 9 = .ok (.fcmp .l, 1) := by decide +kernel
theorem dX6_reading_10 : decode cX6_reading 10 = .ok (.ifCond .lt 14, 3) := by decide +kernel
theorem dX6_reading_13 : decode cX6_reading 13 = .ok (.fload_n 2, 1) := by decide +kernel
theorem dX6_reading_14 : decode cX6_reading 14 = .ok (.ldc 81, 2) := by decide +kernel
theorem dX6_reading_16 : decode cX6_reading 16 = .ok (.fcmp .g, 1) := by decide +kernel
theorem dX6_reading_17 : decode cX6_reading 17 = .ok (.ifCond .gt 7, 3) := by decide +kernel
theorem dX6_reading_20 : decode cX6_reading 20 = .ok (.iconst 1, 1) := by decide +kernel
theorem dX6_reading_21 : decode cX6_reading 21 = .ok (.goto 4, 3) := by decide +kernel
theorem dX6_reading_24 : decode cX6_reading 24 = .ok (.iconst 0, 1) := by decide +kernel
theorem dX6_reading_25 : decode cX6_reading 25 = .ok (.invokestatic 52, 3) := by decide +kernel
theorem dX6_reading_28 : decode cX6_reading 28 = .ok (.aload_n 0, 1) := by decide +kernel
theorem dX6_reading_29 : decode cX6_reading 29 = .ok (.getfield 10, 3) := by decide +kernel
theorem dX6_reading_32 : decode cX6_reading 32 = .ok (.getfield 62, 3) := by decide +kernel
theorem dX6_reading_35 : decode cX6_reading 35 = .ok (.iload_n 1, 1) := by decide +kernel
theorem dX6_reading_36 : decode cX6_reading 36 = .ok (.aaload, 1) := by decide +kernel
theorem dX6_reading_37 : decode cX6_reading 37 = .ok (.fload_n 2, 1) := by decide +kernel
theorem dX6_reading_38 : decode cX6_reading 38 = .ok (.putfield 82, 3) := by decide +kernel
theorem dX6_reading_41 : decode cX6_reading 41 = .ok (.return_, 1) := by decide +kernel
set_option maxRecDepth 20000 in
theorem ggX6_type_X1_append : GoodIn wsX6_type wsX1_append := goodIn_r _ [6, 7, 8, 9, 10, 5, 11, 22, 23, 24] (by decide +kernel) (by decide +kernel)
set_option maxRecDepth 20000 in
theorem gX6_type_X1_append : GoodIn wsX6_type (wsV RX6 86 RX1 yX1_append wsX1_append) := goodIn_app (goodIn_of _ (by decide +kernel)) ggX6_type_X1_append
theorem dX6_type_0 : decode cX6_type 0 = .ok (.aload_n 0, 1) := by decide +kernel
theorem dX6_type_1 : decode cX6_type 1 = .ok (.getfield 37, 3) := by decide +kernel
theorem dX6_type_4 : decode cX6_type 4 = .ok (.iload_n 1, 1) := by decide +kernel
theorem dX6_type_5 : decode cX6_type 5 = .ok (.invokevirtual 86, 3) := by decide +kernel
theorem dX6_type_8 : decode cX6_type 8 = .ok (.ireturn, 1) := by decide +kernel
set_option maxRecDepth 20000 in
theorem ggX6_rule_X6_mustHaveEntered : GoodIn wsX6_rule wsX6_mustHaveEntered := goodIn_ca (goodIn_r _ [11, 1, 2, 12, 65, 66, 67, 68, 69, 70, 71, 72, 73, 74] (by decide +kernel) (by decide +kernel)) (goodIn_sub (fun _ h => List.mem_cons_of_mem _ (List.mem_append_right _ h)) (by decide +kernel))
set_option maxRecDepth 20000 in
theorem gX6_rule_X6_mustHaveEntered : GoodIn wsX6_rule (wsV RX6 58 RX6 yX6_mustHaveEntered wsX6_mustHaveEntered) := goodIn_app (goodIn_of _ (by decide +kernel)) ggX6_rule_X6_mustHaveEntered
set_option maxRecDepth 20000 in
theorem ggX6_rule_X1_readInto : GoodIn wsX6_rule wsX1_readInto := goodIn_r _ [17, 18, 19, 20, 21, 22, 23, 24, 25, 26, 27, 28, 29, 30, 31, 16, 32, 33, 34, 35, 36, 37, 38, 39, 40, 41, 42, 43, 44, 45, 46, 47, 48, 49, 50, 51, 52, 53, 54, 55, 56, 57, 58, 59, 60, 61, 62, 63, 64, 75, 76, 77, 78, 79, 80, 81, 82] (by decide +kernel) (by decide +kernel)
set_option maxRecDepth 20000 in
theorem gX6_rule_X1_readInto : GoodIn wsX6_rule (wsV RX6 100 RX1 yX1_readInto wsX1_readInto) := goodIn_app (goodIn_of _ (by decide +kernel)) ggX6_rule_X1_readInto
theorem dX6_rule_0 : decode cX6_rule 0 = .ok (.aload_n 0, 1) := by decide +kernel
theorem dX6_rule_1 : decode cX6_rule 1 = .ok (.iconst 2, 1) := by decide +kernel
theorem dX6_rule_2 : decode cX6_rule 2 = .ok (.invokevirtual 58, 3) := by decide +kernel
theorem dX6_rule_5 : decode cX6_rule 5 = .ok (.aload_n 0, 1) := by decide +kernel
theorem dX6_rule_6 : decode cX6_rule 6 = .ok (.getfield 90, 3) := by decide +kernel
theorem dX6_rule_9 : decode cX6_rule 9 = .ok (.ifCond .lt 12, 3) := by decide +kernel
theorem dX6_rule_12 : decode cX6_rule 12 = .ok (.aload_n 0, 1) := by decide +kernel
theorem dX6_rule_13 : decode cX6_rule 13 = .ok (.getfield 90, 3) := by decide +kernel
theorem dX6_rule_16 : decode cX6_rule 16 = .ok (.bipush 6, 2) := by decide +kernel
theorem dX6_rule_18 : decode cX6_rule 18 = .ok (.if_icmp .lt 13, 3) := by decide +kernel
theorem dX6_rule_21 : decode cX6_rule 21 = .ok (.new 93, 3) := by decide +kernel
theorem dX6_rule_24 : decode cX6_rule 24 = .ok (.dup, 1) := by decide +kernel
theorem dX6_rule_25 : decode cX6_rule 25 = .ok (.ldc 95, 2) := by decide +kernel
theorem dX6_rule_27 : decode cX6_rule 27 = .ok (.invokespecial 97, 3) := by decide +kernel
theorem dX6_rule_30 : decode cX6_rule 30 = .ok (.athrow, 1) := by decide +kernel
theorem dX6_rule_31 : decode cX6_rule 31 = .ok (.aload_n 0, 1) := by decide +kernel
theorem dX6_rule_32 : decode cX6_rule 32 = .ok (.getfield 37, 3) := by decide +kernel
theorem dX6_rule_35 : decode cX6_rule 35 = .ok (.aload_n 0, 1) := by decide +kernel
theorem dX6_rule_36 : decode cX6_rule 36 = .ok (.getfield 25, 3) := by decide +kernel
theorem dX6_rule_39 : decode cX6_rule 39 = .ok (.aload_n 0, 1) := by decide +kernel
theorem dX6_rule_40 : decode cX6_rule 40 = .ok (.getfield 90, 3) := by decide +kernel
theorem dX6_rule_43 : decode cX6_rule 43 = .ok (.aaload, 1) := by decide +kernel
theorem dX6_rule_44 : decode cX6_rule 44 = .ok (.invokevirtual 100, 3) := by decide +kernel
theorem dX6_rule_47 : decode cX6_rule 47 = .ok (.istore_n 1, 1) := by decide +kernel
theorem dX6_rule_48 : decode cX6_rule 48 = .ok (.aload_n 0, 1) := by decide +kernel
theorem dX6_rule_49 : decode cX6_rule 49 = .ok (.getfield 37, 3) := by decide +kernel
theorem dX6_rule_52 : decode cX6_rule 52 = .ok (.iconst 0, 1) := by decide +kernel
theorem dX6_rule_53 : decode cX6_rule 53 = .ok (.putfield 104, 3) := by decide +kernel
theorem dX6_rule_56 : decode cX6_rule 56 = .ok (.iload_n 1, 1) := by decide +kernel
theorem dX6_rule_57 : decode cX6_rule 57 = .ok (.iconst (-1), 1) := by decide +kernel
theorem dX6_rule_58 : decode cX6_rule 58 = .ok (.if_icmp .eq 7, 3) := by decide +kernel
theorem dX6_rule_61 : decode cX6_rule 61 = .ok (.iconst 1, 1) := by decide +kernel
theorem dX6_rule_62 : decode cX6_rule 62 = .ok (.iload_n 1, 1) := by decide +kernel
theorem dX6_rule_63 : decode cX6_rule 63 = .ok (.iadd, 1) := by decide +kernel
theorem dX6_rule_64 : decode cX6_rule 64 = .ok (.ireturn, 1) := by decide +kernel
theorem dX6_rule_65 : decode cX6_rule 65 = .ok (.aload_n 0, 1) := by decide +kernel
theorem dX6_rule_66 : decode cX6_rule 66 = .ok (.dup, 1) := by decide +kernel
theorem dX6_rule_67 : decode cX6_rule 67 = .ok (.getfield 90, 3) := by decide +kernel
theorem dX6_rule_70 : decode cX6_rule 70 = .ok (.iconst 1, 1) := by decide +kernel
theorem dX6_rule_71 : decode cX6_rule 71 = .ok (.iadd, 1) := by decide +kernel
theorem dX6_rule_72 : decode cX6_rule 72 = .ok (.putfield 90, 3) := by decide +kernel
theorem dX6_rule_75 : decode cX6_rule 75 = .ok (.iconst 0, 1) := by decide +kernel
theorem dX6_rule_76 : decode cX6_rule 76 = .ok (.ireturn, 1) := by decide +kernel
set_option maxRecDepth 20000 in
theorem ggX6_forget_X6_mustHaveEntered : GoodIn wsX6_forget wsX6_mustHaveEntered := goodIn_ca (goodIn_r _ [6, 7, 8, 9, 15, 16, 17, 18, 19, 20, 21, 22, 23, 24] (by decide +kernel) (by decide +kernel)) (goodIn_sub (fun _ h => List.mem_cons_of_mem _ (List.mem_append_right _ h)) (by decide +kernel))
set_option maxRecDepth 20000 in
theorem gX6_forget_X6_mustHaveEntered : GoodIn wsX6_forget (wsV RX6 58 RX6 yX6_mustHaveEntered wsX6_mustHaveEntered) := goodIn_app (goodIn_of _ (by decide +kernel)) ggX6_forget_X6_mustHaveEntered
set_option maxRecDepth 20000 in
theorem ggX6_forget_X6_allOutputsOff : GoodIn wsX6_forget wsX6_allOutputsOff := goodIn_r _ [13, 14, 15, 16, 17, 18, 19, 20, 21, 22, 23, 24] (by decide +kernel) (by decide +kernel)
set_option maxRecDepth 20000 in
theorem gX6_forget_X6_allOutputsOff : GoodIn wsX6_forget (wsV RX6 107 RX6 yX6_allOutputsOff wsX6_allOutputsOff) := goodIn_app (goodIn_of _ (by decide +kernel)) ggX6_forget_X6_allOutputsOff
theorem dX6_forget_0 : decode cX6_forget 0 = .ok (.aload_n 0, 1) := by decide +kernel
theorem dX6_forget_1 : decode cX6_forget 1 = .ok (.iconst 2, 1) := by decide +kernel
theorem dX6_forget_2 : decode cX6_forget 2 = .ok (.invokevirtual 58, 3) := by decide +kernel
theorem dX6_forget_5 : decode cX6_forget 5 = .ok (.aload_n 0, 1) := by decide +kernel
theorem dX6_forget_6 : decode cX6_forget 6 = .ok (.getfield 90, 3) := by decide +kernel
theorem dX6_forget_9 : decode cX6_forget 9 = .ok (.istore_n 1, 1) := by decide +kernel
theorem dX6_forget_10 : decode cX6_forget 10 = .ok (.aload_n 0, 1) := by decide +kernel
theorem dX6_forget_11 : decode cX6_forget 11 = .ok (.iconst 0, 1) := by decide +kernel
theorem dX6_forget_12 : decode cX6_forget 12 = .ok (.putfield 90, 3) := by decide +kernel
theorem dX6_forget_15 : decode cX6_forget 15 = .ok (.aload_n 0, 1) := by decide +kernel
theorem dX6_forget_16 : decode cX6_forget 16 = .ok (.invokevirtual 107, 3) := by decide +kernel
theorem dX6_forget_19 : decode cX6_forget 19 = .ok (.iload_n 1, 1) := by decide +kernel
theorem dX6_forget_20 : decode cX6_forget 20 = .ok (.ireturn, 1) := by decide +kernel
set_option maxRecDepth 20000 in
theorem ggX6_poll_X6_askPlaces : GoodIn wsX6_poll wsX6_askPlaces := goodIn_r _ [6, 7, 8, 9, 10, 11, 12, 13, 14, 15, 16, 17, 18, 19, 20, 21, 22, 23, 24, 25, 26, 27, 28, 29, 30, 31, 32, 33, 5, 34, 35, 36, 37, 1, 38, 39, 40, 41, 42, 43, 44, 45, 46, 47, 48, 49, 50, 51, 52, 53, 54, 55, 56, 57, 58, 59, 60, 61, 62, 63, 64, 65, 66, 67, 68, 69, 70, 71, 72, 73, 74, 75, 76, 77, 78, 79, 80, 81, 82, 83, 84, 85, 86, 87, 155, 156, 157, 158, 159, 160, 161, 162, 163, 164, 165, 166, 167, 168, 169, 170, 171, 172, 173, 174, 175, 176, 177, 178, 179] (by decide +kernel) (by decide +kernel)
set_option maxRecDepth 20000 in
theorem gX6_poll_X6_askPlaces : GoodIn wsX6_poll (wsV RX6 113 RX6 yX6_askPlaces wsX6_askPlaces) := goodIn_app (goodIn_of _ (by decide +kernel)) ggX6_poll_X6_askPlaces
set_option maxRecDepth 20000 in
theorem ggX6_poll_X6_watchZones : GoodIn wsX6_poll wsX6_watchZones := goodIn_r _ [91, 92, 93, 94, 95, 96, 37, 1, 97, 98, 99, 5, 100, 7, 8, 101, 102, 103, 104, 105, 28, 106, 107, 108, 109, 26, 27, 29, 30, 38, 39, 40, 41, 42, 43, 44, 45, 46, 47, 48, 49, 50, 51, 52, 155, 156, 157, 158, 159, 160, 161, 162, 163, 164, 180, 181, 182, 165, 166, 167, 168, 169, 170, 171, 172, 173, 174, 175, 176, 177, 178, 179] (by decide +kernel) (by decide +kernel)
set_option maxRecDepth 20000 in
theorem gX6_poll_X6_watchZones : GoodIn wsX6_poll (wsV RX6 116 RX6 yX6_watchZones wsX6_watchZones) := goodIn_app (goodIn_of _ (by decide +kernel)) ggX6_poll_X6_watchZones
set_option maxRecDepth 20000 in
theorem ggX6_poll_X6_followRules : GoodIn wsX6_poll wsX6_followRules := goodIn_r _ [113, 114, 115, 116, 117, 118, 119, 5, 120, 92, 94, 121, 122, 123, 124, 7, 8, 36, 125, 126, 127, 128, 103, 104, 105, 28, 106, 107, 108, 109, 26, 27, 29, 30, 129, 130, 131, 132, 63, 70, 77, 133, 134, 135, 136, 137, 138, 139, 140, 141, 142, 143, 155, 156, 157, 158, 159, 160, 161, 162, 163, 164, 183, 184, 185, 186, 187, 180, 181, 182, 165, 166, 167, 168, 169, 170, 171, 172, 173, 174, 175, 176, 177] (by decide +kernel) (by decide +kernel)
set_option maxRecDepth 20000 in
theorem gX6_poll_X6_followRules : GoodIn wsX6_poll (wsV RX6 120 RX6 yX6_followRules wsX6_followRules) := goodIn_app (goodIn_of _ (by decide +kernel)) ggX6_poll_X6_followRules
set_option maxRecDepth 20000 in
theorem ggX6_poll_X6_driveOutputs : GoodIn wsX6_poll wsX6_driveOutputs := goodIn_r _ [147, 148, 37, 1, 149, 150, 151, 5, 152, 114, 115, 153, 116, 154, 38, 39, 40, 41, 42, 43, 44, 45, 46, 47, 48, 49, 50, 51, 52, 155, 156, 157, 158, 159, 160, 161, 162, 163, 164, 183, 184, 185, 186, 187, 178, 179] (by decide +kernel) (by decide +kernel)
set_option maxRecDepth 20000 in
theorem gX6_poll_X6_driveOutputs : GoodIn wsX6_poll (wsV RX6 123 RX6 yX6_driveOutputs wsX6_driveOutputs) := goodIn_app (goodIn_of _ (by decide +kernel)) ggX6_poll_X6_driveOutputs
theorem dX6_poll_0 : decode cX6_poll 0 = .ok (.aload_n 0, 1) := by decide +kernel
theorem dX6_poll_1 : decode cX6_poll 1 = .ok (.dup, 1) := by decide +kernel
theorem dX6_poll_2 : decode cX6_poll 2 = .ok (.getfield 110, 3) := by decide +kernel
theorem dX6_poll_5 : decode cX6_poll 5 = .ok (.iconst 1, 1) := by decide +kernel
theorem dX6_poll_6 : decode cX6_poll 6 = .ok (.iadd, 1) := by decide +kernel
theorem dX6_poll_7 : decode cX6_poll 7 = .ok (.putfield 110, 3) := by decide +kernel
theorem dX6_poll_10 : decode cX6_poll 10 = .ok (.aload_n 0, 1) := by decide +kernel
theorem dX6_poll_11 : decode cX6_poll 11 = .ok (.invokevirtual 113, 3) := by decide +kernel
theorem dX6_poll_14 : decode cX6_poll 14 = .ok (.aload_n 0, 1) := by decide +kernel
theorem dX6_poll_15 : decode cX6_poll 15 = .ok (.invokevirtual 116, 3) := by decide +kernel
theorem dX6_poll_18 : decode cX6_poll 18 = .ok (.istore_n 1, 1) := by decide +kernel
theorem dX6_poll_19 : decode cX6_poll 19 = .ok (.aload_n 0, 1) := by decide +kernel
theorem dX6_poll_20 : decode cX6_poll 20 = .ok (.invokevirtual 120, 3) := by decide +kernel
theorem dX6_poll_23 : decode cX6_poll 23 = .ok (.aload_n 0, 1) := by decide +kernel
theorem dX6_poll_24 : decode cX6_poll 24 = .ok (.invokevirtual 123, 3) := by decide +kernel
theorem dX6_poll_27 : decode cX6_poll 27 = .ok (.iload_n 1, 1) := by decide +kernel
theorem dX6_poll_28 : decode cX6_poll 28 = .ok (.ireturn, 1) := by decide +kernel
theorem dX6_key_0 : decode cX6_key 0 = .ok (.aload_n 0, 1) := by decide +kernel
theorem dX6_key_1 : decode cX6_key 1 = .ok (.iload_n 1, 1) := by decide +kernel
theorem dX6_key_2 : decode cX6_key 2 = .ok (.sipush 2468, 3) := by decide +kernel
theorem dX6_key_5 : decode cX6_key 5 = .ok (.if_icmp .ne 7, 3) := by decide +kernel
theorem dX6_key_8 : decode cX6_key 8 = .ok (.iconst 2, 1) := by decide +kernel
theorem dX6_key_9 : decode cX6_key 9 = .ok (.goto 15, 3) := by decide +kernel
theorem dX6_key_12 : decode cX6_key 12 = .ok (.iload_n 1, 1) := by decide +kernel
theorem dX6_key_13 : decode cX6_key 13 = .ok (.sipush 1357, 3) := by decide +kernel
theorem dX6_key_16 : decode cX6_key 16 = .ok (.if_icmp .ne 7, 3) := by decide +kernel
theorem dX6_key_19 : decode cX6_key 19 = .ok (.iconst 1, 1) := by decide +kernel
theorem dX6_key_20 : decode cX6_key 20 = .ok (.goto 4, 3) := by decide +kernel
theorem dX6_key_23 : decode cX6_key 23 = .ok (.iconst 0, 1) := by decide +kernel
theorem dX6_key_24 : decode cX6_key 24 = .ok (.putfield 126, 3) := by decide +kernel
theorem dX6_key_27 : decode cX6_key 27 = .ok (.aload_n 0, 1) := by decide +kernel
theorem dX6_key_28 : decode cX6_key 28 = .ok (.getfield 126, 3) := by decide +kernel
theorem dX6_key_31 : decode cX6_key 31 = .ok (.ireturn, 1) := by decide +kernel
set_option maxRecDepth 20000 in
theorem ggX6_silence_X6_mustHaveEntered : GoodIn wsX6_silence wsX6_mustHaveEntered := goodIn_ca (goodIn_r _ [8, 9, 10, 11, 27, 28, 29, 30, 31, 32, 33, 34, 35, 36] (by decide +kernel) (by decide +kernel)) (goodIn_sub (fun _ h => List.mem_cons_of_mem _ (List.mem_append_right _ h)) (by decide +kernel))
set_option maxRecDepth 20000 in
theorem gX6_silence_X6_mustHaveEntered : GoodIn wsX6_silence (wsV RX6 58 RX6 yX6_mustHaveEntered wsX6_mustHaveEntered) := goodIn_app (goodIn_of _ (by decide +kernel)) ggX6_silence_X6_mustHaveEntered
set_option maxRecDepth 20000 in
theorem ggX6_silence_X0_add : GoodIn wsX6_silence wsX0_add := goodIn_r _ [16, 17, 18, 19, 20, 21, 22, 23, 24, 25, 26, 37, 38] (by decide +kernel) (by decide +kernel)
set_option maxRecDepth 20000 in
theorem gX6_silence_X0_add : GoodIn wsX6_silence (wsV RX6 133 RX0 yX0_add wsX0_add) := goodIn_app (goodIn_of _ (by decide +kernel)) ggX6_silence_X0_add
theorem dX6_silence_0 : decode cX6_silence 0 = .ok (.aload_n 0, 1) := by decide +kernel
theorem dX6_silence_1 : decode cX6_silence 1 = .ok (.iconst 1, 1) := by decide +kernel
theorem dX6_silence_2 : decode cX6_silence 2 = .ok (.invokevirtual 58, 3) := by decide +kernel
theorem dX6_silence_5 : decode cX6_silence 5 = .ok (.aload_n 0, 1) := by decide +kernel
theorem dX6_silence_6 : decode cX6_silence 6 = .ok (.getfield 129, 3) := by decide +kernel
theorem dX6_silence_9 : decode cX6_silence 9 = .ok (.ifCond .eq 5, 3) := by decide +kernel
theorem dX6_silence_12 : decode cX6_silence 12 = .ok (.iconst 0, 1) := by decide +kernel
theorem dX6_silence_13 : decode cX6_silence 13 = .ok (.ireturn, 1) := by decide +kernel
theorem dX6_silence_14 : decode cX6_silence 14 = .ok (.aload_n 0, 1) := by decide +kernel
theorem dX6_silence_15 : decode cX6_silence 15 = .ok (.iconst 1, 1) := by decide +kernel
theorem dX6_silence_16 : decode cX6_silence 16 = .ok (.putfield 129, 3) := by decide +kernel
theorem dX6_silence_19 : decode cX6_silence 19 = .ok (.aload_n 0, 1) := by decide +kernel
theorem dX6_silence_20 : decode cX6_silence 20 = .ok (.getfield 44, 3) := by decide +kernel
theorem dX6_silence_23 : decode cX6_silence 23 = .ok (.iconst 5, 1) := by decide +kernel
theorem dX6_silence_24 : decode cX6_silence 24 = .ok (.iconst 0, 1) := by decide +kernel
theorem dX6_silence_25 : decode cX6_silence 25 = .ok (.aload_n 0, 1) := by decide +kernel
theorem dX6_silence_26 : decode cX6_silence 26 = .ok (.getfield 110, 3) := by decide +kernel
theorem dX6_silence_29 : decode cX6_silence 29 = .ok (.invokevirtual 133, 3) := by decide +kernel
theorem dX6_silence_32 : decode cX6_silence 32 = .ok (.iconst 1, 1) := by decide +kernel
theorem dX6_silence_33 : decode cX6_silence 33 = .ok (.ireturn, 1) := by decide +kernel
set_option maxRecDepth 20000 in
theorem ggX6_reset_X6_mustHaveEntered : GoodIn wsX6_reset wsX6_mustHaveEntered := goodIn_ca (goodIn_r _ [14, 15, 16, 17, 45, 46, 47, 48, 49, 50, 51, 52, 53, 54] (by decide +kernel) (by decide +kernel)) (goodIn_sub (fun _ h => List.mem_cons_of_mem _ (List.mem_append_right _ h)) (by decide +kernel))
set_option maxRecDepth 20000 in
theorem gX6_reset_X6_mustHaveEntered : GoodIn wsX6_reset (wsV RX6 58 RX6 yX6_mustHaveEntered wsX6_mustHaveEntered) := goodIn_app (goodIn_of _ (by decide +kernel)) ggX6_reset_X6_mustHaveEntered
set_option maxRecDepth 20000 in
theorem ggX6_reset_X2_calmDown : GoodIn wsX6_reset wsX2_calmDown := goodIn_r _ [22, 23, 24, 65, 66, 67, 68, 69, 70, 71, 72, 73, 74, 75] (by decide +kernel) (by decide +kernel)
set_option maxRecDepth 20000 in
theorem gX6_reset_X2_calmDown : GoodIn wsX6_reset (wsV RX6 140 RX2 yX2_calmDown wsX2_calmDown) := goodIn_app (goodIn_of _ (by decide +kernel)) ggX6_reset_X2_calmDown
set_option maxRecDepth 20000 in
theorem ggX6_reset_X6_allOutputsOff : GoodIn wsX6_reset wsX6_allOutputsOff := goodIn_r _ [28, 29, 45, 46, 47, 48, 49, 50, 51, 52, 53, 54] (by decide +kernel) (by decide +kernel)
set_option maxRecDepth 20000 in
theorem gX6_reset_X6_allOutputsOff : GoodIn wsX6_reset (wsV RX6 107 RX6 yX6_allOutputsOff wsX6_allOutputsOff) := goodIn_app (goodIn_of _ (by decide +kernel)) ggX6_reset_X6_allOutputsOff
set_option maxRecDepth 20000 in
theorem ggX6_reset_X0_add : GoodIn wsX6_reset wsX0_add := goodIn_r _ [34, 35, 36, 37, 38, 39, 40, 41, 42, 43, 44, 76, 77] (by decide +kernel) (by decide +kernel)
set_option maxRecDepth 20000 in
theorem gX6_reset_X0_add : GoodIn wsX6_reset (wsV RX6 133 RX0 yX0_add wsX0_add) := goodIn_app (goodIn_of _ (by decide +kernel)) ggX6_reset_X0_add
theorem dX6_reset_0 : decode cX6_reset 0 = .ok (.aload_n 0, 1) := by decide +kernel
theorem dX6_reset_1 : decode cX6_reset 1 = .ok (.iconst 1, 1) := by decide +kernel
theorem dX6_reset_2 : decode cX6_reset 2 = .ok (.invokevirtual 58, 3) := by decide +kernel
theorem dX6_reset_5 : decode cX6_reset 5 = .ok (.iconst 0, 1) := by decide +kernel
theorem dX6_reset_6 : decode cX6_reset 6 = .ok (.istore_n 1, 1) := by decide +kernel
theorem dX6_reset_7 : decode cX6_reset 7 = .ok (.aload_n 0, 1) := by decide +kernel
theorem dX6_reset_8 : decode cX6_reset 8 = .ok (.getfield 18, 3) := by decide +kernel
theorem dX6_reset_11 : decode cX6_reset 11 = .ok (.astore_n 2, 1) := by decide +kernel
theorem dX6_reset_12 : decode cX6_reset 12 = .ok (.aload_n 2, 1) := by decide +kernel
theorem dX6_reset_13 : decode cX6_reset 13 = .ok (.arraylength, 1) := by decide +kernel
theorem dX6_reset_14 : decode cX6_reset 14 = .ok (.istore_n 3, 1) := by decide +kernel
theorem dX6_reset_15 : decode cX6_reset 15 = .ok (.iconst 0, 1) := by decide +kernel
theorem dX6_reset_16 : decode cX6_reset 16 = .ok (.istore 4, 2) := by decide +kernel
theorem dX6_reset_18 : decode cX6_reset 18 = .ok (.iload 4, 2) := by decide +kernel
theorem dX6_reset_20 : decode cX6_reset 20 = .ok (.iload_n 3, 1) := by decide +kernel
theorem dX6_reset_21 : decode cX6_reset 21 = .ok (.if_icmp .ge 37, 3) := by decide +kernel
theorem dX6_reset_24 : decode cX6_reset 24 = .ok (.aload_n 2, 1) := by decide +kernel
theorem dX6_reset_25 : decode cX6_reset 25 = .ok (.iload 4, 2) := by decide +kernel
theorem dX6_reset_27 : decode cX6_reset 27 = .ok (.aaload, 1) := by decide +kernel
theorem dX6_reset_28 : decode cX6_reset 28 = .ok (.astore 5, 2) := by decide +kernel
theorem dX6_reset_30 : decode cX6_reset 30 = .ok (.iload_n 1, 1) := by decide +kernel
theorem dX6_reset_31 : decode cX6_reset 31 = .ok (.aload 5, 2) := by decide +kernel
theorem dX6_reset_33 : decode cX6_reset 33 = .ok (.getfield 137, 3) := by decide +kernel
theorem dX6_reset_36 : decode cX6_reset 36 = .ok (.ifCond .eq 7, 3) := by decide +kernel
theorem dX6_reset_39 : decode cX6_reset 39 = .ok (.iconst 1, 1) := by decide +kernel
theorem dX6_reset_40 : decode cX6_reset 40 = .ok (.goto 4, 3) := by decide +kernel
theorem dX6_reset_43 : decode cX6_reset 43 = .ok (.iconst 0, 1) := by decide +kernel
theorem dX6_reset_44 : decode cX6_reset 44 = .ok (.iadd, 1) := by decide +kernel
theorem dX6_reset_45 : decode cX6_reset 45 = .ok (.istore_n 1, 1) := by decide +kernel
theorem dX6_reset_46 : decode cX6_reset 46 = .ok (.aload 5, 2) := by decide +kernel
theorem dX6_reset_48 : decode cX6_reset 48 = .ok (.iconst 0, 1) := by decide +kernel
theorem dX6_reset_49 : decode cX6_reset 49 = .ok (.putfield 137, 3) := by decide +kernel
theorem dX6_reset_52 : decode cX6_reset 52 = .ok (.iinc 4 1, 3) := by decide +kernel
theorem dX6_reset_55 : decode cX6_reset 55 = .ok (.goto (-37), 3) := by decide +kernel
theorem dX6_reset_58 : decode cX6_reset 58 = .ok (.aload_n 0, 1) := by decide +kernel
theorem dX6_reset_59 : decode cX6_reset 59 = .ok (.getfield 10, 3) := by decide +kernel
theorem dX6_reset_62 : decode cX6_reset 62 = .ok (.getfield 62, 3) := by decide +kernel
theorem dX6_reset_65 : decode cX6_reset 65 = .ok (.astore_n 2, 1) := by decide +kernel
theorem dX6_reset_66 : decode cX6_reset 66 = .ok (.aload_n 2, 1) := by decide +kernel
theorem dX6_reset_67 : decode cX6_reset 67 = .ok (.arraylength, 1) := by decide +kernel
theorem dX6_reset_68 : decode cX6_reset 68 = .ok (.istore_n 3, 1) := by decide +kernel
theorem dX6_reset_69 : decode cX6_reset 69 = .ok (.iconst 0, 1) := by decide +kernel
theorem dX6_reset_70 : decode cX6_reset 70 = .ok (.istore 4, 2) := by decide +kernel
theorem dX6_reset_72 : decode cX6_reset 72 = .ok (.iload 4, 2) := by decide +kernel
theorem dX6_reset_74 : decode cX6_reset 74 = .ok (.iload_n 3, 1) := by decide +kernel
theorem dX6_reset_75 : decode cX6_reset 75 = .ok (.if_icmp .ge 20, 3) := by decide +kernel
theorem dX6_reset_78 : decode cX6_reset 78 = .ok (.aload_n 2, 1) := by decide +kernel
theorem dX6_reset_79 : decode cX6_reset 79 = .ok (.iload 4, 2) := by decide +kernel
theorem dX6_reset_81 : decode cX6_reset 81 = .ok (.aaload, 1) := by decide +kernel
theorem dX6_reset_82 : decode cX6_reset 82 = .ok (.astore 5, 2) := by decide +kernel
theorem dX6_reset_84 : decode cX6_reset 84 = .ok (.aload 5, 2) := by decide +kernel
theorem dX6_reset_86 : decode cX6_reset 86 = .ok (.invokevirtual 140, 3) := by decide +kernel
theorem dX6_reset_89 : decode cX6_reset 89 = .ok (.iinc 4 1, 3) := by decide +kernel
theorem dX6_reset_92 : decode cX6_reset 92 = .ok (.goto (-20), 3) := by decide +kernel
theorem dX6_reset_95 : decode cX6_reset 95 = .ok (.aload_n 0, 1) := by decide +kernel
theorem dX6_reset_96 : decode cX6_reset 96 = .ok (.getfield 25, 3) := by decide +kernel
theorem dX6_reset_99 : decode cX6_reset 99 = .ok (.astore_n 2, 1) := by decide +kernel
theorem dX6_reset_100 : decode cX6_reset 100 = .ok (.aload_n 2, 1) := by decide +kernel
theorem dX6_reset_101 : decode cX6_reset 101 = .ok (.arraylength, 1) := by decide +kernel
theorem dX6_reset_102 : decode cX6_reset 102 = .ok (.istore_n 3, 1) := by decide +kernel
theorem dX6_reset_103 : decode cX6_reset 103 = .ok (.iconst 0, 1) := by decide +kernel
theorem dX6_reset_104 : decode cX6_reset 104 = .ok (.istore 4, 2) := by decide +kernel
theorem dX6_reset_106 : decode cX6_reset 106 = .ok (.iload 4, 2) := by decide +kernel
theorem dX6_reset_108 : decode cX6_reset 108 = .ok (.iload_n 3, 1) := by decide +kernel
theorem dX6_reset_109 : decode cX6_reset 109 = .ok (.if_icmp .ge 21, 3) := by decide +kernel
theorem dX6_reset_112 : decode cX6_reset 112 = .ok (.aload_n 2, 1) := by decide +kernel
theorem dX6_reset_113 : decode cX6_reset 113 = .ok (.iload 4, 2) := by decide +kernel
theorem dX6_reset_115 : decode cX6_reset 115 = .ok (.aaload, 1) := by decide +kernel
theorem dX6_reset_116 : decode cX6_reset 116 = .ok (.astore 5, 2) := by decide +kernel
theorem dX6_reset_118 : decode cX6_reset 118 = .ok (.aload 5, 2) := by decide +kernel
theorem dX6_reset_120 : decode cX6_reset 120 = .ok (.iconst 0, 1) := by decide +kernel
theorem dX6_reset_121 : decode cX6_reset 121 = .ok (.putfield 143, 3) := by decide +kernel
theorem dX6_reset_124 : decode cX6_reset 124 = .ok (.iinc 4 1, 3) := by decide +kernel
theorem dX6_reset_127 : decode cX6_reset 127 = .ok (.goto (-21), 3) := by decide +kernel
theorem dX6_reset_130 : decode cX6_reset 130 = .ok (.aload_n 0, 1) := by decide +kernel
theorem dX6_reset_131 : decode cX6_reset 131 = .ok (.invokevirtual 107, 3) := by decide +kernel
theorem dX6_reset_134 : decode cX6_reset 134 = .ok (.aload_n 0, 1) := by decide +kernel
theorem dX6_reset_135 : decode cX6_reset 135 = .ok (.iconst 0, 1) := by decide +kernel
theorem dX6_reset_136 : decode cX6_reset 136 = .ok (.putfield 129, 3) := by decide +kernel
theorem dX6_reset_139 : decode cX6_reset 139 = .ok (.aload_n 0, 1) := by decide +kernel
theorem dX6_reset_140 : decode cX6_reset 140 = .ok (.getfield 44, 3) := by decide +kernel
theorem dX6_reset_143 : decode cX6_reset 143 = .ok (.bipush 6, 2) := by decide +kernel
theorem dX6_reset_145 : decode cX6_reset 145 = .ok (.iconst 0, 1) := by decide +kernel
theorem dX6_reset_146 : decode cX6_reset 146 = .ok (.aload_n 0, 1) := by decide +kernel
theorem dX6_reset_147 : decode cX6_reset 147 = .ok (.getfield 110, 3) := by decide +kernel
theorem dX6_reset_150 : decode cX6_reset 150 = .ok (.invokevirtual 133, 3) := by decide +kernel
theorem dX6_reset_153 : decode cX6_reset 153 = .ok (.iload_n 1, 1) := by decide +kernel
theorem dX6_reset_154 : decode cX6_reset 154 = .ok (.ireturn, 1) := by decide +kernel
set_option maxRecDepth 20000 in
theorem ggX6_off_X6_mustExist : GoodIn wsX6_off wsX6_mustExist := goodIn_ca (goodIn_r _ [11, 12, 13] (by decide +kernel) (by decide +kernel)) (goodIn_sub (fun _ h => List.mem_cons_of_mem _ (List.mem_append_left _ (List.mem_append_right _ h))) (by decide +kernel))
set_option maxRecDepth 20000 in
theorem gX6_off_X6_mustExist : GoodIn wsX6_off (va_wsS RX6 48 yX6_mustExist wsX6_mustExist) := goodIn_app (goodIn_of _ (by decide +kernel)) ggX6_off_X6_mustExist
set_option maxRecDepth 20000 in
theorem ggX6_off_X6_mustHaveEntered : GoodIn wsX6_off wsX6_mustHaveEntered := goodIn_ca (goodIn_r _ [17, 18, 19, 20, 36, 37, 38, 39, 40, 41, 42, 43, 44, 45] (by decide +kernel) (by decide +kernel)) (goodIn_sub (fun _ h => List.mem_cons_of_mem _ (List.mem_append_right _ h)) (by decide +kernel))
set_option maxRecDepth 20000 in
theorem gX6_off_X6_mustHaveEntered : GoodIn wsX6_off (wsV RX6 58 RX6 yX6_mustHaveEntered wsX6_mustHaveEntered) := goodIn_app (goodIn_of _ (by decide +kernel)) ggX6_off_X6_mustHaveEntered
set_option maxRecDepth 20000 in
theorem ggX6_off_X0_add : GoodIn wsX6_off wsX0_add := goodIn_r _ [25, 26, 27, 28, 29, 30, 31, 32, 33, 34, 35, 62, 63] (by decide +kernel) (by decide +kernel)
set_option maxRecDepth 20000 in
theorem gX6_off_X0_add : GoodIn wsX6_off (wsV RX6 133 RX0 yX0_add wsX0_add) := goodIn_app (goodIn_of _ (by decide +kernel)) ggX6_off_X0_add
theorem dX6_off_0 : decode cX6_off 0 = .ok (.iload_n 2, 1) := by decide +kernel
theorem dX6_off_1 : decode cX6_off 1 = .ok (.iload_n 1, 1) := by decide +kernel
theorem dX6_off_2 : decode cX6_off 2 = .ok (.ifCond .eq 7, 3) := by decide +kernel
theorem dX6_off_5 : decode cX6_off 5 = .ok (.iconst 4, 1) := by decide +kernel
theorem dX6_off_6 : decode cX6_off 6 = .ok (.goto 5, 3) := by decide +kernel
theorem dX6_off_9 : decode cX6_off 9 = .ok (.bipush 16, 2) := by decide +kernel
theorem dX6_off_11 : decode cX6_off 11 = .ok (.invokestatic 48, 3) := by decide +kernel
theorem dX6_off_14 : decode cX6_off 14 = .ok (.aload_n 0, 1) := by decide +kernel
theorem dX6_off_15 : decode cX6_off 15 = .ok (.iconst 2, 1) := by decide +kernel
theorem dX6_off_16 : decode cX6_off 16 = .ok (.invokevirtual 58, 3) := by decide +kernel
theorem dX6_off_19 : decode cX6_off 19 = .ok (.iload_n 1, 1) := by decide +kernel
theorem dX6_off_20 : decode cX6_off 20 = .ok (.ifCond .eq 15, 3) := by decide +kernel
theorem dX6_off_23 : decode cX6_off 23 = .ok (.aload_n 0, 1) := by decide +kernel
theorem dX6_off_24 : decode cX6_off 24 = .ok (.getfield 18, 3) := by decide +kernel
theorem dX6_off_27 : decode cX6_off 27 = .ok (.iload_n 2, 1) := by decide +kernel
theorem dX6_off_28 : decode cX6_off 28 = .ok (.aaload, 1) := by decide +kernel
theorem dX6_off_29 : decode cX6_off 29 = .ok (.getfield 146, 3) := by decide +kernel
theorem dX6_off_32 : decode cX6_off 32 = .ok (.goto 15, 3) := by decide +kernel
theorem dX6_off_35 : decode cX6_off 35 = .ok (.aload_n 0, 1) := by decide +kernel
theorem dX6_off_36 : decode cX6_off 36 = .ok (.getfield 10, 3) := by decide +kernel
theorem dX6_off_39 : decode cX6_off 39 = .ok (.getfield 62, 3) := by decide +kernel
theorem dX6_off_42 : decode cX6_off 42 = .ok (.iload_n 2, 1) := by decide +kernel
theorem dX6_off_43 : decode cX6_off 43 = .ok (.aaload, 1) := by decide +kernel
theorem dX6_off_44 : decode cX6_off 44 = .ok (.getfield 149, 3) := by decide +kernel
theorem dX6_off_47 : decode cX6_off 47 = .ok (.istore 4, 2) := by decide +kernel
theorem dX6_off_49 : decode cX6_off 49 = .ok (.iload 4, 2) := by decide +kernel
theorem dX6_off_51 : decode cX6_off 51 = .ok (.iload_n 3, 1) := by decide +kernel
theorem dX6_off_52 : decode cX6_off 52 = .ok (.if_icmp .ne 5, 3) := by decide +kernel
theorem dX6_off_55 : decode cX6_off 55 = .ok (.iconst 0, 1) := by decide +kernel
theorem dX6_off_56 : decode cX6_off 56 = .ok (.ireturn, 1) := by decide +kernel
theorem dX6_off_57 : decode cX6_off 57 = .ok (.iload_n 1, 1) := by decide +kernel
theorem dX6_off_58 : decode cX6_off 58 = .ok (.ifCond .eq 16, 3) := by decide +kernel
theorem dX6_off_61 : decode cX6_off 61 = .ok (.aload_n 0, 1) := by decide +kernel
theorem dX6_off_62 : decode cX6_off 62 = .ok (.getfield 18, 3) := by decide +kernel
theorem dX6_off_65 : decode cX6_off 65 = .ok (.iload_n 2, 1) := by decide +kernel
theorem dX6_off_66 : decode cX6_off 66 = .ok (.aaload, 1) := by decide +kernel
theorem dX6_off_67 : decode cX6_off 67 = .ok (.iload_n 3, 1) := by decide +kernel
theorem dX6_off_68 : decode cX6_off 68 = .ok (.putfield 146, 3) := by decide +kernel
theorem dX6_off_71 : decode cX6_off 71 = .ok (.goto 16, 3) := by decide +kernel
theorem dX6_off_74 : decode cX6_off 74 = .ok (.aload_n 0, 1) := by decide +kernel
theorem dX6_off_75 : decode cX6_off 75 = .ok (.getfield 10, 3) := by decide +kernel
theorem dX6_off_78 : decode cX6_off 78 = .ok (.getfield 62, 3) := by decide +kernel
theorem dX6_off_81 : decode cX6_off 81 = .ok (.iload_n 2, 1) := by decide +kernel
theorem dX6_off_82 : decode cX6_off 82 = .ok (.aaload, 1) := by decide +kernel
theorem dX6_off_83 : decode cX6_off 83 = .ok (.iload_n 3, 1) := by decide +kernel
theorem dX6_off_84 : decode cX6_off 84 = .ok (.putfield 149, 3) := by decide +kernel
theorem dX6_off_87 : decode cX6_off 87 = .ok (.aload_n 0, 1) := by decide +kernel
theorem dX6_off_88 : decode cX6_off 88 = .ok (.getfield 44, 3) := by decide +kernel
theorem dX6_off_91 : decode cX6_off 91 = .ok (.bipush 7, 2) := by decide +kernel
theorem dX6_off_93 : decode cX6_off 93 = .ok (.iload_n 1, 1) := by decide +kernel
theorem dX6_off_94 : decode cX6_off 94 = .ok (.ifCond .eq 7, 3) := by decide +kernel
theorem dX6_off_97 : decode cX6_off 97 = .ok (.iload_n 2, 1) := by decide +kernel
theorem dX6_off_98 : decode cX6_off 98 = .ok (.goto 7, 3) := by decide +kernel
theorem dX6_off_101 : decode cX6_off 101 = .ok (.bipush 10, 2) := by decide +kernel
theorem dX6_off_103 : decode cX6_off 103 = .ok (.iload_n 2, 1) := by decide +kernel
theorem dX6_off_104 : decode cX6_off 104 = .ok (.iadd, 1) := by decide +kernel
theorem dX6_off_105 : decode cX6_off 105 = .ok (.aload_n 0, 1) := by decide +kernel
theorem dX6_off_106 : decode cX6_off 106 = .ok (.getfield 110, 3) := by decide +kernel
theorem dX6_off_109 : decode cX6_off 109 = .ok (.invokevirtual 133, 3) := by decide +kernel
theorem dX6_off_112 : decode cX6_off 112 = .ok (.iconst 1, 1) := by decide +kernel
theorem dX6_off_113 : decode cX6_off 113 = .ok (.ireturn, 1) := by decide +kernel
set_option maxRecDepth 20000 in
theorem ggX6_level_X6_mustExist : GoodIn wsX6_level wsX6_mustExist := goodIn_ca (goodIn_r _ [7, 8, 9] (by decide +kernel) (by decide +kernel)) (goodIn_sub (fun _ h => List.mem_cons_of_mem _ (List.mem_append_right _ h)) (by decide +kernel))
set_option maxRecDepth 20000 in
theorem gX6_level_X6_mustExist : GoodIn wsX6_level (va_wsS RX6 48 yX6_mustExist wsX6_mustExist) := goodIn_app (goodIn_of _ (by decide +kernel)) ggX6_level_X6_mustExist
theorem dX6_level_0 : decode cX6_level 0 = .ok (.iload_n 1, 1) := by decide +kernel
theorem dX6_level_1 : decode cX6_level 1 = .ok (.bipush 16, 2) := by decide +kernel
theorem dX6_level_3 : decode cX6_level 3 = .ok (.invokestatic 48, 3) := by decide +kernel
theorem dX6_level_6 : decode cX6_level 6 = .ok (.aload_n 0, 1) := by decide +kernel
theorem dX6_level_7 : decode cX6_level 7 = .ok (.getfield 10, 3) := by decide +kernel
theorem dX6_level_10 : decode cX6_level 10 = .ok (.getfield 62, 3) := by decide +kernel
theorem dX6_level_13 : decode cX6_level 13 = .ok (.iload_n 1, 1) := by decide +kernel
theorem dX6_level_14 : decode cX6_level 14 = .ok (.aaload, 1) := by decide +kernel
theorem dX6_level_15 : decode cX6_level 15 = .ok (.getfield 150, 3) := by decide +kernel
theorem dX6_level_18 : decode cX6_level 18 = .ok (.freturn, 1) := by decide +kernel
set_option maxRecDepth 20000 in
theorem ggX6_base_X6_mustExist : GoodIn wsX6_base wsX6_mustExist := goodIn_ca (goodIn_r _ [7, 8, 9] (by decide +kernel) (by decide +kernel)) (goodIn_sub (fun _ h => List.mem_cons_of_mem _ (List.mem_append_right _ h)) (by decide +kernel))
set_option maxRecDepth 20000 in
theorem gX6_base_X6_mustExist : GoodIn wsX6_base (va_wsS RX6 48 yX6_mustExist wsX6_mustExist) := goodIn_app (goodIn_of _ (by decide +kernel)) ggX6_base_X6_mustExist
theorem dX6_base_0 : decode cX6_base 0 = .ok (.iload_n 1, 1) := by decide +kernel
theorem dX6_base_1 : decode cX6_base 1 = .ok (.bipush 16, 2) := by decide +kernel
theorem dX6_base_3 : decode cX6_base 3 = .ok (.invokestatic 48, 3) := by decide +kernel
theorem dX6_base_6 : decode cX6_base 6 = .ok (.aload_n 0, 1) := by decide +kernel
theorem dX6_base_7 : decode cX6_base 7 = .ok (.getfield 10, 3) := by decide +kernel
theorem dX6_base_10 : decode cX6_base 10 = .ok (.getfield 62, 3) := by decide +kernel
theorem dX6_base_13 : decode cX6_base 13 = .ok (.iload_n 1, 1) := by decide +kernel
theorem dX6_base_14 : decode cX6_base 14 = .ok (.aaload, 1) := by decide +kernel
theorem dX6_base_15 : decode cX6_base 15 = .ok (.getfield 153, 3) := by decide +kernel
theorem dX6_base_18 : decode cX6_base 18 = .ok (.freturn, 1) := by decide +kernel
set_option maxRecDepth 20000 in
theorem ggX6_place_X6_mustExist : GoodIn wsX6_place wsX6_mustExist := goodIn_ca (goodIn_r _ [10, 11, 12] (by decide +kernel) (by decide +kernel)) (goodIn_sub (fun _ h => List.mem_cons_of_mem _ (List.mem_append_right _ h)) (by decide +kernel))
set_option maxRecDepth 20000 in
theorem gX6_place_X6_mustExist : GoodIn wsX6_place (va_wsS RX6 48 yX6_mustExist wsX6_mustExist) := goodIn_app (goodIn_of _ (by decide +kernel)) ggX6_place_X6_mustExist
set_option maxRecDepth 20000 in
theorem ggX6_place_X3_reachedPlaces : GoodIn wsX6_place wsX3_reachedPlaces := goodIn_r _ [17, 18, 19, 20, 16, 21, 22, 23, 24, 25, 26, 27, 28, 39, 40, 41, 42, 43, 44, 45, 46, 47, 48, 49, 50, 51] (by decide +kernel) (by decide +kernel)
set_option maxRecDepth 20000 in
theorem gX6_place_X3_reachedPlaces : GoodIn wsX6_place (wsV RX6 156 RX3 yX3_reachedPlaces wsX3_reachedPlaces) := goodIn_app (goodIn_of _ (by decide +kernel)) ggX6_place_X3_reachedPlaces
theorem dX6_place_0 : decode cX6_place 0 = .ok (.iload_n 1, 1) := by decide +kernel
theorem dX6_place_1 : decode cX6_place 1 = .ok (.bipush 16, 2) := by decide +kernel
theorem dX6_place_3 : decode cX6_place 3 = .ok (.invokestatic 48, 3) := by decide +kernel
theorem dX6_place_6 : decode cX6_place 6 = .ok (.aload_n 0, 1) := by decide +kernel
theorem dX6_place_7 : decode cX6_place 7 = .ok (.getfield 10, 3) := by decide +kernel
theorem dX6_place_10 : decode cX6_place 10 = .ok (.getfield 62, 3) := by decide +kernel
theorem dX6_place_13 : decode cX6_place 13 = .ok (.iload_n 1, 1) := by decide +kernel
theorem dX6_place_14 : decode cX6_place 14 = .ok (.aaload, 1) := by decide +kernel
theorem dX6_place_15 : decode cX6_place 15 = .ok (.astore_n 2, 1) := by decide +kernel
theorem dX6_place_16 : decode cX6_place 16 = .ok (.aload_n 0, 1) := by decide +kernel
theorem dX6_place_17 : decode cX6_place 17 = .ok (.getfield 10, 3) := by decide +kernel
theorem dX6_place_20 : decode cX6_place 20 = .ok (.invokevirtual 156, 3) := by decide +kernel
theorem dX6_place_23 : decode cX6_place 23 = .ok (.iload_n 1, 1) := by decide +kernel
theorem dX6_place_24 : decode cX6_place 24 = .ok (.ishr, 1) := by decide +kernel
theorem dX6_place_25 : decode cX6_place 25 = .ok (.iconst 1, 1) := by decide +kernel
theorem dX6_place_26 : decode cX6_place 26 = .ok (.iand, 1) := by decide +kernel
theorem dX6_place_27 : decode cX6_place 27 = .ok (.istore_n 3, 1) := by decide +kernel
theorem dX6_place_28 : decode cX6_place 28 = .ok (.iload_n 3, 1) := by decide +kernel
theorem dX6_place_29 : decode cX6_place 29 = .ok (.aload_n 2, 1) := by decide +kernel
theorem dX6_place_30 : decode cX6_place 30 = .ok (.getfield 159, 3) := by decide +kernel
theorem dX6_place_33 : decode cX6_place 33 = .ok (.ifCond .eq 7, 3) := by decide +kernel
theorem dX6_place_36 : decode cX6_place 36 = .ok (.iconst 2, 1) := by decide +kernel
theorem dX6_place_37 : decode cX6_place 37 = .ok (.goto 4, 3) := by decide +kernel
theorem dX6_place_40 : decode cX6_place 40 = .ok (.iconst 0, 1) := by decide +kernel
theorem dX6_place_41 : decode cX6_place 41 = .ok (.iadd, 1) := by decide +kernel
theorem dX6_place_42 : decode cX6_place 42 = .ok (.aload_n 2, 1) := by decide +kernel
theorem dX6_place_43 : decode cX6_place 43 = .ok (.getfield 162, 3) := by decide +kernel
theorem dX6_place_46 : decode cX6_place 46 = .ok (.ifCond .eq 7, 3) := by decide +kernel
theorem dX6_place_49 : decode cX6_place 49 = .ok (.iconst 4, 1) := by decide +kernel
theorem dX6_place_50 : decode cX6_place 50 = .ok (.goto 4, 3) := by decide +kernel
theorem dX6_place_53 : decode cX6_place 53 = .ok (.iconst 0, 1) := by decide +kernel
theorem dX6_place_54 : decode cX6_place 54 = .ok (.iadd, 1) := by decide +kernel
theorem dX6_place_55 : decode cX6_place 55 = .ok (.aload_n 2, 1) := by decide +kernel
theorem dX6_place_56 : decode cX6_place 56 = .ok (.getfield 149, 3) := by decide +kernel
theorem dX6_place_59 : decode cX6_place 59 = .ok (.ifCond .eq 8, 3) := by decide +kernel
theorem dX6_place_62 : decode cX6_place 62 = .ok (.bipush 8, 2) := by decide +kernel
theorem dX6_place_64 : decode cX6_place 64 = .ok (.goto 4, 3) := by decide +kernel
theorem dX6_place_67 : decode cX6_place 67 = .ok (.iconst 0, 1) := by decide +kernel
theorem dX6_place_68 : decode cX6_place 68 = .ok (.iadd, 1) := by decide +kernel
theorem dX6_place_69 : decode cX6_place 69 = .ok (.bipush 16, 2) := by decide +kernel
theorem dX6_place_71 : decode cX6_place 71 = .ok (.aload_n 2, 1) := by decide +kernel
theorem dX6_place_72 : decode cX6_place 72 = .ok (.getfield 165, 3) := by decide +kernel
theorem dX6_place_75 : decode cX6_place 75 = .ok (.imul, 1) := by decide +kernel
theorem dX6_place_76 : decode cX6_place 76 = .ok (.iadd, 1) := by decide +kernel
theorem dX6_place_77 : decode cX6_place 77 = .ok (.ireturn, 1) := by decide +kernel
set_option maxRecDepth 20000 in
theorem ggX6_zone_X6_mustExist : GoodIn wsX6_zone wsX6_mustExist := goodIn_ca (goodIn_r _ [7, 8, 9] (by decide +kernel) (by decide +kernel)) (goodIn_sub (fun _ h => List.mem_cons_of_mem _ (List.mem_append_right _ h)) (by decide +kernel))
set_option maxRecDepth 20000 in
theorem gX6_zone_X6_mustExist : GoodIn wsX6_zone (va_wsS RX6 48 yX6_mustExist wsX6_mustExist) := goodIn_app (goodIn_of _ (by decide +kernel)) ggX6_zone_X6_mustExist
set_option maxRecDepth 20000 in
theorem ggX6_zone_X6_hasWarning : GoodIn wsX6_zone wsX6_hasWarning := goodIn_r _ [13, 14, 15, 16, 17, 18, 19, 20, 21, 22, 23, 24, 25, 26, 27, 28, 29, 30, 31, 32, 33, 34, 35, 36, 37, 38, 39, 40, 41, 42, 43, 44, 45, 49, 50, 51, 52, 53, 54, 55, 56, 57, 58, 59, 60, 61] (by decide +kernel) (by decide +kernel)
set_option maxRecDepth 20000 in
theorem gX6_zone_X6_hasWarning : GoodIn wsX6_zone (wsV RX6 168 RX6 yX6_hasWarning wsX6_hasWarning) := goodIn_app (goodIn_of _ (by decide +kernel)) ggX6_zone_X6_hasWarning
theorem dX6_zone_0 : decode cX6_zone 0 = .ok (.iload_n 1, 1) := by decide +kernel
theorem dX6_zone_1 : decode cX6_zone 1 = .ok (.iconst 4, 1) := by decide +kernel
theorem dX6_zone_2 : decode cX6_zone 2 = .ok (.invokestatic 48, 3) := by decide +kernel
theorem dX6_zone_5 : decode cX6_zone 5 = .ok (.aload_n 0, 1) := by decide +kernel
theorem dX6_zone_6 : decode cX6_zone 6 = .ok (.getfield 18, 3) := by decide +kernel
theorem dX6_zone_9 : decode cX6_zone 9 = .ok (.iload_n 1, 1) := by decide +kernel
theorem dX6_zone_10 : decode cX6_zone 10 = .ok (.aaload, 1) := by decide +kernel
theorem dX6_zone_11 : decode cX6_zone 11 = .ok (.astore_n 2, 1) := by decide +kernel
theorem dX6_zone_12 : decode cX6_zone 12 = .ok (.aload_n 2, 1) := by decide +kernel
theorem dX6_zone_13 : decode cX6_zone 13 = .ok (.getfield 137, 3) := by decide +kernel
theorem dX6_zone_16 : decode cX6_zone 16 = .ok (.ifCond .eq 7, 3) := by decide +kernel
theorem dX6_zone_19 : decode cX6_zone 19 = .ok (.iconst 1, 1) := by decide +kernel
theorem dX6_zone_20 : decode cX6_zone 20 = .ok (.goto 4, 3) := by decide +kernel
theorem dX6_zone_23 : decode cX6_zone 23 = .ok (.iconst 0, 1) := by decide +kernel
theorem dX6_zone_24 : decode cX6_zone 24 = .ok (.aload_n 0, 1) := by decide +kernel
theorem dX6_zone_25 : decode cX6_zone 25 = .ok (.iload_n 1, 1) := by decide +kernel
theorem dX6_zone_26 : decode cX6_zone 26 = .ok (.invokevirtual 168, 3) := by decide +kernel
theorem dX6_zone_29 : decode cX6_zone 29 = .ok (.ifCond .eq 7, 3) := by decide +kernel
theorem dX6_zone_32 : decode cX6_zone 32 = .ok (.iconst 2, 1) := by decide +kernel
theorem dX6_zone_33 : decode cX6_zone 33 = .ok (.goto 4, 3) := by decide +kernel
theorem dX6_zone_36 : decode cX6_zone 36 = .ok (.iconst 0, 1) := by decide +kernel
theorem dX6_zone_37 : decode cX6_zone 37 = .ok (.iadd, 1) := by decide +kernel
theorem dX6_zone_38 : decode cX6_zone 38 = .ok (.aload_n 2, 1) := by decide +kernel
theorem dX6_zone_39 : decode cX6_zone 39 = .ok (.getfield 146, 3) := by decide +kernel
theorem dX6_zone_42 : decode cX6_zone 42 = .ok (.ifCond .eq 7, 3) := by decide +kernel
theorem dX6_zone_45 : decode cX6_zone 45 = .ok (.iconst 4, 1) := by decide +kernel
theorem dX6_zone_46 : decode cX6_zone 46 = .ok (.goto 4, 3) := by decide +kernel
theorem dX6_zone_49 : decode cX6_zone 49 = .ok (.iconst 0, 1) := by decide +kernel
theorem dX6_zone_50 : decode cX6_zone 50 = .ok (.iadd, 1) := by decide +kernel
theorem dX6_zone_51 : decode cX6_zone 51 = .ok (.ireturn, 1) := by decide +kernel
set_option maxRecDepth 20000 in
theorem ggX6_output_X6_mustExist : GoodIn wsX6_output wsX6_mustExist := goodIn_ca (goodIn_r _ [6, 7, 8] (by decide +kernel) (by decide +kernel)) (goodIn_sub (fun _ h => List.mem_cons_of_mem _ (List.mem_append_right _ h)) (by decide +kernel))
set_option maxRecDepth 20000 in
theorem gX6_output_X6_mustExist : GoodIn wsX6_output (va_wsS RX6 48 yX6_mustExist wsX6_mustExist) := goodIn_app (goodIn_of _ (by decide +kernel)) ggX6_output_X6_mustExist
theorem dX6_output_0 : decode cX6_output 0 = .ok (.iload_n 1, 1) := by decide +kernel
theorem dX6_output_1 : decode cX6_output 1 = .ok (.bipush 6, 2) := by decide +kernel
theorem dX6_output_3 : decode cX6_output 3 = .ok (.invokestatic 48, 3) := by decide +kernel
theorem dX6_output_6 : decode cX6_output 6 = .ok (.aload_n 0, 1) := by decide +kernel
theorem dX6_output_7 : decode cX6_output 7 = .ok (.getfield 30, 3) := by decide +kernel
theorem dX6_output_10 : decode cX6_output 10 = .ok (.iload_n 1, 1) := by decide +kernel
theorem dX6_output_11 : decode cX6_output 11 = .ok (.baload, 1) := by decide +kernel
theorem dX6_output_12 : decode cX6_output 12 = .ok (.ifCond .ne 5, 3) := by decide +kernel
theorem dX6_output_15 : decode cX6_output 15 = .ok (.iconst 0, 1) := by decide +kernel
theorem dX6_output_16 : decode cX6_output 16 = .ok (.ireturn, 1) := by decide +kernel
theorem dX6_output_17 : decode cX6_output 17 = .ok (.aload_n 0, 1) := by decide +kernel
theorem dX6_output_18 : decode cX6_output 18 = .ok (.getfield 129, 3) := by decide +kernel
theorem dX6_output_21 : decode cX6_output 21 = .ok (.ifCond .eq 12, 3) := by decide +kernel
theorem dX6_output_24 : decode cX6_output 24 = .ok (.iload_n 1, 1) := by decide +kernel
theorem dX6_output_25 : decode cX6_output 25 = .ok (.iconst 3, 1) := by decide +kernel
theorem dX6_output_26 : decode cX6_output 26 = .ok (.if_icmp .ge 7, 3) := by decide +kernel
theorem dX6_output_29 : decode cX6_output 29 = .ok (.iconst 1, 1) := by decide +kernel
theorem dX6_output_30 : decode cX6_output 30 = .ok (.goto 4, 3) := by decide +kernel
theorem dX6_output_33 : decode cX6_output 33 = .ok (.iconst 0, 1) := by decide +kernel
theorem dX6_output_34 : decode cX6_output 34 = .ok (.istore_n 2, 1) := by decide +kernel
theorem dX6_output_35 : decode cX6_output 35 = .ok (.iload_n 2, 1) := by decide +kernel
theorem dX6_output_36 : decode cX6_output 36 = .ok (.ifCond .eq 7, 3) := by decide +kernel
theorem dX6_output_39 : decode cX6_output 39 = .ok (.iconst 1, 1) := by decide +kernel
theorem dX6_output_40 : decode cX6_output 40 = .ok (.goto 4, 3) := by decide +kernel
theorem dX6_output_43 : decode cX6_output 43 = .ok (.iconst 3, 1) := by decide +kernel
theorem dX6_output_44 : decode cX6_output 44 = .ok (.ireturn, 1) := by decide +kernel
set_option maxRecDepth 20000 in
theorem ggX6_held_X6_mustExist : GoodIn wsX6_held wsX6_mustExist := goodIn_ca (goodIn_r _ [11, 12, 13] (by decide +kernel) (by decide +kernel)) (goodIn_sub (fun _ h => List.mem_cons_of_mem _ (List.mem_append_right _ h)) (by decide +kernel))
set_option maxRecDepth 20000 in
theorem gX6_held_X6_mustExist : GoodIn wsX6_held (va_wsS RX6 48 yX6_mustExist wsX6_mustExist) := goodIn_app (goodIn_of _ (by decide +kernel)) ggX6_held_X6_mustExist
theorem dX6_held_0 : decode cX6_held 0 = .ok (.iload_n 1, 1) := by decide +kernel
theorem dX6_held_1 : decode cX6_held 1 = .ok (.aload_n 0, 1) := by decide +kernel
theorem dX6_held_2 : decode cX6_held 2 = .ok (.getfield 90, 3) := by decide +kernel
theorem dX6_held_5 : decode cX6_held 5 = .ok (.bipush 6, 2) := by decide +kernel
theorem dX6_held_7 : decode cX6_held 7 = .ok (.invokestatic 172, 3) := by decide +kernel
theorem dX6_held_10 : decode cX6_held 10 = .ok (.invokestatic 48, 3) := by decide +kernel
theorem dX6_held_13 : decode cX6_held 13 = .ok (.aload_n 0, 1) := by decide +kernel
theorem dX6_held_14 : decode cX6_held 14 = .ok (.getfield 25, 3) := by decide +kernel
theorem dX6_held_17 : decode cX6_held 17 = .ok (.iload_n 1, 1) := by decide +kernel
theorem dX6_held_18 : decode cX6_held 18 = .ok (.aaload, 1) := by decide +kernel
theorem dX6_held_19 : decode cX6_held 19 = .ok (.getfield 143, 3) := by decide +kernel
theorem dX6_held_22 : decode cX6_held 22 = .ok (.ireturn, 1) := by decide +kernel
set_option maxRecDepth 20000 in
theorem ggX6_log_X6_mustBeAllowed : GoodIn wsX6_log wsX6_mustBeAllowed := goodIn_ca (goodIn_r _ [11, 12, 13] (by decide +kernel) (by decide +kernel)) (goodIn_sub (fun _ h => List.mem_cons_of_mem _ (List.mem_append_right _ h)) (by decide +kernel))
set_option maxRecDepth 20000 in
theorem gX6_log_X6_mustBeAllowed : GoodIn wsX6_log (va_wsS RX6 52 yX6_mustBeAllowed wsX6_mustBeAllowed) := goodIn_app (goodIn_of _ (by decide +kernel)) ggX6_log_X6_mustBeAllowed
theorem dX6_log_0 : decode cX6_log 0 = .ok (.iload_n 1, 1) := by decide +kernel
theorem dX6_log_1 : decode cX6_log 1 = .ok (.ifCond .lt 23, 3) := by decide +kernel
theorem dX6_log_4 : decode cX6_log 4 = .ok (.iload_n 1, 1) := by decide +kernel
theorem dX6_log_5 : decode cX6_log 5 = .ok (.aload_n 0, 1) := by decide +kernel
theorem dX6_log_6 : decode cX6_log 6 = .ok (.getfield 44, 3) := by decide +kernel
theorem dX6_log_9 : decode cX6_log 9 = .ok (.getfield 178, 3) := by decide +kernel
theorem dX6_log_12 : decode cX6_log 12 = .ok (.bipush 16, 2) := by decide +kernel
theorem dX6_log_14 : decode cX6_log 14 = .ok (.invokestatic 172, 3) := by decide +kernel
theorem dX6_log_17 : decode cX6_log 17 = .ok (.if_icmp .ge 7, 3) := by decide +kernel
theorem dX6_log_20 : decode cX6_log 20 = .ok (.iconst 1, 1) := by decide +kernel
theorem dX6_log_21 : decode cX6_log 21 = .ok (.goto 4, 3) := by decide +kernel
theorem dX6_log_24 : decode cX6_log 24 = .ok (.iconst 0, 1) := by decide +kernel
theorem dX6_log_25 : decode cX6_log 25 = .ok (.invokestatic 52, 3) := by decide +kernel
theorem dX6_log_28 : decode cX6_log 28 = .ok (.iload_n 2, 1) := by decide +kernel
theorem dX6_log_29 : decode cX6_log 29 = .ok (.ifCond .lt 12, 3) := by decide +kernel
theorem dX6_log_32 : decode cX6_log 32 = .ok (.iload_n 2, 1) := by decide +kernel
theorem dX6_log_33 : decode cX6_log 33 = .ok (.iconst 3, 1) := by decide +kernel
theorem dX6_log_34 : decode cX6_log 34 = .ok (.if_icmp .ge 7, 3) := by decide +kernel
theorem dX6_log_37 : decode cX6_log 37 = .ok (.iconst 1, 1) := by decide +kernel
theorem dX6_log_38 : decode cX6_log 38 = .ok (.goto 4, 3) := by decide +kernel
theorem dX6_log_41 : decode cX6_log 41 = .ok (.iconst 0, 1) := by decide +kernel
theorem dX6_log_42 : decode cX6_log 42 = .ok (.invokestatic 52, 3) := by decide +kernel
theorem dX6_log_45 : decode cX6_log 45 = .ok (.aload_n 0, 1) := by decide +kernel
theorem dX6_log_46 : decode cX6_log 46 = .ok (.getfield 44, 3) := by decide +kernel
theorem dX6_log_49 : decode cX6_log 49 = .ok (.getfield 181, 3) := by decide +kernel
theorem dX6_log_52 : decode cX6_log 52 = .ok (.iload_n 1, 1) := by decide +kernel
theorem dX6_log_53 : decode cX6_log 53 = .ok (.iconst 3, 1) := by decide +kernel
theorem dX6_log_54 : decode cX6_log 54 = .ok (.imul, 1) := by decide +kernel
theorem dX6_log_55 : decode cX6_log 55 = .ok (.iload_n 2, 1) := by decide +kernel
theorem dX6_log_56 : decode cX6_log 56 = .ok (.iadd, 1) := by decide +kernel
theorem dX6_log_57 : decode cX6_log 57 = .ok (.iaload, 1) := by decide +kernel
theorem dX6_log_58 : decode cX6_log 58 = .ok (.ireturn, 1) := by decide +kernel
set_option maxRecDepth 20000 in
theorem ggX6_count_X6_faults : GoodIn wsX6_count wsX6_faults := goodIn_r _ [13, 14, 15, 16, 17, 18, 19, 20, 21, 22, 23, 24, 25, 26, 30, 31, 32, 33, 34, 35, 36, 37, 38, 39, 40, 41, 42] (by decide +kernel) (by decide +kernel)
set_option maxRecDepth 20000 in
theorem gX6_count_X6_faults : GoodIn wsX6_count (wsV RX6 184 RX6 yX6_faults wsX6_faults) := goodIn_app (goodIn_of _ (by decide +kernel)) ggX6_count_X6_faults
theorem dX6_count_0 : decode cX6_count 0 = .ok (.iload_n 1, 1) := by decide +kernel
theorem dX6_count_1 : decode cX6_count 1 = .ok (.tableswitch 80 0 5 #[39, 44, 49, 54, 67, 75], 39) := by decide +kernel
theorem dX6_count_40 : decode cX6_count 40 = .ok (.aload_n 0, 1) := by decide +kernel
theorem dX6_count_41 : decode cX6_count 41 = .ok (.getfield 110, 3) := by decide +kernel
theorem dX6_count_44 : decode cX6_count 44 = .ok (.ireturn, 1) := by decide +kernel
theorem dX6_count_45 : decode cX6_count 45 = .ok (.aload_n 0, 1) := by decide +kernel
theorem dX6_count_46 : decode cX6_count 46 = .ok (.getfield 90, 3) := by decide +kernel
theorem dX6_count_49 : decode cX6_count 49 = .ok (.ireturn, 1) := by decide +kernel
theorem dX6_count_50 : decode cX6_count 50 = .ok (.aload_n 0, 1) := by decide +kernel
theorem dX6_count_51 : decode cX6_count 51 = .ok (.getfield 126, 3) := by decide +kernel
theorem dX6_count_54 : decode cX6_count 54 = .ok (.ireturn, 1) := by decide +kernel
theorem dX6_count_55 : decode cX6_count 55 = .ok (.aload_n 0, 1) := by decide +kernel
theorem dX6_count_56 : decode cX6_count 56 = .ok (.getfield 129, 3) := by decide +kernel
theorem dX6_count_59 : decode cX6_count 59 = .ok (.ifCond .eq 7, 3) := by decide +kernel
theorem dX6_count_62 : decode cX6_count 62 = .ok (.iconst 1, 1) := by decide +kernel
theorem dX6_count_63 : decode cX6_count 63 = .ok (.goto 4, 3) := by decide +kernel
theorem dX6_count_66 : decode cX6_count 66 = .ok (.iconst 0, 1) := by decide +kernel
theorem dX6_count_67 : decode cX6_count 67 = .ok (.ireturn, 1) := by decide +kernel
theorem dX6_count_68 : decode cX6_count 68 = .ok (.aload_n 0, 1) := by decide +kernel
theorem dX6_count_69 : decode cX6_count 69 = .ok (.getfield 37, 3) := by decide +kernel
theorem dX6_count_72 : decode cX6_count 72 = .ok (.getfield 104, 3) := by decide +kernel
theorem dX6_count_75 : decode cX6_count 75 = .ok (.ireturn, 1) := by decide +kernel
theorem dX6_count_76 : decode cX6_count 76 = .ok (.aload_n 0, 1) := by decide +kernel
theorem dX6_count_77 : decode cX6_count 77 = .ok (.invokevirtual 184, 3) := by decide +kernel
theorem dX6_count_80 : decode cX6_count 80 = .ok (.ireturn, 1) := by decide +kernel
theorem dX6_count_81 : decode cX6_count 81 = .ok (.new 187, 3) := by decide +kernel
theorem dX6_count_84 : decode cX6_count 84 = .ok (.dup, 1) := by decide +kernel
theorem dX6_count_85 : decode cX6_count 85 = .ok (.ldc 189, 2) := by decide +kernel
theorem dX6_count_87 : decode cX6_count 87 = .ok (.invokespecial 191, 3) := by decide +kernel
theorem dX6_count_90 : decode cX6_count 90 = .ok (.athrow, 1) := by decide +kernel
theorem dX6_mustExist_0 : decode cX6_mustExist 0 = .ok (.iload_n 0, 1) := by decide +kernel
theorem dX6_mustExist_1 : decode cX6_mustExist 1 = .ok (.ifCond .lt 8, 3) := by decide +kernel
theorem dX6_mustExist_4 : decode cX6_mustExist 4 = .ok (.iload_n 0, 1) := by decide +kernel
theorem dX6_mustExist_5 : decode cX6_mustExist 5 = .ok (.iload_n 1, 1) := by decide +kernel
theorem dX6_mustExist_6 : decode cX6_mustExist 6 = .ok (.if_icmp .lt 13, 3) := by decide +kernel
theorem dX6_mustExist_9 : decode cX6_mustExist 9 = .ok (.new 192, 3) := by decide +kernel
theorem dX6_mustExist_12 : decode cX6_mustExist 12 = .ok (.dup, 1) := by decide +kernel
theorem dX6_mustExist_13 : decode cX6_mustExist 13 = .ok (.ldc 194, 2) := by decide +kernel
theorem dX6_mustExist_15 : decode cX6_mustExist 15 = .ok (.invokespecial 196, 3) := by decide +kernel
theorem dX6_mustExist_18 : decode cX6_mustExist 18 = .ok (.athrow, 1) := by decide +kernel
theorem dX6_mustExist_19 : decode cX6_mustExist 19 = .ok (.return_, 1) := by decide +kernel
theorem dX6_mustBeAllowed_0 : decode cX6_mustBeAllowed 0 = .ok (.iload_n 0, 1) := by decide +kernel
theorem dX6_mustBeAllowed_1 : decode cX6_mustBeAllowed 1 = .ok (.ifCond .ne 13, 3) := by decide +kernel
theorem dX6_mustBeAllowed_4 : decode cX6_mustBeAllowed 4 = .ok (.new 187, 3) := by decide +kernel
theorem dX6_mustBeAllowed_7 : decode cX6_mustBeAllowed 7 = .ok (.dup, 1) := by decide +kernel
theorem dX6_mustBeAllowed_8 : decode cX6_mustBeAllowed 8 = .ok (.ldc 197, 2) := by decide +kernel
theorem dX6_mustBeAllowed_10 : decode cX6_mustBeAllowed 10 = .ok (.invokespecial 191, 3) := by decide +kernel
theorem dX6_mustBeAllowed_13 : decode cX6_mustBeAllowed 13 = .ok (.athrow, 1) := by decide +kernel
theorem dX6_mustBeAllowed_14 : decode cX6_mustBeAllowed 14 = .ok (.return_, 1) := by decide +kernel
theorem dX6_mustHaveEntered_0 : decode cX6_mustHaveEntered 0 = .ok (.aload_n 0, 1) := by decide +kernel
theorem dX6_mustHaveEntered_1 : decode cX6_mustHaveEntered 1 = .ok (.getfield 126, 3) := by decide +kernel
theorem dX6_mustHaveEntered_4 : decode cX6_mustHaveEntered 4 = .ok (.iload_n 1, 1) := by decide +kernel
theorem dX6_mustHaveEntered_5 : decode cX6_mustHaveEntered 5 = .ok (.if_icmp .ge 13, 3) := by decide +kernel
theorem dX6_mustHaveEntered_8 : decode cX6_mustHaveEntered 8 = .ok (.new 93, 3) := by decide +kernel
theorem dX6_mustHaveEntered_11 : decode cX6_mustHaveEntered 11 = .ok (.dup, 1) := by decide +kernel
theorem dX6_mustHaveEntered_12 : decode cX6_mustHaveEntered 12 = .ok (.ldc 199, 2) := by decide +kernel
theorem dX6_mustHaveEntered_14 : decode cX6_mustHaveEntered 14 = .ok (.invokespecial 97, 3) := by decide +kernel
theorem dX6_mustHaveEntered_17 : decode cX6_mustHaveEntered 17 = .ok (.athrow, 1) := by decide +kernel
theorem dX6_mustHaveEntered_18 : decode cX6_mustHaveEntered 18 = .ok (.return_, 1) := by decide +kernel
set_option maxRecDepth 20000 in
theorem ggX6_askPlaces_X3_reachedPlaces : GoodIn wsX6_askPlaces wsX3_reachedPlaces := goodIn_r _ [7, 8, 9, 10, 6, 11, 12, 13, 14, 15, 16, 17, 18, 94, 95, 96, 97, 98, 99, 100, 101, 102, 103, 104, 105, 106] (by decide +kernel) (by decide +kernel)
set_option maxRecDepth 20000 in
theorem gX6_askPlaces_X3_reachedPlaces : GoodIn wsX6_askPlaces (wsV RX6 156 RX3 yX3_reachedPlaces wsX3_reachedPlaces) := goodIn_app (goodIn_of _ (by decide +kernel)) ggX6_askPlaces_X3_reachedPlaces
set_option maxRecDepth 20000 in
theorem ggX6_askPlaces_X2_isSensor : GoodIn wsX6_askPlaces wsX2_isSensor := goodIn_r _ [23, 24, 96, 97, 98, 99, 100, 101, 102, 103, 104, 105, 106] (by decide +kernel) (by decide +kernel)
set_option maxRecDepth 20000 in
theorem gX6_askPlaces_X2_isSensor : GoodIn wsX6_askPlaces (wsV RX6 201 RX2 yX2_isSensor wsX2_isSensor) := goodIn_app (goodIn_of _ (by decide +kernel)) ggX6_askPlaces_X2_isSensor
set_option maxRecDepth 20000 in
theorem ggX6_askPlaces_X6_noteMiss : GoodIn wsX6_askPlaces wsX6_noteMiss := goodIn_r _ [29, 30, 31, 32, 33, 34, 35, 36, 37, 38, 39, 40, 41, 42, 43, 44, 45, 46, 47, 48, 96, 97, 98, 99, 100, 101, 102, 103, 104, 105, 106, 84, 85, 86, 87, 88, 89, 90, 91, 92, 93, 107, 108] (by decide +kernel) (by decide +kernel)
set_option maxRecDepth 20000 in
theorem gX6_askPlaces_X6_noteMiss : GoodIn wsX6_askPlaces (wsV RX6 205 RX6 yX6_noteMiss wsX6_noteMiss) := goodIn_app (goodIn_of _ (by decide +kernel)) ggX6_askPlaces_X6_noteMiss
set_option maxRecDepth 20000 in
theorem ggX6_askPlaces_X6_noteAnswer : GoodIn wsX6_askPlaces wsX6_noteAnswer := goodIn_r _ [52, 30, 31, 32, 33, 53, 34, 35, 36, 37, 38, 39, 40, 41, 42, 43, 44, 45, 46, 47, 48, 54, 55, 56, 22, 57, 24, 58, 59, 60, 61, 62, 63, 64, 65, 66, 67, 68, 69, 70, 71, 72, 73, 74, 75, 76, 77, 78, 79, 80, 81, 82, 83, 96, 97, 98, 99, 100, 101, 102, 103, 104, 105, 106, 84, 85, 86, 87, 88, 89, 90, 91, 92, 93, 107, 108] (by decide +kernel) (by decide +kernel)
set_option maxRecDepth 20000 in
theorem gX6_askPlaces_X6_noteAnswer : GoodIn wsX6_askPlaces (wsV RX6 209 RX6 yX6_noteAnswer wsX6_noteAnswer) := goodIn_app (goodIn_of _ (by decide +kernel)) ggX6_askPlaces_X6_noteAnswer
theorem dX6_askPlaces_0 : decode cX6_askPlaces 0 = .ok (.aload_n 0, 1) := by decide +kernel
theorem dX6_askPlaces_1 : decode cX6_askPlaces 1 = .ok (.getfield 10, 3) := by decide +kernel
theorem dX6_askPlaces_4 : decode cX6_askPlaces 4 = .ok (.invokevirtual 156, 3) := by decide +kernel
theorem dX6_askPlaces_7 : decode cX6_askPlaces 7 = .ok (.istore_n 1, 1) := by decide +kernel
theorem dX6_askPlaces_8 : decode cX6_askPlaces 8 = .ok (.iconst 0, 1) := by decide +kernel
theorem dX6_askPlaces_9 : decode cX6_askPlaces 9 = .ok (.istore_n 2, 1) := by decide +kernel
theorem dX6_askPlaces_10 : decode cX6_askPlaces 10 = .ok (.iload_n 2, 1) := by decide +kernel
theorem dX6_askPlaces_11 : decode cX6_askPlaces 11 = .ok (.bipush 16, 2) := by decide +kernel
theorem dX6_askPlaces_13 : decode cX6_askPlaces 13 = .ok (.if_icmp .ge 52, 3) := by decide +kernel
theorem dX6_askPlaces_16 : decode cX6_askPlaces 16 = .ok (.aload_n 0, 1) := by decide +kernel
theorem dX6_askPlaces_17 : decode cX6_askPlaces 17 = .ok (.getfield 10, 3) := by decide +kernel
theorem dX6_askPlaces_20 : decode cX6_askPlaces 20 = .ok (.getfield 62, 3) := by decide +kernel
theorem dX6_askPlaces_23 : decode cX6_askPlaces 23 = .ok (.iload_n 2, 1) := by decide +kernel
theorem dX6_askPlaces_24 : decode cX6_askPlaces 24 = .ok (.aaload, 1) := by decide +kernel
theorem dX6_askPlaces_25 : decode cX6_askPlaces 25 = .ok (.astore_n 3, 1) := by decide +kernel
theorem dX6_askPlaces_26 : decode cX6_askPlaces 26 = .ok (.aload_n 3, 1) := by decide +kernel
theorem dX6_askPlaces_27 : decode cX6_askPlaces 27 = .ok (.invokevirtual 201, 3) := by decide +kernel
theorem dX6_askPlaces_30 : decode cX6_askPlaces 30 = .ok (.ifCond .ne 6, 3) := by decide +kernel
theorem dX6_askPlaces_33 : decode cX6_askPlaces 33 = .ok (.goto 26, 3) := by decide +kernel
theorem dX6_askPlaces_36 : decode cX6_askPlaces 36 = .ok (.iload_n 1, 1) := by decide +kernel
theorem dX6_askPlaces_37 : decode cX6_askPlaces 37 = .ok (.iload_n 2, 1) := by decide +kernel
theorem dX6_askPlaces_38 : decode cX6_askPlaces 38 = .ok (.ishr, 1) := by decide +kernel
theorem dX6_askPlaces_39 : decode cX6_askPlaces 39 = .ok (.iconst 1, 1) := by decide +kernel
theorem dX6_askPlaces_40 : decode cX6_askPlaces 40 = .ok (.iand, 1) := by decide +kernel
theorem dX6_askPlaces_41 : decode cX6_askPlaces 41 = .ok (.ifCond .ne 12, 3) := by decide +kernel
theorem dX6_askPlaces_44 : decode cX6_askPlaces 44 = .ok (.aload_n 0, 1) := by decide +kernel
theorem dX6_askPlaces_45 : decode cX6_askPlaces 45 = .ok (.aload_n 3, 1) := by decide +kernel
theorem dX6_askPlaces_46 : decode cX6_askPlaces 46 = .ok (.iload_n 2, 1) := by decide +kernel
theorem dX6_askPlaces_47 : decode cX6_askPlaces 47 = .ok (.invokevirtual 205, 3) := by decide +kernel
theorem dX6_askPlaces_50 : decode cX6_askPlaces 50 = .ok (.goto 9, 3) := by decide +kernel
theorem dX6_askPlaces_53 : decode cX6_askPlaces 53 = .ok (.aload_n 0, 1) := by decide +kernel
theorem dX6_askPlaces_54 : decode cX6_askPlaces 54 = .ok (.aload_n 3, 1) := by decide +kernel
theorem dX6_askPlaces_55 : decode cX6_askPlaces 55 = .ok (.iload_n 2, 1) := by decide +kernel
theorem dX6_askPlaces_56 : decode cX6_askPlaces 56 = .ok (.invokevirtual 209, 3) := by decide +kernel
theorem dX6_askPlaces_59 : decode cX6_askPlaces 59 = .ok (.iinc 2 1, 3) := by decide +kernel
theorem dX6_askPlaces_62 : decode cX6_askPlaces 62 = .ok (.goto (-52), 3) := by decide +kernel
theorem dX6_askPlaces_65 : decode cX6_askPlaces 65 = .ok (.return_, 1) := by decide +kernel
set_option maxRecDepth 20000 in
theorem ggX6_noteMiss_X0_add : GoodIn wsX6_noteMiss wsX0_add := goodIn_r _ [9, 10, 11, 12, 13, 14, 15, 16, 17, 18, 19, 41, 42] (by decide +kernel) (by decide +kernel)
set_option maxRecDepth 20000 in
theorem gX6_noteMiss_X0_add : GoodIn wsX6_noteMiss (wsV RX6 133 RX0 yX0_add wsX0_add) := goodIn_app (goodIn_of _ (by decide +kernel)) ggX6_noteMiss_X0_add
theorem dX6_noteMiss_0 : decode cX6_noteMiss 0 = .ok (.aload_n 1, 1) := by decide +kernel
theorem dX6_noteMiss_1 : decode cX6_noteMiss 1 = .ok (.dup, 1) := by decide +kernel
theorem dX6_noteMiss_2 : decode cX6_noteMiss 2 = .ok (.getfield 212, 3) := by decide +kernel
theorem dX6_noteMiss_5 : decode cX6_noteMiss 5 = .ok (.iconst 1, 1) := by decide +kernel
theorem dX6_noteMiss_6 : decode cX6_noteMiss 6 = .ok (.iadd, 1) := by decide +kernel
theorem dX6_noteMiss_7 : decode cX6_noteMiss 7 = .ok (.putfield 212, 3) := by decide +kernel
theorem dX6_noteMiss_10 : decode cX6_noteMiss 10 = .ok (.aload_n 1, 1) := by decide +kernel
theorem dX6_noteMiss_11 : decode cX6_noteMiss 11 = .ok (.getfield 212, 3) := by decide +kernel
theorem dX6_noteMiss_14 : decode cX6_noteMiss 14 = .ok (.iconst 2, 1) := by decide +kernel
theorem dX6_noteMiss_15 : decode cX6_noteMiss 15 = .ok (.if_icmp .ne 21, 3) := by decide +kernel
theorem dX6_noteMiss_18 : decode cX6_noteMiss 18 = .ok (.aload_n 1, 1) := by decide +kernel
theorem dX6_noteMiss_19 : decode cX6_noteMiss 19 = .ok (.iconst 1, 1) := by decide +kernel
theorem dX6_noteMiss_20 : decode cX6_noteMiss 20 = .ok (.putfield 162, 3) := by decide +kernel
theorem dX6_noteMiss_23 : decode cX6_noteMiss 23 = .ok (.aload_n 0, 1) := by decide +kernel
theorem dX6_noteMiss_24 : decode cX6_noteMiss 24 = .ok (.getfield 44, 3) := by decide +kernel
theorem dX6_noteMiss_27 : decode cX6_noteMiss 27 = .ok (.iconst 2, 1) := by decide +kernel
theorem dX6_noteMiss_28 : decode cX6_noteMiss 28 = .ok (.iload_n 2, 1) := by decide +kernel
theorem dX6_noteMiss_29 : decode cX6_noteMiss 29 = .ok (.aload_n 0, 1) := by decide +kernel
theorem dX6_noteMiss_30 : decode cX6_noteMiss 30 = .ok (.getfield 110, 3) := by decide +kernel
theorem dX6_noteMiss_33 : decode cX6_noteMiss 33 = .ok (.invokevirtual 133, 3) := by decide +kernel
theorem dX6_noteMiss_36 : decode cX6_noteMiss 36 = .ok (.return_, 1) := by decide +kernel
set_option maxRecDepth 20000 in
theorem ggX6_noteAnswer_X0_add : GoodIn wsX6_noteAnswer wsX0_add := goodIn_r _ [10, 11, 12, 13, 14, 15, 16, 17, 18, 19, 20, 74, 75] (by decide +kernel) (by decide +kernel)
set_option maxRecDepth 20000 in
theorem gX6_noteAnswer_X0_add : GoodIn wsX6_noteAnswer (wsV RX6 133 RX0 yX0_add wsX0_add) := goodIn_app (goodIn_of _ (by decide +kernel)) ggX6_noteAnswer_X0_add
set_option maxRecDepth 20000 in
theorem ggX6_noteAnswer_X2_sense : GoodIn wsX6_noteAnswer wsX2_sense := goodIn_r _ [25, 26, 27, 28, 29, 30, 31, 24, 32, 33, 34, 35, 36, 37, 38, 39, 40, 41, 42, 43, 44, 45, 46, 47, 48, 49, 50, 51, 52, 53, 54, 55, 56, 57, 58, 59, 60, 61, 62, 63] (by decide +kernel) (by decide +kernel)
set_option maxRecDepth 20000 in
theorem gX6_noteAnswer_X2_sense : GoodIn wsX6_noteAnswer (wsV RX6 215 RX2 yX2_sense wsX2_sense) := goodIn_app (goodIn_of _ (by decide +kernel)) ggX6_noteAnswer_X2_sense
theorem dX6_noteAnswer_0 : decode cX6_noteAnswer 0 = .ok (.aload_n 1, 1) := by decide +kernel
theorem dX6_noteAnswer_1 : decode cX6_noteAnswer 1 = .ok (.iconst 0, 1) := by decide +kernel
theorem dX6_noteAnswer_2 : decode cX6_noteAnswer 2 = .ok (.putfield 212, 3) := by decide +kernel
theorem dX6_noteAnswer_5 : decode cX6_noteAnswer 5 = .ok (.aload_n 1, 1) := by decide +kernel
theorem dX6_noteAnswer_6 : decode cX6_noteAnswer 6 = .ok (.getfield 162, 3) := by decide +kernel
theorem dX6_noteAnswer_9 : decode cX6_noteAnswer 9 = .ok (.ifCond .eq 21, 3) := by decide +kernel
theorem dX6_noteAnswer_12 : decode cX6_noteAnswer 12 = .ok (.aload_n 1, 1) := by decide +kernel
theorem dX6_noteAnswer_13 : decode cX6_noteAnswer 13 = .ok (.iconst 0, 1) := by decide +kernel
theorem dX6_noteAnswer_14 : decode cX6_noteAnswer 14 = .ok (.putfield 162, 3) := by decide +kernel
theorem dX6_noteAnswer_17 : decode cX6_noteAnswer 17 = .ok (.aload_n 0, 1) := by decide +kernel
theorem dX6_noteAnswer_18 : decode cX6_noteAnswer 18 = .ok (.getfield 44, 3) := by decide +kernel
theorem dX6_noteAnswer_21 : decode cX6_noteAnswer 21 = .ok (.iconst 3, 1) := by decide +kernel
theorem dX6_noteAnswer_22 : decode cX6_noteAnswer 22 = .ok (.iload_n 2, 1) := by decide +kernel
theorem dX6_noteAnswer_23 : decode cX6_noteAnswer 23 = .ok (.aload_n 0, 1) := by decide +kernel
theorem dX6_noteAnswer_24 : decode cX6_noteAnswer 24 = .ok (.getfield 110, 3) := by decide +kernel
theorem dX6_noteAnswer_27 : decode cX6_noteAnswer 27 = .ok (.invokevirtual 133, 3) := by decide +kernel
theorem dX6_noteAnswer_30 : decode cX6_noteAnswer 30 = .ok (.aload_n 1, 1) := by decide +kernel
theorem dX6_noteAnswer_31 : decode cX6_noteAnswer 31 = .ok (.getfield 149, 3) := by decide +kernel
theorem dX6_noteAnswer_34 : decode cX6_noteAnswer 34 = .ok (.ifCond .ne 7, 3) := by decide +kernel
theorem dX6_noteAnswer_37 : decode cX6_noteAnswer 37 = .ok (.aload_n 1, 1) := by decide +kernel
theorem dX6_noteAnswer_38 : decode cX6_noteAnswer 38 = .ok (.invokevirtual 215, 3) := by decide +kernel
theorem dX6_noteAnswer_41 : decode cX6_noteAnswer 41 = .ok (.return_, 1) := by decide +kernel
set_option maxRecDepth 20000 in
theorem ggX6_watchZones_X6_hasEnoughAlarms : GoodIn wsX6_watchZones wsX6_hasEnoughAlarms := goodIn_r _ [12, 13, 14, 15, 16, 17, 18, 19, 20, 21, 22, 23, 24, 25, 26, 27, 28, 44, 45, 46, 47, 48, 49, 50, 51, 52, 53, 57, 58, 59, 60, 61, 62, 63, 64, 65, 66, 67, 68, 69] (by decide +kernel) (by decide +kernel)
set_option maxRecDepth 20000 in
theorem gX6_watchZones_X6_hasEnoughAlarms : GoodIn wsX6_watchZones (wsV RX6 218 RX6 yX6_hasEnoughAlarms wsX6_hasEnoughAlarms) := goodIn_app (goodIn_of _ (by decide +kernel)) ggX6_watchZones_X6_hasEnoughAlarms
set_option maxRecDepth 20000 in
theorem ggX6_watchZones_X0_add : GoodIn wsX6_watchZones wsX0_add := goodIn_r _ [33, 34, 35, 36, 37, 38, 39, 40, 41, 42, 43, 70, 71] (by decide +kernel) (by decide +kernel)
set_option maxRecDepth 20000 in
theorem gX6_watchZones_X0_add : GoodIn wsX6_watchZones (wsV RX6 133 RX0 yX0_add wsX0_add) := goodIn_app (goodIn_of _ (by decide +kernel)) ggX6_watchZones_X0_add
theorem dX6_watchZones_0 : decode cX6_watchZones 0 = .ok (.iconst 0, 1) := by decide +kernel
theorem dX6_watchZones_1 : decode cX6_watchZones 1 = .ok (.istore_n 1, 1) := by decide +kernel
theorem dX6_watchZones_2 : decode cX6_watchZones 2 = .ok (.iconst 0, 1) := by decide +kernel
theorem dX6_watchZones_3 : decode cX6_watchZones 3 = .ok (.istore_n 2, 1) := by decide +kernel
theorem dX6_watchZones_4 : decode cX6_watchZones 4 = .ok (.iload_n 2, 1) := by decide +kernel
theorem dX6_watchZones_5 : decode cX6_watchZones 5 = .ok (.iconst 4, 1) := by decide +kernel
theorem dX6_watchZones_6 : decode cX6_watchZones 6 = .ok (.if_icmp .ge 68, 3) := by decide +kernel
theorem dX6_watchZones_9 : decode cX6_watchZones 9 = .ok (.aload_n 0, 1) := by decide +kernel
theorem dX6_watchZones_10 : decode cX6_watchZones 10 = .ok (.getfield 18, 3) := by decide +kernel
theorem dX6_watchZones_13 : decode cX6_watchZones 13 = .ok (.iload_n 2, 1) := by decide +kernel
theorem dX6_watchZones_14 : decode cX6_watchZones 14 = .ok (.aaload, 1) := by decide +kernel
theorem dX6_watchZones_15 : decode cX6_watchZones 15 = .ok (.astore_n 3, 1) := by decide +kernel
theorem dX6_watchZones_16 : decode cX6_watchZones 16 = .ok (.aload_n 3, 1) := by decide +kernel
theorem dX6_watchZones_17 : decode cX6_watchZones 17 = .ok (.getfield 146, 3) := by decide +kernel
theorem dX6_watchZones_20 : decode cX6_watchZones 20 = .ok (.ifCond .ne 48, 3) := by decide +kernel
theorem dX6_watchZones_23 : decode cX6_watchZones 23 = .ok (.aload_n 3, 1) := by decide +kernel
theorem dX6_watchZones_24 : decode cX6_watchZones 24 = .ok (.getfield 137, 3) := by decide +kernel
theorem dX6_watchZones_27 : decode cX6_watchZones 27 = .ok (.ifCond .ne 41, 3) := by decide +kernel
theorem dX6_watchZones_30 : decode cX6_watchZones 30 = .ok (.aload_n 0, 1) := by decide +kernel
theorem dX6_watchZones_31 : decode cX6_watchZones 31 = .ok (.iload_n 2, 1) := by decide +kernel
theorem dX6_watchZones_32 : decode cX6_watchZones 32 = .ok (.aload_n 3, 1) := by decide +kernel
theorem dX6_watchZones_33 : decode cX6_watchZones 33 = .ok (.getfield 72, 3) := by decide +kernel
theorem dX6_watchZones_36 : decode cX6_watchZones 36 = .ok (.invokevirtual 218, 3) := by decide +kernel
theorem dX6_watchZones_39 : decode cX6_watchZones 39 = .ok (.ifCond .eq 29, 3) := by decide +kernel
theorem dX6_watchZones_42 : decode cX6_watchZones 42 = .ok (.aload_n 3, 1) := by decide +kernel
theorem dX6_watchZones_43 : decode cX6_watchZones 43 = .ok (.iconst 1, 1) := by decide +kernel
theorem dX6_watchZones_44 : decode cX6_watchZones 44 = .ok (.putfield 137, 3) := by decide +kernel
theorem dX6_watchZones_47 : decode cX6_watchZones 47 = .ok (.aload_n 0, 1) := by decide +kernel
theorem dX6_watchZones_48 : decode cX6_watchZones 48 = .ok (.iconst 0, 1) := by decide +kernel
theorem dX6_watchZones_49 : decode cX6_watchZones 49 = .ok (.putfield 129, 3) := by decide +kernel
theorem dX6_watchZones_52 : decode cX6_watchZones 52 = .ok (.aload_n 0, 1) := by decide +kernel
theorem dX6_watchZones_53 : decode cX6_watchZones 53 = .ok (.getfield 44, 3) := by decide +kernel
theorem dX6_watchZones_56 : decode cX6_watchZones 56 = .ok (.iconst 1, 1) := by decide +kernel
theorem dX6_watchZones_57 : decode cX6_watchZones 57 = .ok (.iload_n 2, 1) := by decide +kernel
theorem dX6_watchZones_58 : decode cX6_watchZones 58 = .ok (.aload_n 0, 1) := by decide +kernel
theorem dX6_watchZones_59 : decode cX6_watchZones 59 = .ok (.getfield 110, 3) := by decide +kernel
theorem dX6_watchZones_62 : decode cX6_watchZones 62 = .ok (.invokevirtual 133, 3) := by decide +kernel
theorem dX6_watchZones_65 : decode cX6_watchZones 65 = .ok (.iinc 1 1, 3) := by decide +kernel
theorem dX6_watchZones_68 : decode cX6_watchZones 68 = .ok (.iinc 2 1, 3) := by decide +kernel
theorem dX6_watchZones_71 : decode cX6_watchZones 71 = .ok (.goto (-67), 3) := by decide +kernel
theorem dX6_watchZones_74 : decode cX6_watchZones 74 = .ok (.iload_n 1, 1) := by decide +kernel
theorem dX6_watchZones_75 : decode cX6_watchZones 75 = .ok (.ireturn, 1) := by decide +kernel
set_option maxRecDepth 20000 in
theorem ggX6_hasEnoughAlarms_X2_watches : GoodIn wsX6_hasEnoughAlarms wsX2_watches := goodIn_r _ [9, 10, 11, 12, 13, 14, 8, 15, 16, 29, 30, 31, 32, 33, 34, 35, 36, 37, 38, 39] (by decide +kernel) (by decide +kernel)
set_option maxRecDepth 20000 in
theorem gX6_hasEnoughAlarms_X2_watches : GoodIn wsX6_hasEnoughAlarms (wsV RX6 222 RX2 yX2_watches wsX2_watches) := goodIn_app (goodIn_of _ (by decide +kernel)) ggX6_hasEnoughAlarms_X2_watches
theorem dX6_hasEnoughAlarms_0 : decode cX6_hasEnoughAlarms 0 = .ok (.iconst 0, 1) := by decide +kernel
theorem dX6_hasEnoughAlarms_1 : decode cX6_hasEnoughAlarms 1 = .ok (.istore_n 3, 1) := by decide +kernel
theorem dX6_hasEnoughAlarms_2 : decode cX6_hasEnoughAlarms 2 = .ok (.aload_n 0, 1) := by decide +kernel
theorem dX6_hasEnoughAlarms_3 : decode cX6_hasEnoughAlarms 3 = .ok (.getfield 10, 3) := by decide +kernel
theorem dX6_hasEnoughAlarms_6 : decode cX6_hasEnoughAlarms 6 = .ok (.getfield 62, 3) := by decide +kernel
theorem dX6_hasEnoughAlarms_9 : decode cX6_hasEnoughAlarms 9 = .ok (.astore 4, 2) := by decide +kernel
theorem dX6_hasEnoughAlarms_11 : decode cX6_hasEnoughAlarms 11 = .ok (.aload 4, 2) := by decide +kernel
theorem dX6_hasEnoughAlarms_13 : decode cX6_hasEnoughAlarms 13 = .ok (.arraylength, 1) := by decide +kernel
theorem dX6_hasEnoughAlarms_14 : decode cX6_hasEnoughAlarms 14 = .ok (.istore 5, 2) := by decide +kernel
theorem dX6_hasEnoughAlarms_16 : decode cX6_hasEnoughAlarms 16 = .ok (.iconst 0, 1) := by decide +kernel
theorem dX6_hasEnoughAlarms_17 : decode cX6_hasEnoughAlarms 17 = .ok (.istore 6, 2) := by decide +kernel
theorem dX6_hasEnoughAlarms_19 : decode cX6_hasEnoughAlarms 19 = .ok (.iload 6, 2) := by decide +kernel
theorem dX6_hasEnoughAlarms_21 : decode cX6_hasEnoughAlarms 21 = .ok (.iload 5, 2) := by decide +kernel
theorem dX6_hasEnoughAlarms_23 : decode cX6_hasEnoughAlarms 23 = .ok (.if_icmp .ge 47, 3) := by decide +kernel
theorem dX6_hasEnoughAlarms_26 : decode cX6_hasEnoughAlarms 26 = .ok (.aload 4, 2) := by decide +kernel
theorem dX6_hasEnoughAlarms_28 : decode cX6_hasEnoughAlarms 28 = .ok (.iload 6, 2) := by decide +kernel
theorem dX6_hasEnoughAlarms_30 : decode cX6_hasEnoughAlarms 30 = .ok (.aaload, 1) := by decide +kernel
theorem dX6_hasEnoughAlarms_31 : decode cX6_hasEnoughAlarms 31 = .ok (.astore 7, 2) := by decide +kernel
theorem dX6_hasEnoughAlarms_33 : decode cX6_hasEnoughAlarms 33 = .ok (.aload 7, 2) := by decide +kernel
theorem dX6_hasEnoughAlarms_35 : decode cX6_hasEnoughAlarms 35 = .ok (.iload_n 1, 1) := by decide +kernel
theorem dX6_hasEnoughAlarms_36 : decode cX6_hasEnoughAlarms 36 = .ok (.invokevirtual 222, 3) := by decide +kernel
theorem dX6_hasEnoughAlarms_39 : decode cX6_hasEnoughAlarms 39 = .ok (.ifCond .eq 25, 3) := by decide +kernel
theorem dX6_hasEnoughAlarms_42 : decode cX6_hasEnoughAlarms 42 = .ok (.aload 7, 2) := by decide +kernel
theorem dX6_hasEnoughAlarms_44 : decode cX6_hasEnoughAlarms 44 = .ok (.getfield 159, 3) := by decide +kernel
theorem dX6_hasEnoughAlarms_47 : decode cX6_hasEnoughAlarms 47 = .ok (.ifCond .eq 17, 3) := by decide +kernel
theorem dX6_hasEnoughAlarms_50 : decode cX6_hasEnoughAlarms 50 = .ok (.aload 7, 2) := by decide +kernel
theorem dX6_hasEnoughAlarms_52 : decode cX6_hasEnoughAlarms 52 = .ok (.getfield 165, 3) := by decide +kernel
theorem dX6_hasEnoughAlarms_55 : decode cX6_hasEnoughAlarms 55 = .ok (.iconst 3, 1) := by decide +kernel
theorem dX6_hasEnoughAlarms_56 : decode cX6_hasEnoughAlarms 56 = .ok (.if_icmp .ne 5, 3) := by decide +kernel
theorem dX6_hasEnoughAlarms_59 : decode cX6_hasEnoughAlarms 59 = .ok (.iconst 1, 1) := by decide +kernel
theorem dX6_hasEnoughAlarms_60 : decode cX6_hasEnoughAlarms 60 = .ok (.ireturn, 1) := by decide +kernel
theorem dX6_hasEnoughAlarms_61 : decode cX6_hasEnoughAlarms 61 = .ok (.iinc 3 1, 3) := by decide +kernel
theorem dX6_hasEnoughAlarms_64 : decode cX6_hasEnoughAlarms 64 = .ok (.iinc 6 1, 3) := by decide +kernel
theorem dX6_hasEnoughAlarms_67 : decode cX6_hasEnoughAlarms 67 = .ok (.goto (-48), 3) := by decide +kernel
theorem dX6_hasEnoughAlarms_70 : decode cX6_hasEnoughAlarms 70 = .ok (.iload_n 3, 1) := by decide +kernel
theorem dX6_hasEnoughAlarms_71 : decode cX6_hasEnoughAlarms 71 = .ok (.iload_n 2, 1) := by decide +kernel
theorem dX6_hasEnoughAlarms_72 : decode cX6_hasEnoughAlarms 72 = .ok (.if_icmp .lt 7, 3) := by decide +kernel
theorem dX6_hasEnoughAlarms_75 : decode cX6_hasEnoughAlarms 75 = .ok (.iconst 1, 1) := by decide +kernel
theorem dX6_hasEnoughAlarms_76 : decode cX6_hasEnoughAlarms 76 = .ok (.goto 4, 3) := by decide +kernel
theorem dX6_hasEnoughAlarms_79 : decode cX6_hasEnoughAlarms 79 = .ok (.iconst 0, 1) := by decide +kernel
theorem dX6_hasEnoughAlarms_80 : decode cX6_hasEnoughAlarms 80 = .ok (.ireturn, 1) := by decide +kernel
set_option maxRecDepth 20000 in
theorem ggX6_hasWarning_X2_watches : GoodIn wsX6_hasWarning wsX2_watches := goodIn_r _ [7, 8, 9, 10, 11, 12, 6, 13, 14, 35, 36, 37, 38, 39, 40, 41, 42, 43, 44, 45] (by decide +kernel) (by decide +kernel)
set_option maxRecDepth 20000 in
theorem gX6_hasWarning_X2_watches : GoodIn wsX6_hasWarning (wsV RX6 222 RX2 yX2_watches wsX2_watches) := goodIn_app (goodIn_of _ (by decide +kernel)) ggX6_hasWarning_X2_watches
set_option maxRecDepth 20000 in
theorem ggX6_hasWarning_X2_warns : GoodIn wsX6_hasWarning wsX2_warns := goodIn_r _ [18, 19, 14, 20, 21, 22, 35, 36, 37, 38, 39, 40, 41, 42, 43, 44, 45] (by decide +kernel) (by decide +kernel)
set_option maxRecDepth 20000 in
theorem gX6_hasWarning_X2_warns : GoodIn wsX6_hasWarning (wsV RX6 225 RX2 yX2_warns wsX2_warns) := goodIn_app (goodIn_of _ (by decide +kernel)) ggX6_hasWarning_X2_warns
theorem dX6_hasWarning_0 : decode cX6_hasWarning 0 = .ok (.aload_n 0, 1) := by decide +kernel
theorem dX6_hasWarning_1 : decode cX6_hasWarning 1 = .ok (.getfield 10, 3) := by decide +kernel
theorem dX6_hasWarning_4 : decode cX6_hasWarning 4 = .ok (.getfield 62, 3) := by decide +kernel
theorem dX6_hasWarning_7 : decode cX6_hasWarning 7 = .ok (.astore_n 2, 1) := by decide +kernel
theorem dX6_hasWarning_8 : decode cX6_hasWarning 8 = .ok (.aload_n 2, 1) := by decide +kernel
theorem dX6_hasWarning_9 : decode cX6_hasWarning 9 = .ok (.arraylength, 1) := by decide +kernel
theorem dX6_hasWarning_10 : decode cX6_hasWarning 10 = .ok (.istore_n 3, 1) := by decide +kernel
theorem dX6_hasWarning_11 : decode cX6_hasWarning 11 = .ok (.iconst 0, 1) := by decide +kernel
theorem dX6_hasWarning_12 : decode cX6_hasWarning 12 = .ok (.istore 4, 2) := by decide +kernel
theorem dX6_hasWarning_14 : decode cX6_hasWarning 14 = .ok (.iload 4, 2) := by decide +kernel
theorem dX6_hasWarning_16 : decode cX6_hasWarning 16 = .ok (.iload_n 3, 1) := by decide +kernel
theorem dX6_hasWarning_17 : decode cX6_hasWarning 17 = .ok (.if_icmp .ge 34, 3) := by decide +kernel
theorem dX6_hasWarning_20 : decode cX6_hasWarning 20 = .ok (.aload_n 2, 1) := by decide +kernel
theorem dX6_hasWarning_21 : decode cX6_hasWarning 21 = .ok (.iload 4, 2) := by decide +kernel
theorem dX6_hasWarning_23 : decode cX6_hasWarning 23 = .ok (.aaload, 1) := by decide +kernel
theorem dX6_hasWarning_24 : decode cX6_hasWarning 24 = .ok (.astore 5, 2) := by decide +kernel
theorem dX6_hasWarning_26 : decode cX6_hasWarning 26 = .ok (.aload 5, 2) := by decide +kernel
theorem dX6_hasWarning_28 : decode cX6_hasWarning 28 = .ok (.iload_n 1, 1) := by decide +kernel
theorem dX6_hasWarning_29 : decode cX6_hasWarning 29 = .ok (.invokevirtual 222, 3) := by decide +kernel
theorem dX6_hasWarning_32 : decode cX6_hasWarning 32 = .ok (.ifCond .eq 13, 3) := by decide +kernel
theorem dX6_hasWarning_35 : decode cX6_hasWarning 35 = .ok (.aload 5, 2) := by decide +kernel
theorem dX6_hasWarning_37 : decode cX6_hasWarning 37 = .ok (.invokevirtual 225, 3) := by decide +kernel
theorem dX6_hasWarning_40 : decode cX6_hasWarning 40 = .ok (.ifCond .eq 5, 3) := by decide +kernel
theorem dX6_hasWarning_43 : decode cX6_hasWarning 43 = .ok (.iconst 1, 1) := by decide +kernel
theorem dX6_hasWarning_44 : decode cX6_hasWarning 44 = .ok (.ireturn, 1) := by decide +kernel
theorem dX6_hasWarning_45 : decode cX6_hasWarning 45 = .ok (.iinc 4 1, 3) := by decide +kernel
theorem dX6_hasWarning_48 : decode cX6_hasWarning 48 = .ok (.goto (-34), 3) := by decide +kernel
theorem dX6_hasWarning_51 : decode cX6_hasWarning 51 = .ok (.iconst 0, 1) := by decide +kernel
theorem dX6_hasWarning_52 : decode cX6_hasWarning 52 = .ok (.ireturn, 1) := by decide +kernel
theorem dX6_faults_0 : decode cX6_faults 0 = .ok (.iconst 0, 1) := by decide +kernel
theorem dX6_faults_1 : decode cX6_faults 1 = .ok (.istore_n 1, 1) := by decide +kernel
theorem dX6_faults_2 : decode cX6_faults 2 = .ok (.aload_n 0, 1) := by decide +kernel
theorem dX6_faults_3 : decode cX6_faults 3 = .ok (.getfield 10, 3) := by decide +kernel
theorem dX6_faults_6 : decode cX6_faults 6 = .ok (.getfield 62, 3) := by decide +kernel
theorem dX6_faults_9 : decode cX6_faults 9 = .ok (.astore_n 2, 1) := by decide +kernel
theorem dX6_faults_10 : decode cX6_faults 10 = .ok (.aload_n 2, 1) := by decide +kernel
theorem dX6_faults_11 : decode cX6_faults 11 = .ok (.arraylength, 1) := by decide +kernel
theorem dX6_faults_12 : decode cX6_faults 12 = .ok (.istore_n 3, 1) := by decide +kernel
theorem dX6_faults_13 : decode cX6_faults 13 = .ok (.iconst 0, 1) := by decide +kernel
theorem dX6_faults_14 : decode cX6_faults 14 = .ok (.istore 4, 2) := by decide +kernel
theorem dX6_faults_16 : decode cX6_faults 16 = .ok (.iload 4, 2) := by decide +kernel
theorem dX6_faults_18 : decode cX6_faults 18 = .ok (.iload_n 3, 1) := by decide +kernel
theorem dX6_faults_19 : decode cX6_faults 19 = .ok (.if_icmp .ge 31, 3) := by decide +kernel
theorem dX6_faults_22 : decode cX6_faults 22 = .ok (.aload_n 2, 1) := by decide +kernel
theorem dX6_faults_23 : decode cX6_faults 23 = .ok (.iload 4, 2) := by decide +kernel
theorem dX6_faults_25 : decode cX6_faults 25 = .ok (.aaload, 1) := by decide +kernel
theorem dX6_faults_26 : decode cX6_faults 26 = .ok (.astore 5, 2) := by decide +kernel
theorem dX6_faults_28 : decode cX6_faults 28 = .ok (.iload_n 1, 1) := by decide +kernel
theorem dX6_faults_29 : decode cX6_faults 29 = .ok (.aload 5, 2) := by decide +kernel
theorem dX6_faults_31 : decode cX6_faults 31 = .ok (.getfield 162, 3) := by decide +kernel
theorem dX6_faults_34 : decode cX6_faults 34 = .ok (.ifCond .eq 7, 3) := by decide +kernel
theorem dX6_faults_37 : decode cX6_faults 37 = .ok (.iconst 1, 1) := by decide +kernel
theorem dX6_faults_38 : decode cX6_faults 38 = .ok (.goto 4, 3) := by decide +kernel
theorem dX6_faults_41 : decode cX6_faults 41 = .ok (.iconst 0, 1) := by decide +kernel
theorem dX6_faults_42 : decode cX6_faults 42 = .ok (.iadd, 1) := by decide +kernel
theorem dX6_faults_43 : decode cX6_faults 43 = .ok (.istore_n 1, 1) := by decide +kernel
theorem dX6_faults_44 : decode cX6_faults 44 = .ok (.iinc 4 1, 3) := by decide +kernel
theorem dX6_faults_47 : decode cX6_faults 47 = .ok (.goto (-31), 3) := by decide +kernel
theorem dX6_faults_50 : decode cX6_faults 50 = .ok (.iload_n 1, 1) := by decide +kernel
theorem dX6_faults_51 : decode cX6_faults 51 = .ok (.ireturn, 1) := by decide +kernel
set_option maxRecDepth 20000 in
theorem ggX6_facts_X6_faults : GoodIn wsX6_facts wsX6_faults := goodIn_r _ [7, 8, 9, 10, 35, 36, 37, 38, 39, 40, 41, 42, 43, 44, 48, 49, 50, 51, 52, 53, 54, 55, 56, 57, 58, 59, 60] (by decide +kernel) (by decide +kernel)
set_option maxRecDepth 20000 in
theorem gX6_facts_X6_faults : GoodIn wsX6_facts (wsV RX6 184 RX6 yX6_faults wsX6_faults) := goodIn_app (goodIn_of _ (by decide +kernel)) ggX6_facts_X6_faults
set_option maxRecDepth 20000 in
theorem ggX6_facts_X6_hasWarning : GoodIn wsX6_facts wsX6_hasWarning := goodIn_r _ [14, 8, 9, 15, 16, 17, 18, 19, 20, 21, 22, 23, 24, 25, 26, 27, 28, 29, 30, 31, 32, 33, 34, 35, 36, 37, 38, 39, 40, 41, 42, 43, 44, 48, 49, 50, 51, 52, 53, 54, 55, 56, 57, 58, 59, 60] (by decide +kernel) (by decide +kernel)
set_option maxRecDepth 20000 in
theorem gX6_facts_X6_hasWarning : GoodIn wsX6_facts (wsV RX6 168 RX6 yX6_hasWarning wsX6_hasWarning) := goodIn_app (goodIn_of _ (by decide +kernel)) ggX6_facts_X6_hasWarning
theorem dX6_facts_0 : decode cX6_facts 0 = .ok (.aload_n 0, 1) := by decide +kernel
theorem dX6_facts_1 : decode cX6_facts 1 = .ok (.invokevirtual 184, 3) := by decide +kernel
theorem dX6_facts_4 : decode cX6_facts 4 = .ok (.ifCond .le 9, 3) := by decide +kernel
theorem dX6_facts_7 : decode cX6_facts 7 = .ok (.sipush 256, 3) := by decide +kernel
theorem dX6_facts_10 : decode cX6_facts 10 = .ok (.goto 4, 3) := by decide +kernel
theorem dX6_facts_13 : decode cX6_facts 13 = .ok (.iconst 0, 1) := by decide +kernel
theorem dX6_facts_14 : decode cX6_facts 14 = .ok (.istore_n 1, 1) := by decide +kernel
theorem dX6_facts_15 : decode cX6_facts 15 = .ok (.iconst 0, 1) := by decide +kernel
theorem dX6_facts_16 : decode cX6_facts 16 = .ok (.istore_n 2, 1) := by decide +kernel
theorem dX6_facts_17 : decode cX6_facts 17 = .ok (.iload_n 2, 1) := by decide +kernel
theorem dX6_facts_18 : decode cX6_facts 18 = .ok (.iconst 4, 1) := by decide +kernel
theorem dX6_facts_19 : decode cX6_facts 19 = .ok (.if_icmp .ge 45, 3) := by decide +kernel
theorem dX6_facts_22 : decode cX6_facts 22 = .ok (.aload_n 0, 1) := by decide +kernel
theorem dX6_facts_23 : decode cX6_facts 23 = .ok (.getfield 18, 3) := by decide +kernel
theorem dX6_facts_26 : decode cX6_facts 26 = .ok (.iload_n 2, 1) := by decide +kernel
theorem dX6_facts_27 : decode cX6_facts 27 = .ok (.aaload, 1) := by decide +kernel
theorem dX6_facts_28 : decode cX6_facts 28 = .ok (.getfield 137, 3) := by decide +kernel
theorem dX6_facts_31 : decode cX6_facts 31 = .ok (.ifCond .eq 11, 3) := by decide +kernel
theorem dX6_facts_34 : decode cX6_facts 34 = .ok (.iload_n 1, 1) := by decide +kernel
theorem dX6_facts_35 : decode cX6_facts 35 = .ok (.iconst 1, 1) := by decide +kernel
theorem dX6_facts_36 : decode cX6_facts 36 = .ok (.iconst 0, 1) := by decide +kernel
theorem dX6_facts_37 : decode cX6_facts 37 = .ok (.iload_n 2, 1) := by decide +kernel
theorem dX6_facts_38 : decode cX6_facts 38 = .ok (.iadd, 1) := by decide +kernel
theorem dX6_facts_39 : decode cX6_facts 39 = .ok (.ishl, 1) := by decide +kernel
theorem dX6_facts_40 : decode cX6_facts 40 = .ok (.ior, 1) := by decide +kernel
theorem dX6_facts_41 : decode cX6_facts 41 = .ok (.istore_n 1, 1) := by decide +kernel
theorem dX6_facts_42 : decode cX6_facts 42 = .ok (.aload_n 0, 1) := by decide +kernel
theorem dX6_facts_43 : decode cX6_facts 43 = .ok (.iload_n 2, 1) := by decide +kernel
theorem dX6_facts_44 : decode cX6_facts 44 = .ok (.invokevirtual 168, 3) := by decide +kernel
theorem dX6_facts_47 : decode cX6_facts 47 = .ok (.ifCond .eq 11, 3) := by decide +kernel
theorem dX6_facts_50 : decode cX6_facts 50 = .ok (.iload_n 1, 1) := by decide +kernel
theorem dX6_facts_51 : decode cX6_facts 51 = .ok (.iconst 1, 1) := by decide +kernel
theorem dX6_facts_52 : decode cX6_facts 52 = .ok (.iconst 4, 1) := by decide +kernel
theorem dX6_facts_53 : decode cX6_facts 53 = .ok (.iload_n 2, 1) := by decide +kernel
theorem dX6_facts_54 : decode cX6_facts 54 = .ok (.iadd, 1) := by decide +kernel
theorem dX6_facts_55 : decode cX6_facts 55 = .ok (.ishl, 1) := by decide +kernel
theorem dX6_facts_56 : decode cX6_facts 56 = .ok (.ior, 1) := by decide +kernel
theorem dX6_facts_57 : decode cX6_facts 57 = .ok (.istore_n 1, 1) := by decide +kernel
theorem dX6_facts_58 : decode cX6_facts 58 = .ok (.iinc 2 1, 3) := by decide +kernel
theorem dX6_facts_61 : decode cX6_facts 61 = .ok (.goto (-44), 3) := by decide +kernel
theorem dX6_facts_64 : decode cX6_facts 64 = .ok (.iload_n 1, 1) := by decide +kernel
theorem dX6_facts_65 : decode cX6_facts 65 = .ok (.ireturn, 1) := by decide +kernel
set_option maxRecDepth 20000 in
theorem ggX6_followRules_X6_facts : GoodIn wsX6_followRules wsX6_facts := goodIn_r _ [8, 9, 10, 11, 12, 13, 7, 14, 15, 16, 17, 18, 19, 20, 21, 22, 23, 24, 25, 26, 27, 28, 29, 30, 31, 32, 33, 34, 35, 36, 37, 38, 39, 40, 41, 52, 53, 54, 55, 56, 57, 58, 59, 60, 61, 67, 68, 69, 70, 71, 72, 73, 74, 75, 76, 77, 78, 79, 80, 81, 82] (by decide +kernel) (by decide +kernel)
set_option maxRecDepth 20000 in
theorem gX6_followRules_X6_facts : GoodIn wsX6_followRules (wsV RX6 228 RX6 yX6_facts wsX6_facts) := goodIn_app (goodIn_of _ (by decide +kernel)) ggX6_followRules_X6_facts
set_option maxRecDepth 20000 in
theorem ggX6_followRules_X4_isTrue : GoodIn wsX6_followRules wsX4_isTrue := goodIn_r _ [46, 47, 48, 49, 50, 45, 51, 62, 63, 64, 65, 66] (by decide +kernel) (by decide +kernel)
set_option maxRecDepth 20000 in
theorem gX6_followRules_X4_isTrue : GoodIn wsX6_followRules (wsV RX6 231 RX4 yX4_isTrue wsX4_isTrue) := goodIn_app (goodIn_of _ (by decide +kernel)) ggX6_followRules_X4_isTrue
theorem dX6_followRules_0 : decode cX6_followRules 0 = .ok (.aload_n 0, 1) := by decide +kernel
theorem dX6_followRules_1 : decode cX6_followRules 1 = .ok (.invokevirtual 228, 3) := by decide +kernel
theorem dX6_followRules_4 : decode cX6_followRules 4 = .ok (.istore_n 1, 1) := by decide +kernel
theorem dX6_followRules_5 : decode cX6_followRules 5 = .ok (.iconst 0, 1) := by decide +kernel
theorem dX6_followRules_6 : decode cX6_followRules 6 = .ok (.istore_n 2, 1) := by decide +kernel
theorem dX6_followRules_7 : decode cX6_followRules 7 = .ok (.iload_n 2, 1) := by decide +kernel
theorem dX6_followRules_8 : decode cX6_followRules 8 = .ok (.aload_n 0, 1) := by decide +kernel
theorem dX6_followRules_9 : decode cX6_followRules 9 = .ok (.getfield 90, 3) := by decide +kernel
theorem dX6_followRules_12 : decode cX6_followRules 12 = .ok (.if_icmp .ge 44, 3) := by decide +kernel
theorem dX6_followRules_15 : decode cX6_followRules 15 = .ok (.iload_n 2, 1) := by decide +kernel
theorem dX6_followRules_16 : decode cX6_followRules 16 = .ok (.bipush 6, 2) := by decide +kernel
theorem dX6_followRules_18 : decode cX6_followRules 18 = .ok (.if_icmp .ge 38, 3) := by decide +kernel
theorem dX6_followRules_21 : decode cX6_followRules 21 = .ok (.aload_n 0, 1) := by decide +kernel
theorem dX6_followRules_22 : decode cX6_followRules 22 = .ok (.getfield 25, 3) := by decide +kernel
theorem dX6_followRules_25 : decode cX6_followRules 25 = .ok (.iload_n 2, 1) := by decide +kernel
theorem dX6_followRules_26 : decode cX6_followRules 26 = .ok (.aaload, 1) := by decide +kernel
theorem dX6_followRules_27 : decode cX6_followRules 27 = .ok (.astore_n 3, 1) := by decide +kernel
theorem dX6_followRules_28 : decode cX6_followRules 28 = .ok (.aload_n 3, 1) := by decide +kernel
theorem dX6_followRules_29 : decode cX6_followRules 29 = .ok (.aload_n 3, 1) := by decide +kernel
theorem dX6_followRules_30 : decode cX6_followRules 30 = .ok (.iload_n 1, 1) := by decide +kernel
theorem dX6_followRules_31 : decode cX6_followRules 31 = .ok (.invokevirtual 231, 3) := by decide +kernel
theorem dX6_followRules_34 : decode cX6_followRules 34 = .ok (.ifCond .eq 12, 3) := by decide +kernel
theorem dX6_followRules_37 : decode cX6_followRules 37 = .ok (.aload_n 3, 1) := by decide +kernel
theorem dX6_followRules_38 : decode cX6_followRules 38 = .ok (.getfield 143, 3) := by decide +kernel
theorem dX6_followRules_41 : decode cX6_followRules 41 = .ok (.iconst 1, 1) := by decide +kernel
theorem dX6_followRules_42 : decode cX6_followRules 42 = .ok (.iadd, 1) := by decide +kernel
theorem dX6_followRules_43 : decode cX6_followRules 43 = .ok (.goto 4, 3) := by decide +kernel
theorem dX6_followRules_46 : decode cX6_followRules 46 = .ok (.iconst 0, 1) := by decide +kernel
theorem dX6_followRules_47 : decode cX6_followRules 47 = .ok (.putfield 143, 3) := by decide +kernel
theorem dX6_followRules_50 : decode cX6_followRules 50 = .ok (.iinc 2 1, 3) := by decide +kernel
theorem dX6_followRules_53 : decode cX6_followRules 53 = .ok (.goto (-46), 3) := by decide +kernel
theorem dX6_followRules_56 : decode cX6_followRules 56 = .ok (.return_, 1) := by decide +kernel
set_option maxRecDepth 20000 in
theorem ggX6_driveOutputs_X6_isDriven : GoodIn wsX6_driveOutputs wsX6_isDriven := goodIn_r _ [8, 9, 10, 11, 12, 13, 29, 30, 31, 32, 33, 34, 35, 36, 37, 38, 39, 40, 41, 42, 43] (by decide +kernel) (by decide +kernel)
set_option maxRecDepth 20000 in
theorem gX6_driveOutputs_X6_isDriven : GoodIn wsX6_driveOutputs (wsV RX6 234 RX6 yX6_isDriven wsX6_isDriven) := goodIn_app (goodIn_of _ (by decide +kernel)) ggX6_driveOutputs_X6_isDriven
set_option maxRecDepth 20000 in
theorem ggX6_driveOutputs_X0_add : GoodIn wsX6_driveOutputs wsX0_add := goodIn_r _ [18, 19, 20, 21, 22, 23, 24, 25, 26, 27, 28, 44, 45] (by decide +kernel) (by decide +kernel)
set_option maxRecDepth 20000 in
theorem gX6_driveOutputs_X0_add : GoodIn wsX6_driveOutputs (wsV RX6 133 RX0 yX0_add wsX0_add) := goodIn_app (goodIn_of _ (by decide +kernel)) ggX6_driveOutputs_X0_add
theorem dX6_driveOutputs_0 : decode cX6_driveOutputs 0 = .ok (.iconst 0, 1) := by decide +kernel
theorem dX6_driveOutputs_1 : decode cX6_driveOutputs 1 = .ok (.istore_n 1, 1) := by decide +kernel
theorem dX6_driveOutputs_2 : decode cX6_driveOutputs 2 = .ok (.iload_n 1, 1) := by decide +kernel
theorem dX6_driveOutputs_3 : decode cX6_driveOutputs 3 = .ok (.bipush 6, 2) := by decide +kernel
theorem dX6_driveOutputs_5 : decode cX6_driveOutputs 5 = .ok (.if_icmp .ge 48, 3) := by decide +kernel
theorem dX6_driveOutputs_8 : decode cX6_driveOutputs 8 = .ok (.aload_n 0, 1) := by decide +kernel
theorem dX6_driveOutputs_9 : decode cX6_driveOutputs 9 = .ok (.iload_n 1, 1) := by decide +kernel
theorem dX6_driveOutputs_10 : decode cX6_driveOutputs 10 = .ok (.invokevirtual 234, 3) := by decide +kernel
theorem dX6_driveOutputs_13 : decode cX6_driveOutputs 13 = .ok (.istore_n 2, 1) := by decide +kernel
theorem dX6_driveOutputs_14 : decode cX6_driveOutputs 14 = .ok (.iload_n 2, 1) := by decide +kernel
theorem dX6_driveOutputs_15 : decode cX6_driveOutputs 15 = .ok (.ifCond .eq 25, 3) := by decide +kernel
theorem dX6_driveOutputs_18 : decode cX6_driveOutputs 18 = .ok (.aload_n 0, 1) := by decide +kernel
theorem dX6_driveOutputs_19 : decode cX6_driveOutputs 19 = .ok (.getfield 30, 3) := by decide +kernel
theorem dX6_driveOutputs_22 : decode cX6_driveOutputs 22 = .ok (.iload_n 1, 1) := by decide +kernel
theorem dX6_driveOutputs_23 : decode cX6_driveOutputs 23 = .ok (.baload, 1) := by decide +kernel
theorem dX6_driveOutputs_24 : decode cX6_driveOutputs 24 = .ok (.ifCond .ne 16, 3) := by decide +kernel
theorem dX6_driveOutputs_27 : decode cX6_driveOutputs 27 = .ok (.aload_n 0, 1) := by decide +kernel
theorem dX6_driveOutputs_28 : decode cX6_driveOutputs 28 = .ok (.getfield 44, 3) := by decide +kernel
theorem dX6_driveOutputs_31 : decode cX6_driveOutputs 31 = .ok (.iconst 4, 1) := by decide +kernel
theorem dX6_driveOutputs_32 : decode cX6_driveOutputs 32 = .ok (.iload_n 1, 1) := by decide +kernel
theorem dX6_driveOutputs_33 : decode cX6_driveOutputs 33 = .ok (.aload_n 0, 1) := by decide +kernel
theorem dX6_driveOutputs_34 : decode cX6_driveOutputs 34 = .ok (.getfield 110, 3) := by decide +kernel
theorem dX6_driveOutputs_37 : decode cX6_driveOutputs 37 = .ok (.invokevirtual 133, 3) := by decide +kernel
theorem dX6_driveOutputs_40 : decode cX6_driveOutputs 40 = .ok (.aload_n 0, 1) := by decide +kernel
theorem dX6_driveOutputs_41 : decode cX6_driveOutputs 41 = .ok (.getfield 30, 3) := by decide +kernel
theorem dX6_driveOutputs_44 : decode cX6_driveOutputs 44 = .ok (.iload_n 1, 1) := by decide +kernel
theorem dX6_driveOutputs_45 : decode cX6_driveOutputs 45 = .ok (.iload_n 2, 1) := by decide +kernel
theorem dX6_driveOutputs_46 : decode cX6_driveOutputs 46 = .ok (.bastore, 1) := by decide +kernel
theorem dX6_driveOutputs_47 : decode cX6_driveOutputs 47 = .ok (.iinc 1 1, 3) := by decide +kernel
theorem dX6_driveOutputs_50 : decode cX6_driveOutputs 50 = .ok (.goto (-48), 3) := by decide +kernel
theorem dX6_driveOutputs_53 : decode cX6_driveOutputs 53 = .ok (.return_, 1) := by decide +kernel
theorem dX6_isDriven_0 : decode cX6_isDriven 0 = .ok (.iconst 0, 1) := by decide +kernel
theorem dX6_isDriven_1 : decode cX6_isDriven 1 = .ok (.istore_n 2, 1) := by decide +kernel
theorem dX6_isDriven_2 : decode cX6_isDriven 2 = .ok (.iload_n 2, 1) := by decide +kernel
theorem dX6_isDriven_3 : decode cX6_isDriven 3 = .ok (.aload_n 0, 1) := by decide +kernel
theorem dX6_isDriven_4 : decode cX6_isDriven 4 = .ok (.getfield 90, 3) := by decide +kernel
theorem dX6_isDriven_7 : decode cX6_isDriven 7 = .ok (.if_icmp .ge 51, 3) := by decide +kernel
theorem dX6_isDriven_10 : decode cX6_isDriven 10 = .ok (.iload_n 2, 1) := by decide +kernel
theorem dX6_isDriven_11 : decode cX6_isDriven 11 = .ok (.bipush 6, 2) := by decide +kernel
theorem dX6_isDriven_13 : decode cX6_isDriven 13 = .ok (.if_icmp .ge 45, 3) := by decide +kernel
theorem dX6_isDriven_16 : decode cX6_isDriven 16 = .ok (.aload_n 0, 1) := by decide +kernel
theorem dX6_isDriven_17 : decode cX6_isDriven 17 = .ok (.getfield 25, 3) := by decide +kernel
theorem dX6_isDriven_20 : decode cX6_isDriven 20 = .ok (.iload_n 2, 1) := by decide +kernel
theorem dX6_isDriven_21 : decode cX6_isDriven 21 = .ok (.aaload, 1) := by decide +kernel
theorem dX6_isDriven_22 : decode cX6_isDriven 22 = .ok (.getfield 237, 3) := by decide +kernel
theorem dX6_isDriven_25 : decode cX6_isDriven 25 = .ok (.iload_n 1, 1) := by decide +kernel
theorem dX6_isDriven_26 : decode cX6_isDriven 26 = .ok (.if_icmp .ne 26, 3) := by decide +kernel
theorem dX6_isDriven_29 : decode cX6_isDriven 29 = .ok (.aload_n 0, 1) := by decide +kernel
theorem dX6_isDriven_30 : decode cX6_isDriven 30 = .ok (.getfield 25, 3) := by decide +kernel
theorem dX6_isDriven_33 : decode cX6_isDriven 33 = .ok (.iload_n 2, 1) := by decide +kernel
theorem dX6_isDriven_34 : decode cX6_isDriven 34 = .ok (.aaload, 1) := by decide +kernel
theorem dX6_isDriven_35 : decode cX6_isDriven 35 = .ok (.getfield 143, 3) := by decide +kernel
theorem dX6_isDriven_38 : decode cX6_isDriven 38 = .ok (.aload_n 0, 1) := by decide +kernel
theorem dX6_isDriven_39 : decode cX6_isDriven 39 = .ok (.getfield 25, 3) := by decide +kernel
theorem dX6_isDriven_42 : decode cX6_isDriven 42 = .ok (.iload_n 2, 1) := by decide +kernel
theorem dX6_isDriven_43 : decode cX6_isDriven 43 = .ok (.aaload, 1) := by decide +kernel
theorem dX6_isDriven_44 : decode cX6_isDriven 44 = .ok (.getfield 240, 3) := by decide +kernel
theorem dX6_isDriven_47 : decode cX6_isDriven 47 = .ok (.if_icmp .le 5, 3) := by decide +kernel
theorem dX6_isDriven_50 : decode cX6_isDriven 50 = .ok (.iconst 1, 1) := by decide +kernel
theorem dX6_isDriven_51 : decode cX6_isDriven 51 = .ok (.ireturn, 1) := by decide +kernel
theorem dX6_isDriven_52 : decode cX6_isDriven 52 = .ok (.iinc 2 1, 3) := by decide +kernel
theorem dX6_isDriven_55 : decode cX6_isDriven 55 = .ok (.goto (-53), 3) := by decide +kernel
theorem dX6_isDriven_58 : decode cX6_isDriven 58 = .ok (.iconst 0, 1) := by decide +kernel
theorem dX6_isDriven_59 : decode cX6_isDriven 59 = .ok (.ireturn, 1) := by decide +kernel
theorem dX6_allOutputsOff_0 : decode cX6_allOutputsOff 0 = .ok (.iconst 0, 1) := by decide +kernel
theorem dX6_allOutputsOff_1 : decode cX6_allOutputsOff 1 = .ok (.istore_n 1, 1) := by decide +kernel
theorem dX6_allOutputsOff_2 : decode cX6_allOutputsOff 2 = .ok (.iload_n 1, 1) := by decide +kernel
theorem dX6_allOutputsOff_3 : decode cX6_allOutputsOff 3 = .ok (.bipush 6, 2) := by decide +kernel
theorem dX6_allOutputsOff_5 : decode cX6_allOutputsOff 5 = .ok (.if_icmp .ge 16, 3) := by decide +kernel
theorem dX6_allOutputsOff_8 : decode cX6_allOutputsOff 8 = .ok (.aload_n 0, 1) := by decide +kernel
theorem dX6_allOutputsOff_9 : decode cX6_allOutputsOff 9 = .ok (.getfield 30, 3) := by decide +kernel
theorem dX6_allOutputsOff_12 : decode cX6_allOutputsOff 12 = .ok (.iload_n 1, 1) := by decide +kernel
theorem dX6_allOutputsOff_13 : decode cX6_allOutputsOff 13 = .ok (.iconst 0, 1) := by decide +kernel
theorem dX6_allOutputsOff_14 : decode cX6_allOutputsOff 14 = .ok (.bastore, 1) := by decide +kernel
theorem dX6_allOutputsOff_15 : decode cX6_allOutputsOff 15 = .ok (.iinc 1 1, 3) := by decide +kernel
theorem dX6_allOutputsOff_18 : decode cX6_allOutputsOff 18 = .ok (.goto (-16), 3) := by decide +kernel
theorem dX6_allOutputsOff_21 : decode cX6_allOutputsOff 21 = .ok (.return_, 1) := by decide +kernel
end
section
theorem dX7_init_0 : decode cX7_init 0 = .ok (.aload_n 0, 1) := by decide +kernel
theorem dX7_init_1 : decode cX7_init 1 = .ok (.invokespecial 1, 3) := by decide +kernel
theorem dX7_init_4 : decode cX7_init 4 = .ok (.aload_n 0, 1) := by decide +kernel
theorem dX7_init_5 : decode cX7_init 5 = .ok (.bipush 17, 2) := by decide +kernel
theorem dX7_init_7 : decode cX7_init 7 = .ok (.newarray .int, 2) := by decide +kernel
theorem dX7_init_9 : decode cX7_init 9 = .ok (.putfield 7, 3) := by decide +kernel
theorem dX7_init_12 : decode cX7_init 12 = .ok (.aload_n 0, 1) := by decide +kernel
theorem dX7_init_13 : decode cX7_init 13 = .ok (.bipush 16, 2) := by decide +kernel
theorem dX7_init_15 : decode cX7_init 15 = .ok (.newarray .int, 2) := by decide +kernel
theorem dX7_init_17 : decode cX7_init 17 = .ok (.putfield 13, 3) := by decide +kernel
theorem dX7_init_20 : decode cX7_init 20 = .ok (.aload_n 0, 1) := by decide +kernel
theorem dX7_init_21 : decode cX7_init 21 = .ok (.bipush 16, 2) := by decide +kernel
theorem dX7_init_23 : decode cX7_init 23 = .ok (.newarray .int, 2) := by decide +kernel
theorem dX7_init_25 : decode cX7_init 25 = .ok (.putfield 16, 3) := by decide +kernel
theorem dX7_init_28 : decode cX7_init 28 = .ok (.aload_n 0, 1) := by decide +kernel
theorem dX7_init_29 : decode cX7_init 29 = .ok (.bipush 16, 2) := by decide +kernel
theorem dX7_init_31 : decode cX7_init 31 = .ok (.newarray .float, 2) := by decide +kernel
theorem dX7_init_33 : decode cX7_init 33 = .ok (.putfield 19, 3) := by decide +kernel
theorem dX7_init_36 : decode cX7_init 36 = .ok (.aload_n 0, 1) := by decide +kernel
theorem dX7_init_37 : decode cX7_init 37 = .ok (.bipush 16, 2) := by decide +kernel
theorem dX7_init_39 : decode cX7_init 39 = .ok (.newarray .float, 2) := by decide +kernel
theorem dX7_init_41 : decode cX7_init 41 = .ok (.putfield 23, 3) := by decide +kernel
theorem dX7_init_44 : decode cX7_init 44 = .ok (.aload_n 0, 1) := by decide +kernel
theorem dX7_init_45 : decode cX7_init 45 = .ok (.bipush 16, 2) := by decide +kernel
theorem dX7_init_47 : decode cX7_init 47 = .ok (.newarray .float, 2) := by decide +kernel
theorem dX7_init_49 : decode cX7_init 49 = .ok (.putfield 26, 3) := by decide +kernel
theorem dX7_init_52 : decode cX7_init 52 = .ok (.aload_n 0, 1) := by decide +kernel
theorem dX7_init_53 : decode cX7_init 53 = .ok (.bipush 16, 2) := by decide +kernel
theorem dX7_init_55 : decode cX7_init 55 = .ok (.newarray .float, 2) := by decide +kernel
theorem dX7_init_57 : decode cX7_init 57 = .ok (.putfield 29, 3) := by decide +kernel
theorem dX7_init_60 : decode cX7_init 60 = .ok (.aload_n 0, 1) := by decide +kernel
theorem dX7_init_61 : decode cX7_init 61 = .ok (.bipush 16, 2) := by decide +kernel
theorem dX7_init_63 : decode cX7_init 63 = .ok (.newarray .int, 2) := by decide +kernel
theorem dX7_init_65 : decode cX7_init 65 = .ok (.putfield 32, 3) := by decide +kernel
theorem dX7_init_68 : decode cX7_init 68 = .ok (.aload_n 0, 1) := by decide +kernel
theorem dX7_init_69 : decode cX7_init 69 = .ok (.bipush 16, 2) := by decide +kernel
theorem dX7_init_71 : decode cX7_init 71 = .ok (.newarray .boolean, 2) := by decide +kernel
theorem dX7_init_73 : decode cX7_init 73 = .ok (.putfield 35, 3) := by decide +kernel
theorem dX7_init_76 : decode cX7_init 76 = .ok (.aload_n 0, 1) := by decide +kernel
theorem dX7_init_77 : decode cX7_init 77 = .ok (.bipush 16, 2) := by decide +kernel
theorem dX7_init_79 : decode cX7_init 79 = .ok (.newarray .int, 2) := by decide +kernel
theorem dX7_init_81 : decode cX7_init 81 = .ok (.putfield 39, 3) := by decide +kernel
theorem dX7_init_84 : decode cX7_init 84 = .ok (.aload_n 0, 1) := by decide +kernel
theorem dX7_init_85 : decode cX7_init 85 = .ok (.bipush 16, 2) := by decide +kernel
theorem dX7_init_87 : decode cX7_init 87 = .ok (.newarray .boolean, 2) := by decide +kernel
theorem dX7_init_89 : decode cX7_init 89 = .ok (.putfield 42, 3) := by decide +kernel
theorem dX7_init_92 : decode cX7_init 92 = .ok (.aload_n 0, 1) := by decide +kernel
theorem dX7_init_93 : decode cX7_init 93 = .ok (.bipush 16, 2) := by decide +kernel
theorem dX7_init_95 : decode cX7_init 95 = .ok (.newarray .boolean, 2) := by decide +kernel
theorem dX7_init_97 : decode cX7_init 97 = .ok (.putfield 45, 3) := by decide +kernel
theorem dX7_init_100 : decode cX7_init 100 = .ok (.aload_n 0, 1) := by decide +kernel
theorem dX7_init_101 : decode cX7_init 101 = .ok (.iconst 4, 1) := by decide +kernel
theorem dX7_init_102 : decode cX7_init 102 = .ok (.newarray .boolean, 2) := by decide +kernel
theorem dX7_init_104 : decode cX7_init 104 = .ok (.putfield 48, 3) := by decide +kernel
theorem dX7_init_107 : decode cX7_init 107 = .ok (.aload_n 0, 1) := by decide +kernel
theorem dX7_init_108 : decode cX7_init 108 = .ok (.iconst 4, 1) := by decide +kernel
theorem dX7_init_109 : decode cX7_init 109 = .ok (.newarray .int, 2) := by decide +kernel
theorem dX7_init_111 : decode cX7_init 111 = .ok (.putfield 51, 3) := by decide +kernel
theorem dX7_init_114 : decode cX7_init 114 = .ok (.aload_n 0, 1) := by decide +kernel
theorem dX7_init_115 : decode cX7_init 115 = .ok (.iconst 4, 1) := by decide +kernel
theorem dX7_init_116 : decode cX7_init 116 = .ok (.newarray .boolean, 2) := by decide +kernel
theorem dX7_init_118 : decode cX7_init 118 = .ok (.putfield 54, 3) := by decide +kernel
theorem dX7_init_121 : decode cX7_init 121 = .ok (.aload_n 0, 1) := by decide +kernel
theorem dX7_init_122 : decode cX7_init 122 = .ok (.bipush 120, 2) := by decide +kernel
theorem dX7_init_124 : decode cX7_init 124 = .ok (.newarray .int, 2) := by decide +kernel
theorem dX7_init_126 : decode cX7_init 126 = .ok (.putfield 57, 3) := by decide +kernel
theorem dX7_init_129 : decode cX7_init 129 = .ok (.aload_n 0, 1) := by decide +kernel
theorem dX7_init_130 : decode cX7_init 130 = .ok (.bipush 6, 2) := by decide +kernel
theorem dX7_init_132 : decode cX7_init 132 = .ok (.newarray .int, 2) := by decide +kernel
theorem dX7_init_134 : decode cX7_init 134 = .ok (.putfield 60, 3) := by decide +kernel
theorem dX7_init_137 : decode cX7_init 137 = .ok (.aload_n 0, 1) := by decide +kernel
theorem dX7_init_138 : decode cX7_init 138 = .ok (.bipush 6, 2) := by decide +kernel
theorem dX7_init_140 : decode cX7_init 140 = .ok (.newarray .int, 2) := by decide +kernel
theorem dX7_init_142 : decode cX7_init 142 = .ok (.putfield 63, 3) := by decide +kernel
theorem dX7_init_145 : decode cX7_init 145 = .ok (.aload_n 0, 1) := by decide +kernel
theorem dX7_init_146 : decode cX7_init 146 = .ok (.bipush 6, 2) := by decide +kernel
theorem dX7_init_148 : decode cX7_init 148 = .ok (.newarray .int, 2) := by decide +kernel
theorem dX7_init_150 : decode cX7_init 150 = .ok (.putfield 66, 3) := by decide +kernel
theorem dX7_init_153 : decode cX7_init 153 = .ok (.aload_n 0, 1) := by decide +kernel
theorem dX7_init_154 : decode cX7_init 154 = .ok (.bipush 6, 2) := by decide +kernel
theorem dX7_init_156 : decode cX7_init 156 = .ok (.newarray .int, 2) := by decide +kernel
theorem dX7_init_158 : decode cX7_init 158 = .ok (.putfield 69, 3) := by decide +kernel
theorem dX7_init_161 : decode cX7_init 161 = .ok (.aload_n 0, 1) := by decide +kernel
theorem dX7_init_162 : decode cX7_init 162 = .ok (.bipush 6, 2) := by decide +kernel
theorem dX7_init_164 : decode cX7_init 164 = .ok (.newarray .boolean, 2) := by decide +kernel
theorem dX7_init_166 : decode cX7_init 166 = .ok (.putfield 72, 3) := by decide +kernel
theorem dX7_init_169 : decode cX7_init 169 = .ok (.aload_n 0, 1) := by decide +kernel
theorem dX7_init_170 : decode cX7_init 170 = .ok (.bipush 20, 2) := by decide +kernel
theorem dX7_init_172 : decode cX7_init 172 = .ok (.newarray .char, 2) := by decide +kernel
theorem dX7_init_174 : decode cX7_init 174 = .ok (.putfield 75, 3) := by decide +kernel
theorem dX7_init_177 : decode cX7_init 177 = .ok (.aload_n 0, 1) := by decide +kernel
theorem dX7_init_178 : decode cX7_init 178 = .ok (.bipush 48, 2) := by decide +kernel
theorem dX7_init_180 : decode cX7_init 180 = .ok (.newarray .int, 2) := by decide +kernel
theorem dX7_init_182 : decode cX7_init 182 = .ok (.putfield 79, 3) := by decide +kernel
theorem dX7_init_185 : decode cX7_init 185 = .ok (.aload_n 0, 1) := by decide +kernel
theorem dX7_init_186 : decode cX7_init 186 = .ok (.bipush 24, 2) := by decide +kernel
theorem dX7_init_188 : decode cX7_init 188 = .ok (.newarray .char, 2) := by decide +kernel
theorem dX7_init_190 : decode cX7_init 190 = .ok (.putfield 82, 3) := by decide +kernel
theorem dX7_init_193 : decode cX7_init 193 = .ok (.aload_n 0, 1) := by decide +kernel
theorem dX7_init_194 : decode cX7_init 194 = .ok (.bipush 24, 2) := by decide +kernel
theorem dX7_init_196 : decode cX7_init 196 = .ok (.newarray .int, 2) := by decide +kernel
theorem dX7_init_198 : decode cX7_init 198 = .ok (.putfield 85, 3) := by decide +kernel
theorem dX7_init_201 : decode cX7_init 201 = .ok (.iconst 0, 1) := by decide +kernel
theorem dX7_init_202 : decode cX7_init 202 = .ok (.istore_n 1, 1) := by decide +kernel
theorem dX7_init_203 : decode cX7_init 203 = .ok (.iload_n 1, 1) := by decide +kernel
theorem dX7_init_204 : decode cX7_init 204 = .ok (.iconst 4, 1) := by decide +kernel
theorem dX7_init_205 : decode cX7_init 205 = .ok (.if_icmp .ge 16, 3) := by decide +kernel
theorem dX7_init_208 : decode cX7_init 208 = .ok (.aload_n 0, 1) := by decide +kernel
theorem dX7_init_209 : decode cX7_init 209 = .ok (.getfield 51, 3) := by decide +kernel
theorem dX7_init_212 : decode cX7_init 212 = .ok (.iload_n 1, 1) := by decide +kernel
theorem dX7_init_213 : decode cX7_init 213 = .ok (.iconst 1, 1) := by decide +kernel
theorem dX7_init_214 : decode cX7_init 214 = .ok (.iastore, 1) := by decide +kernel
theorem dX7_init_215 : decode cX7_init 215 = .ok (.iinc 1 1, 3) := by decide +kernel
theorem dX7_init_218 : decode cX7_init 218 = .ok (.goto (-15), 3) := by decide +kernel
theorem dX7_init_221 : decode cX7_init 221 = .ok (.return_, 1) := by decide +kernel
theorem dX7_thrown_0 : decode cX7_thrown 0 = .ok (.aload_n 0, 1) := by decide +kernel
theorem dX7_thrown_1 : decode cX7_thrown 1 = .ok (.getfield 88, 3) := by decide +kernel
theorem dX7_thrown_4 : decode cX7_thrown 4 = .ok (.ireturn, 1) := by decide +kernel
theorem dX7_in_0 : decode cX7_in 0 = .ok (.iload_n 0, 1) := by decide +kernel
theorem dX7_in_1 : decode cX7_in 1 = .ok (.iload_n 1, 1) := by decide +kernel
theorem dX7_in_2 : decode cX7_in 2 = .ok (.if_icmp .lt 12, 3) := by decide +kernel
theorem dX7_in_5 : decode cX7_in 5 = .ok (.iload_n 0, 1) := by decide +kernel
theorem dX7_in_6 : decode cX7_in 6 = .ok (.iload_n 2, 1) := by decide +kernel
theorem dX7_in_7 : decode cX7_in 7 = .ok (.if_icmp .gt 7, 3) := by decide +kernel
theorem dX7_in_10 : decode cX7_in 10 = .ok (.iconst 1, 1) := by decide +kernel
theorem dX7_in_11 : decode cX7_in 11 = .ok (.goto 4, 3) := by decide +kernel
theorem dX7_in_14 : decode cX7_in 14 = .ok (.iconst 0, 1) := by decide +kernel
theorem dX7_in_15 : decode cX7_in 15 = .ok (.ireturn, 1) := by decide +kernel
theorem dX7_stretchShort_0 : decode cX7_stretchShort 0 = .ok (.aload_n 0, 1) := by decide +kernel
theorem dX7_stretchShort_1 : decode cX7_stretchShort 1 = .ok (.getfield 7, 3) := by decide +kernel
theorem dX7_stretchShort_4 : decode cX7_stretchShort 4 = .ok (.iload_n 1, 1) := by decide +kernel
theorem dX7_stretchShort_5 : decode cX7_stretchShort 5 = .ok (.iaload, 1) := by decide +kernel
theorem dX7_stretchShort_6 : decode cX7_stretchShort 6 = .ok (.iconst 2, 1) := by decide +kernel
theorem dX7_stretchShort_7 : decode cX7_stretchShort 7 = .ok (.if_icmp .ne 7, 3) := by decide +kernel
theorem dX7_stretchShort_10 : decode cX7_stretchShort 10 = .ok (.iconst 1, 1) := by decide +kernel
theorem dX7_stretchShort_11 : decode cX7_stretchShort 11 = .ok (.goto 4, 3) := by decide +kernel
theorem dX7_stretchShort_14 : decode cX7_stretchShort 14 = .ok (.iconst 0, 1) := by decide +kernel
theorem dX7_stretchShort_15 : decode cX7_stretchShort 15 = .ok (.istore_n 2, 1) := by decide +kernel
theorem dX7_stretchShort_16 : decode cX7_stretchShort 16 = .ok (.iload_n 1, 1) := by decide +kernel
theorem dX7_stretchShort_17 : decode cX7_stretchShort 17 = .ok (.istore_n 3, 1) := by decide +kernel
theorem dX7_stretchShort_18 : decode cX7_stretchShort 18 = .ok (.iload_n 3, 1) := by decide +kernel
theorem dX7_stretchShort_19 : decode cX7_stretchShort 19 = .ok (.ifCond .le 43, 3) := by decide +kernel
theorem dX7_stretchShort_22 : decode cX7_stretchShort 22 = .ok (.aload_n 0, 1) := by decide +kernel
theorem dX7_stretchShort_23 : decode cX7_stretchShort 23 = .ok (.getfield 13, 3) := by decide +kernel
theorem dX7_stretchShort_26 : decode cX7_stretchShort 26 = .ok (.iload_n 3, 1) := by decide +kernel
theorem dX7_stretchShort_27 : decode cX7_stretchShort 27 = .ok (.iconst 1, 1) := by decide +kernel
theorem dX7_stretchShort_28 : decode cX7_stretchShort 28 = .ok (.isub, 1) := by decide +kernel
theorem dX7_stretchShort_29 : decode cX7_stretchShort 29 = .ok (.iaload, 1) := by decide +kernel
theorem dX7_stretchShort_30 : decode cX7_stretchShort 30 = .ok (.iconst 4, 1) := by decide +kernel
theorem dX7_stretchShort_31 : decode cX7_stretchShort 31 = .ok (.if_icmp .eq 31, 3) := by decide +kernel
theorem dX7_stretchShort_34 : decode cX7_stretchShort 34 = .ok (.iload_n 2, 1) := by decide +kernel
theorem dX7_stretchShort_35 : decode cX7_stretchShort 35 = .ok (.ifCond .ne 15, 3) := by decide +kernel
theorem dX7_stretchShort_38 : decode cX7_stretchShort 38 = .ok (.aload_n 0, 1) := by decide +kernel
theorem dX7_stretchShort_39 : decode cX7_stretchShort 39 = .ok (.getfield 7, 3) := by decide +kernel
theorem dX7_stretchShort_42 : decode cX7_stretchShort 42 = .ok (.iload_n 3, 1) := by decide +kernel
theorem dX7_stretchShort_43 : decode cX7_stretchShort 43 = .ok (.iconst 1, 1) := by decide +kernel
theorem dX7_stretchShort_44 : decode cX7_stretchShort 44 = .ok (.isub, 1) := by decide +kernel
theorem dX7_stretchShort_45 : decode cX7_stretchShort 45 = .ok (.iaload, 1) := by decide +kernel
theorem dX7_stretchShort_46 : decode cX7_stretchShort 46 = .ok (.iconst 2, 1) := by decide +kernel
theorem dX7_stretchShort_47 : decode cX7_stretchShort 47 = .ok (.if_icmp .ne 7, 3) := by decide +kernel
theorem dX7_stretchShort_50 : decode cX7_stretchShort 50 = .ok (.iconst 1, 1) := by decide +kernel
theorem dX7_stretchShort_51 : decode cX7_stretchShort 51 = .ok (.goto 4, 3) := by decide +kernel
theorem dX7_stretchShort_54 : decode cX7_stretchShort 54 = .ok (.iconst 0, 1) := by decide +kernel
theorem dX7_stretchShort_55 : decode cX7_stretchShort 55 = .ok (.istore_n 2, 1) := by decide +kernel
theorem dX7_stretchShort_56 : decode cX7_stretchShort 56 = .ok (.iinc 3 (-1), 3) := by decide +kernel
theorem dX7_stretchShort_59 : decode cX7_stretchShort 59 = .ok (.goto (-41), 3) := by decide +kernel
theorem dX7_stretchShort_62 : decode cX7_stretchShort 62 = .ok (.iload_n 1, 1) := by decide +kernel
theorem dX7_stretchShort_63 : decode cX7_stretchShort 63 = .ok (.istore_n 3, 1) := by decide +kernel
theorem dX7_stretchShort_64 : decode cX7_stretchShort 64 = .ok (.iload_n 3, 1) := by decide +kernel
theorem dX7_stretchShort_65 : decode cX7_stretchShort 65 = .ok (.bipush 16, 2) := by decide +kernel
theorem dX7_stretchShort_67 : decode cX7_stretchShort 67 = .ok (.if_icmp .ge 41, 3) := by decide +kernel
theorem dX7_stretchShort_70 : decode cX7_stretchShort 70 = .ok (.aload_n 0, 1) := by decide +kernel
theorem dX7_stretchShort_71 : decode cX7_stretchShort 71 = .ok (.getfield 13, 3) := by decide +kernel
theorem dX7_stretchShort_74 : decode cX7_stretchShort 74 = .ok (.iload_n 3, 1) := by decide +kernel
theorem dX7_stretchShort_75 : decode cX7_stretchShort 75 = .ok (.iaload, 1) := by decide +kernel
theorem dX7_stretchShort_76 : decode cX7_stretchShort 76 = .ok (.iconst 4, 1) := by decide +kernel
theorem dX7_stretchShort_77 : decode cX7_stretchShort 77 = .ok (.if_icmp .eq 31, 3) := by decide +kernel
theorem dX7_stretchShort_80 : decode cX7_stretchShort 80 = .ok (.iload_n 2, 1) := by decide +kernel
theorem dX7_stretchShort_81 : decode cX7_stretchShort 81 = .ok (.ifCond .ne 15, 3) := by decide +kernel
theorem dX7_stretchShort_84 : decode cX7_stretchShort 84 = .ok (.aload_n 0, 1) := by decide +kernel
theorem dX7_stretchShort_85 : decode cX7_stretchShort 85 = .ok (.getfield 7, 3) := by decide +kernel
theorem dX7_stretchShort_88 : decode cX7_stretchShort 88 = .ok (.iload_n 3, 1) := by decide +kernel
theorem dX7_stretchShort_89 : decode cX7_stretchShort 89 = .ok (.iconst 1, 1) := by decide +kernel
theorem dX7_stretchShort_90 : decode cX7_stretchShort 90 = .ok (.iadd, 1) := by decide +kernel
theorem dX7_stretchShort_91 : decode cX7_stretchShort 91 = .ok (.iaload, 1) := by decide +kernel
theorem dX7_stretchShort_92 : decode cX7_stretchShort 92 = .ok (.iconst 2, 1) := by decide +kernel
theorem dX7_stretchShort_93 : decode cX7_stretchShort 93 = .ok (.if_icmp .ne 7, 3) := by decide +kernel
theorem dX7_stretchShort_96 : decode cX7_stretchShort 96 = .ok (.iconst 1, 1) := by decide +kernel
theorem dX7_stretchShort_97 : decode cX7_stretchShort 97 = .ok (.goto 4, 3) := by decide +kernel
theorem dX7_stretchShort_100 : decode cX7_stretchShort 100 = .ok (.iconst 0, 1) := by decide +kernel
theorem dX7_stretchShort_101 : decode cX7_stretchShort 101 = .ok (.istore_n 2, 1) := by decide +kernel
theorem dX7_stretchShort_102 : decode cX7_stretchShort 102 = .ok (.iinc 3 1, 3) := by decide +kernel
theorem dX7_stretchShort_105 : decode cX7_stretchShort 105 = .ok (.goto (-41), 3) := by decide +kernel
theorem dX7_stretchShort_108 : decode cX7_stretchShort 108 = .ok (.iload_n 2, 1) := by decide +kernel
theorem dX7_stretchShort_109 : decode cX7_stretchShort 109 = .ok (.ireturn, 1) := by decide +kernel
set_option maxRecDepth 20000 in
theorem ggX7_goes_X7_stretchShort : GoodIn wsX7_goes wsX7_stretchShort := goodIn_r _ [6, 1, 7, 8, 9, 10, 11, 12, 13, 14, 15, 16, 17, 18, 19, 20, 21, 22, 23, 24, 25, 26, 27, 28, 29, 30, 31, 32, 33, 34, 35, 36, 37, 38, 39, 40, 41] (by decide +kernel) (by decide +kernel)
set_option maxRecDepth 20000 in
theorem gX7_goes_X7_stretchShort : GoodIn wsX7_goes (wsV RX7 92 RX7 yX7_stretchShort wsX7_stretchShort) := goodIn_app (goodIn_of _ (by decide +kernel)) ggX7_goes_X7_stretchShort
theorem dX7_goes_0 : decode cX7_goes 0 = .ok (.aload_n 0, 1) := by decide +kernel
theorem dX7_goes_1 : decode cX7_goes 1 = .ok (.getfield 7, 3) := by decide +kernel
theorem dX7_goes_4 : decode cX7_goes 4 = .ok (.iload_n 1, 1) := by decide +kernel
theorem dX7_goes_5 : decode cX7_goes 5 = .ok (.iaload, 1) := by decide +kernel
theorem dX7_goes_6 : decode cX7_goes 6 = .ok (.iconst 1, 1) := by decide +kernel
theorem dX7_goes_7 : decode cX7_goes 7 = .ok (.if_icmp .eq 15, 3) := by decide +kernel
theorem dX7_goes_10 : decode cX7_goes 10 = .ok (.aload_n 0, 1) := by decide +kernel
theorem dX7_goes_11 : decode cX7_goes 11 = .ok (.iload_n 1, 1) := by decide +kernel
theorem dX7_goes_12 : decode cX7_goes 12 = .ok (.invokevirtual 92, 3) := by decide +kernel
theorem dX7_goes_15 : decode cX7_goes 15 = .ok (.ifCond .ne 7, 3) := by decide +kernel
theorem dX7_goes_18 : decode cX7_goes 18 = .ok (.iconst 1, 1) := by decide +kernel
theorem dX7_goes_19 : decode cX7_goes 19 = .ok (.goto 4, 3) := by decide +kernel
theorem dX7_goes_22 : decode cX7_goes 22 = .ok (.iconst 0, 1) := by decide +kernel
theorem dX7_goes_23 : decode cX7_goes 23 = .ok (.ireturn, 1) := by decide +kernel
set_option maxRecDepth 20000 in
theorem ggX7_reached_X7_goes : GoodIn wsX7_reached wsX7_goes := goodIn_r _ [5, 6, 7, 8, 9, 4, 10, 11, 12, 13, 14, 15, 16, 17, 18, 19, 20, 21, 22, 23, 24, 25, 26, 27, 28, 29, 30, 31, 32, 33, 34, 35, 36, 37, 38, 39, 40, 41, 42, 43, 44, 45] (by decide +kernel) (by decide +kernel)
set_option maxRecDepth 20000 in
theorem gX7_reached_X7_goes : GoodIn wsX7_reached (wsV RX7 96 RX7 yX7_goes wsX7_goes) := goodIn_app (goodIn_of _ (by decide +kernel)) ggX7_reached_X7_goes
theorem dX7_reached_0 : decode cX7_reached 0 = .ok (.iconst 1, 1) := by decide +kernel
theorem dX7_reached_1 : decode cX7_reached 1 = .ok (.istore_n 2, 1) := by decide +kernel
theorem dX7_reached_2 : decode cX7_reached 2 = .ok (.iconst 0, 1) := by decide +kernel
theorem dX7_reached_3 : decode cX7_reached 3 = .ok (.istore_n 3, 1) := by decide +kernel
theorem dX7_reached_4 : decode cX7_reached 4 = .ok (.iload_n 3, 1) := by decide +kernel
theorem dX7_reached_5 : decode cX7_reached 5 = .ok (.iload_n 1, 1) := by decide +kernel
theorem dX7_reached_6 : decode cX7_reached 6 = .ok (.if_icmp .gt 27, 3) := by decide +kernel
theorem dX7_reached_9 : decode cX7_reached 9 = .ok (.iload_n 2, 1) := by decide +kernel
theorem dX7_reached_10 : decode cX7_reached 10 = .ok (.ifCond .eq 15, 3) := by decide +kernel
theorem dX7_reached_13 : decode cX7_reached 13 = .ok (.aload_n 0, 1) := by decide +kernel
theorem dX7_reached_14 : decode cX7_reached 14 = .ok (.iload_n 3, 1) := by decide +kernel
theorem dX7_reached_15 : decode cX7_reached 15 = .ok (.invokevirtual 96, 3) := by decide +kernel
theorem dX7_reached_18 : decode cX7_reached 18 = .ok (.ifCond .eq 7, 3) := by decide +kernel
theorem dX7_reached_21 : decode cX7_reached 21 = .ok (.iconst 1, 1) := by decide +kernel
theorem dX7_reached_22 : decode cX7_reached 22 = .ok (.goto 4, 3) := by decide +kernel
theorem dX7_reached_25 : decode cX7_reached 25 = .ok (.iconst 0, 1) := by decide +kernel
theorem dX7_reached_26 : decode cX7_reached 26 = .ok (.istore_n 2, 1) := by decide +kernel
theorem dX7_reached_27 : decode cX7_reached 27 = .ok (.iinc 3 1, 3) := by decide +kernel
theorem dX7_reached_30 : decode cX7_reached 30 = .ok (.goto (-26), 3) := by decide +kernel
theorem dX7_reached_33 : decode cX7_reached 33 = .ok (.iconst 1, 1) := by decide +kernel
theorem dX7_reached_34 : decode cX7_reached 34 = .ok (.istore_n 3, 1) := by decide +kernel
theorem dX7_reached_35 : decode cX7_reached 35 = .ok (.iload_n 1, 1) := by decide +kernel
theorem dX7_reached_36 : decode cX7_reached 36 = .ok (.iconst 1, 1) := by decide +kernel
theorem dX7_reached_37 : decode cX7_reached 37 = .ok (.iadd, 1) := by decide +kernel
theorem dX7_reached_38 : decode cX7_reached 38 = .ok (.istore 4, 2) := by decide +kernel
theorem dX7_reached_40 : decode cX7_reached 40 = .ok (.iload 4, 2) := by decide +kernel
theorem dX7_reached_42 : decode cX7_reached 42 = .ok (.bipush 17, 2) := by decide +kernel
theorem dX7_reached_44 : decode cX7_reached 44 = .ok (.if_icmp .ge 28, 3) := by decide +kernel
theorem dX7_reached_47 : decode cX7_reached 47 = .ok (.iload_n 3, 1) := by decide +kernel
theorem dX7_reached_48 : decode cX7_reached 48 = .ok (.ifCond .eq 16, 3) := by decide +kernel
theorem dX7_reached_51 : decode cX7_reached 51 = .ok (.aload_n 0, 1) := by decide +kernel
theorem dX7_reached_52 : decode cX7_reached 52 = .ok (.iload 4, 2) := by decide +kernel
theorem dX7_reached_54 : decode cX7_reached 54 = .ok (.invokevirtual 96, 3) := by decide +kernel
theorem dX7_reached_57 : decode cX7_reached 57 = .ok (.ifCond .eq 7, 3) := by decide +kernel
theorem dX7_reached_60 : decode cX7_reached 60 = .ok (.iconst 1, 1) := by decide +kernel
theorem dX7_reached_61 : decode cX7_reached 61 = .ok (.goto 4, 3) := by decide +kernel
theorem dX7_reached_64 : decode cX7_reached 64 = .ok (.iconst 0, 1) := by decide +kernel
theorem dX7_reached_65 : decode cX7_reached 65 = .ok (.istore_n 3, 1) := by decide +kernel
theorem dX7_reached_66 : decode cX7_reached 66 = .ok (.iinc 4 1, 3) := by decide +kernel
theorem dX7_reached_69 : decode cX7_reached 69 = .ok (.goto (-29), 3) := by decide +kernel
theorem dX7_reached_72 : decode cX7_reached 72 = .ok (.iload_n 2, 1) := by decide +kernel
theorem dX7_reached_73 : decode cX7_reached 73 = .ok (.ifCond .ne 7, 3) := by decide +kernel
theorem dX7_reached_76 : decode cX7_reached 76 = .ok (.iload_n 3, 1) := by decide +kernel
theorem dX7_reached_77 : decode cX7_reached 77 = .ok (.ifCond .eq 7, 3) := by decide +kernel
theorem dX7_reached_80 : decode cX7_reached 80 = .ok (.iconst 1, 1) := by decide +kernel
theorem dX7_reached_81 : decode cX7_reached 81 = .ok (.goto 4, 3) := by decide +kernel
theorem dX7_reached_84 : decode cX7_reached 84 = .ok (.iconst 0, 1) := by decide +kernel
theorem dX7_reached_85 : decode cX7_reached 85 = .ok (.ireturn, 1) := by decide +kernel
set_option maxRecDepth 20000 in
theorem ggX7_isSensor_X7_in : GoodIn wsX7_isSensor wsX7_in := goodIn_r _ [5] (by decide +kernel) (by decide +kernel)
set_option maxRecDepth 20000 in
theorem gX7_isSensor_X7_in : GoodIn wsX7_isSensor (va_wsS RX7 99 yX7_in wsX7_in) := goodIn_app (goodIn_of _ (by decide +kernel)) ggX7_isSensor_X7_in
theorem dX7_isSensor_0 : decode cX7_isSensor 0 = .ok (.aload_n 0, 1) := by decide +kernel
theorem dX7_isSensor_1 : decode cX7_isSensor 1 = .ok (.getfield 13, 3) := by decide +kernel
theorem dX7_isSensor_4 : decode cX7_isSensor 4 = .ok (.iload_n 1, 1) := by decide +kernel
theorem dX7_isSensor_5 : decode cX7_isSensor 5 = .ok (.iaload, 1) := by decide +kernel
theorem dX7_isSensor_6 : decode cX7_isSensor 6 = .ok (.iconst 1, 1) := by decide +kernel
theorem dX7_isSensor_7 : decode cX7_isSensor 7 = .ok (.iconst 3, 1) := by decide +kernel
theorem dX7_isSensor_8 : decode cX7_isSensor 8 = .ok (.invokestatic 99, 3) := by decide +kernel
theorem dX7_isSensor_11 : decode cX7_isSensor 11 = .ok (.ireturn, 1) := by decide +kernel
set_option maxRecDepth 20000 in
theorem ggX7_fit_X7_in : GoodIn wsX7_fit wsX7_in := goodIn_r _ [17] (by decide +kernel) (by decide +kernel)
set_option maxRecDepth 20000 in
theorem gX7_fit_X7_in : GoodIn wsX7_fit (va_wsS RX7 99 yX7_in wsX7_in) := goodIn_app (goodIn_of _ (by decide +kernel)) ggX7_fit_X7_in
theorem dX7_fit_0 : decode cX7_fit 0 = .ok (.aload_n 0, 1) := by decide +kernel
theorem dX7_fit_1 : decode cX7_fit 1 = .ok (.iload_n 1, 1) := by decide +kernel
theorem dX7_fit_2 : decode cX7_fit 2 = .ok (.iconst 0, 1) := by decide +kernel
theorem dX7_fit_3 : decode cX7_fit 3 = .ok (.bipush 15, 2) := by decide +kernel
theorem dX7_fit_5 : decode cX7_fit 5 = .ok (.invokestatic 99, 3) := by decide +kernel
theorem dX7_fit_8 : decode cX7_fit 8 = .ok (.ifCond .eq 12, 3) := by decide +kernel
theorem dX7_fit_11 : decode cX7_fit 11 = .ok (.iload_n 3, 1) := by decide +kernel
theorem dX7_fit_12 : decode cX7_fit 12 = .ok (.iconst 0, 1) := by decide +kernel
theorem dX7_fit_13 : decode cX7_fit 13 = .ok (.iconst 3, 1) := by decide +kernel
theorem dX7_fit_14 : decode cX7_fit 14 = .ok (.invokestatic 99, 3) := by decide +kernel
theorem dX7_fit_17 : decode cX7_fit 17 = .ok (.ifCond .ne 7, 3) := by decide +kernel
theorem dX7_fit_20 : decode cX7_fit 20 = .ok (.iconst 1, 1) := by decide +kernel
theorem dX7_fit_21 : decode cX7_fit 21 = .ok (.goto 45, 3) := by decide +kernel
theorem dX7_fit_24 : decode cX7_fit 24 = .ok (.iload_n 2, 1) := by decide +kernel
theorem dX7_fit_25 : decode cX7_fit 25 = .ok (.iconst 0, 1) := by decide +kernel
theorem dX7_fit_26 : decode cX7_fit 26 = .ok (.iconst 4, 1) := by decide +kernel
theorem dX7_fit_27 : decode cX7_fit 27 = .ok (.invokestatic 99, 3) := by decide +kernel
theorem dX7_fit_30 : decode cX7_fit 30 = .ok (.ifCond .eq 19, 3) := by decide +kernel
theorem dX7_fit_33 : decode cX7_fit 33 = .ok (.fload 4, 2) := by decide +kernel
theorem dX7_fit_35 : decode cX7_fit 35 = .ok (.ldc 103, 2) := by decide +kernel
theorem dX7_fit_37 : decode cX7_fit 37 = .ok (.fcmp .l, 1) := by decide +kernel
theorem dX7_fit_38 : decode cX7_fit 38 = .ok (.ifCond .lt 11, 3) := by decide +kernel
theorem dX7_fit_41 : decode cX7_fit 41 = .ok (.fload 4, 2) := by decide +kernel
theorem dX7_fit_43 : decode cX7_fit 43 = .ok (.ldc 104, 2) := by decide +kernel
theorem dX7_fit_45 : decode cX7_fit 45 = .ok (.fcmp .g, 1) := by decide +kernel
theorem dX7_fit_46 : decode cX7_fit 46 = .ok (.ifCond .le 7, 3) := by decide +kernel
theorem dX7_fit_49 : decode cX7_fit 49 = .ok (.iconst 2, 1) := by decide +kernel
theorem dX7_fit_50 : decode cX7_fit 50 = .ok (.goto 16, 3) := by decide +kernel
theorem dX7_fit_53 : decode cX7_fit 53 = .ok (.aload_n 0, 1) := by decide +kernel
theorem dX7_fit_54 : decode cX7_fit 54 = .ok (.getfield 105, 3) := by decide +kernel
theorem dX7_fit_57 : decode cX7_fit 57 = .ok (.iconst 2, 1) := by decide +kernel
theorem dX7_fit_58 : decode cX7_fit 58 = .ok (.if_icmp .ge 7, 3) := by decide +kernel
theorem dX7_fit_61 : decode cX7_fit 61 = .ok (.iconst 3, 1) := by decide +kernel
theorem dX7_fit_62 : decode cX7_fit 62 = .ok (.goto 4, 3) := by decide +kernel
theorem dX7_fit_65 : decode cX7_fit 65 = .ok (.iconst 0, 1) := by decide +kernel
theorem dX7_fit_66 : decode cX7_fit 66 = .ok (.putfield 88, 3) := by decide +kernel
theorem dX7_fit_69 : decode cX7_fit 69 = .ok (.aload_n 0, 1) := by decide +kernel
theorem dX7_fit_70 : decode cX7_fit 70 = .ok (.getfield 88, 3) := by decide +kernel
theorem dX7_fit_73 : decode cX7_fit 73 = .ok (.ifCond .le 4, 3) := by decide +kernel
theorem dX7_fit_76 : decode cX7_fit 76 = .ok (.return_, 1) := by decide +kernel
theorem dX7_fit_77 : decode cX7_fit 77 = .ok (.aload_n 0, 1) := by decide +kernel
theorem dX7_fit_78 : decode cX7_fit 78 = .ok (.getfield 13, 3) := by decide +kernel
theorem dX7_fit_81 : decode cX7_fit 81 = .ok (.iload_n 1, 1) := by decide +kernel
theorem dX7_fit_82 : decode cX7_fit 82 = .ok (.iload_n 2, 1) := by decide +kernel
theorem dX7_fit_83 : decode cX7_fit 83 = .ok (.iastore, 1) := by decide +kernel
theorem dX7_fit_84 : decode cX7_fit 84 = .ok (.aload_n 0, 1) := by decide +kernel
theorem dX7_fit_85 : decode cX7_fit 85 = .ok (.getfield 16, 3) := by decide +kernel
theorem dX7_fit_88 : decode cX7_fit 88 = .ok (.iload_n 1, 1) := by decide +kernel
theorem dX7_fit_89 : decode cX7_fit 89 = .ok (.iload_n 3, 1) := by decide +kernel
theorem dX7_fit_90 : decode cX7_fit 90 = .ok (.iastore, 1) := by decide +kernel
theorem dX7_fit_91 : decode cX7_fit 91 = .ok (.aload_n 0, 1) := by decide +kernel
theorem dX7_fit_92 : decode cX7_fit 92 = .ok (.getfield 19, 3) := by decide +kernel
theorem dX7_fit_95 : decode cX7_fit 95 = .ok (.iload_n 1, 1) := by decide +kernel
theorem dX7_fit_96 : decode cX7_fit 96 = .ok (.fload 4, 2) := by decide +kernel
theorem dX7_fit_98 : decode cX7_fit 98 = .ok (.fastore, 1) := by decide +kernel
theorem dX7_fit_99 : decode cX7_fit 99 = .ok (.aload_n 0, 1) := by decide +kernel
theorem dX7_fit_100 : decode cX7_fit 100 = .ok (.getfield 26, 3) := by decide +kernel
theorem dX7_fit_103 : decode cX7_fit 103 = .ok (.iload_n 1, 1) := by decide +kernel
theorem dX7_fit_104 : decode cX7_fit 104 = .ok (.fconst 0, 1) := by decide +kernel
theorem dX7_fit_105 : decode cX7_fit 105 = .ok (.fastore, 1) := by decide +kernel
theorem dX7_fit_106 : decode cX7_fit 106 = .ok (.aload_n 0, 1) := by decide +kernel
theorem dX7_fit_107 : decode cX7_fit 107 = .ok (.getfield 29, 3) := by decide +kernel
theorem dX7_fit_110 : decode cX7_fit 110 = .ok (.iload_n 1, 1) := by decide +kernel
theorem dX7_fit_111 : decode cX7_fit 111 = .ok (.fconst 0, 1) := by decide +kernel
theorem dX7_fit_112 : decode cX7_fit 112 = .ok (.fastore, 1) := by decide +kernel
theorem dX7_fit_113 : decode cX7_fit 113 = .ok (.aload_n 0, 1) := by decide +kernel
theorem dX7_fit_114 : decode cX7_fit 114 = .ok (.getfield 32, 3) := by decide +kernel
theorem dX7_fit_117 : decode cX7_fit 117 = .ok (.iload_n 1, 1) := by decide +kernel
theorem dX7_fit_118 : decode cX7_fit 118 = .ok (.iconst 0, 1) := by decide +kernel
theorem dX7_fit_119 : decode cX7_fit 119 = .ok (.iastore, 1) := by decide +kernel
theorem dX7_fit_120 : decode cX7_fit 120 = .ok (.aload_n 0, 1) := by decide +kernel
theorem dX7_fit_121 : decode cX7_fit 121 = .ok (.getfield 35, 3) := by decide +kernel
theorem dX7_fit_124 : decode cX7_fit 124 = .ok (.iload_n 1, 1) := by decide +kernel
theorem dX7_fit_125 : decode cX7_fit 125 = .ok (.iconst 0, 1) := by decide +kernel
theorem dX7_fit_126 : decode cX7_fit 126 = .ok (.bastore, 1) := by decide +kernel
theorem dX7_fit_127 : decode cX7_fit 127 = .ok (.aload_n 0, 1) := by decide +kernel
theorem dX7_fit_128 : decode cX7_fit 128 = .ok (.getfield 39, 3) := by decide +kernel
theorem dX7_fit_131 : decode cX7_fit 131 = .ok (.iload_n 1, 1) := by decide +kernel
theorem dX7_fit_132 : decode cX7_fit 132 = .ok (.iconst 0, 1) := by decide +kernel
theorem dX7_fit_133 : decode cX7_fit 133 = .ok (.iastore, 1) := by decide +kernel
theorem dX7_fit_134 : decode cX7_fit 134 = .ok (.aload_n 0, 1) := by decide +kernel
theorem dX7_fit_135 : decode cX7_fit 135 = .ok (.getfield 42, 3) := by decide +kernel
theorem dX7_fit_138 : decode cX7_fit 138 = .ok (.iload_n 1, 1) := by decide +kernel
theorem dX7_fit_139 : decode cX7_fit 139 = .ok (.iconst 0, 1) := by decide +kernel
theorem dX7_fit_140 : decode cX7_fit 140 = .ok (.bastore, 1) := by decide +kernel
theorem dX7_fit_141 : decode cX7_fit 141 = .ok (.return_, 1) := by decide +kernel
set_option maxRecDepth 20000 in
theorem ggX7_need_X7_in : GoodIn wsX7_need wsX7_in := goodIn_r _ [7] (by decide +kernel) (by decide +kernel)
set_option maxRecDepth 20000 in
theorem gX7_need_X7_in : GoodIn wsX7_need (va_wsS RX7 99 yX7_in wsX7_in) := goodIn_app (goodIn_of _ (by decide +kernel)) ggX7_need_X7_in
theorem dX7_need_0 : decode cX7_need 0 = .ok (.aload_n 0, 1) := by decide +kernel
theorem dX7_need_1 : decode cX7_need 1 = .ok (.iload_n 1, 1) := by decide +kernel
theorem dX7_need_2 : decode cX7_need 2 = .ok (.iconst 0, 1) := by decide +kernel
theorem dX7_need_3 : decode cX7_need 3 = .ok (.iconst 3, 1) := by decide +kernel
theorem dX7_need_4 : decode cX7_need 4 = .ok (.invokestatic 99, 3) := by decide +kernel
theorem dX7_need_7 : decode cX7_need 7 = .ok (.ifCond .ne 7, 3) := by decide +kernel
theorem dX7_need_10 : decode cX7_need 10 = .ok (.iconst 1, 1) := by decide +kernel
theorem dX7_need_11 : decode cX7_need 11 = .ok (.goto 29, 3) := by decide +kernel
theorem dX7_need_14 : decode cX7_need 14 = .ok (.iload_n 2, 1) := by decide +kernel
theorem dX7_need_15 : decode cX7_need 15 = .ok (.iconst 1, 1) := by decide +kernel
theorem dX7_need_16 : decode cX7_need 16 = .ok (.iconst 4, 1) := by decide +kernel
theorem dX7_need_17 : decode cX7_need 17 = .ok (.invokestatic 99, 3) := by decide +kernel
theorem dX7_need_20 : decode cX7_need 20 = .ok (.ifCond .ne 7, 3) := by decide +kernel
theorem dX7_need_23 : decode cX7_need 23 = .ok (.iconst 2, 1) := by decide +kernel
theorem dX7_need_24 : decode cX7_need 24 = .ok (.goto 16, 3) := by decide +kernel
theorem dX7_need_27 : decode cX7_need 27 = .ok (.aload_n 0, 1) := by decide +kernel
theorem dX7_need_28 : decode cX7_need 28 = .ok (.getfield 105, 3) := by decide +kernel
theorem dX7_need_31 : decode cX7_need 31 = .ok (.iconst 2, 1) := by decide +kernel
theorem dX7_need_32 : decode cX7_need 32 = .ok (.if_icmp .ge 7, 3) := by decide +kernel
theorem dX7_need_35 : decode cX7_need 35 = .ok (.iconst 3, 1) := by decide +kernel
theorem dX7_need_36 : decode cX7_need 36 = .ok (.goto 4, 3) := by decide +kernel
theorem dX7_need_39 : decode cX7_need 39 = .ok (.iconst 0, 1) := by decide +kernel
theorem dX7_need_40 : decode cX7_need 40 = .ok (.putfield 88, 3) := by decide +kernel
theorem dX7_need_43 : decode cX7_need 43 = .ok (.aload_n 0, 1) := by decide +kernel
theorem dX7_need_44 : decode cX7_need 44 = .ok (.getfield 88, 3) := by decide +kernel
theorem dX7_need_47 : decode cX7_need 47 = .ok (.ifCond .ne 10, 3) := by decide +kernel
theorem dX7_need_50 : decode cX7_need 50 = .ok (.aload_n 0, 1) := by decide +kernel
theorem dX7_need_51 : decode cX7_need 51 = .ok (.getfield 51, 3) := by decide +kernel
theorem dX7_need_54 : decode cX7_need 54 = .ok (.iload_n 1, 1) := by decide +kernel
theorem dX7_need_55 : decode cX7_need 55 = .ok (.iload_n 2, 1) := by decide +kernel
theorem dX7_need_56 : decode cX7_need 56 = .ok (.iastore, 1) := by decide +kernel
theorem dX7_need_57 : decode cX7_need 57 = .ok (.return_, 1) := by decide +kernel
set_option maxRecDepth 20000 in
theorem ggX7_wire_X7_in : GoodIn wsX7_wire wsX7_in := goodIn_r _ [6] (by decide +kernel) (by decide +kernel)
set_option maxRecDepth 20000 in
theorem gX7_wire_X7_in : GoodIn wsX7_wire (va_wsS RX7 99 yX7_in wsX7_in) := goodIn_app (goodIn_of _ (by decide +kernel)) ggX7_wire_X7_in
theorem dX7_wire_0 : decode cX7_wire 0 = .ok (.aload_n 0, 1) := by decide +kernel
theorem dX7_wire_1 : decode cX7_wire 1 = .ok (.iload_n 1, 1) := by decide +kernel
theorem dX7_wire_2 : decode cX7_wire 2 = .ok (.iconst 0, 1) := by decide +kernel
theorem dX7_wire_3 : decode cX7_wire 3 = .ok (.bipush 16, 2) := by decide +kernel
theorem dX7_wire_5 : decode cX7_wire 5 = .ok (.invokestatic 99, 3) := by decide +kernel
theorem dX7_wire_8 : decode cX7_wire 8 = .ok (.ifCond .ne 7, 3) := by decide +kernel
theorem dX7_wire_11 : decode cX7_wire 11 = .ok (.iconst 1, 1) := by decide +kernel
theorem dX7_wire_12 : decode cX7_wire 12 = .ok (.goto 17, 3) := by decide +kernel
theorem dX7_wire_15 : decode cX7_wire 15 = .ok (.iload_n 2, 1) := by decide +kernel
theorem dX7_wire_16 : decode cX7_wire 16 = .ok (.iconst 0, 1) := by decide +kernel
theorem dX7_wire_17 : decode cX7_wire 17 = .ok (.iconst 2, 1) := by decide +kernel
theorem dX7_wire_18 : decode cX7_wire 18 = .ok (.invokestatic 99, 3) := by decide +kernel
theorem dX7_wire_21 : decode cX7_wire 21 = .ok (.ifCond .ne 7, 3) := by decide +kernel
theorem dX7_wire_24 : decode cX7_wire 24 = .ok (.iconst 2, 1) := by decide +kernel
theorem dX7_wire_25 : decode cX7_wire 25 = .ok (.goto 4, 3) := by decide +kernel
theorem dX7_wire_28 : decode cX7_wire 28 = .ok (.iconst 0, 1) := by decide +kernel
theorem dX7_wire_29 : decode cX7_wire 29 = .ok (.putfield 88, 3) := by decide +kernel
theorem dX7_wire_32 : decode cX7_wire 32 = .ok (.aload_n 0, 1) := by decide +kernel
theorem dX7_wire_33 : decode cX7_wire 33 = .ok (.getfield 88, 3) := by decide +kernel
theorem dX7_wire_36 : decode cX7_wire 36 = .ok (.ifCond .ne 10, 3) := by decide +kernel
theorem dX7_wire_39 : decode cX7_wire 39 = .ok (.aload_n 0, 1) := by decide +kernel
theorem dX7_wire_40 : decode cX7_wire 40 = .ok (.getfield 7, 3) := by decide +kernel
theorem dX7_wire_43 : decode cX7_wire 43 = .ok (.iload_n 1, 1) := by decide +kernel
theorem dX7_wire_44 : decode cX7_wire 44 = .ok (.iload_n 2, 1) := by decide +kernel
theorem dX7_wire_45 : decode cX7_wire 45 = .ok (.iastore, 1) := by decide +kernel
theorem dX7_wire_46 : decode cX7_wire 46 = .ok (.return_, 1) := by decide +kernel
set_option maxRecDepth 20000 in
theorem ggX7_reading_X7_in : GoodIn wsX7_reading wsX7_in := goodIn_r _ [8] (by decide +kernel) (by decide +kernel)
set_option maxRecDepth 20000 in
theorem gX7_reading_X7_in : GoodIn wsX7_reading (va_wsS RX7 99 yX7_in wsX7_in) := goodIn_app (goodIn_of _ (by decide +kernel)) ggX7_reading_X7_in
theorem dX7_reading_0 : decode cX7_reading 0 = .ok (.aload_n 0, 1) := by decide +kernel
theorem dX7_reading_1 : decode cX7_reading 1 = .ok (.iload_n 1, 1) := by decide +kernel
theorem dX7_reading_2 : decode cX7_reading 2 = .ok (.iconst 0, 1) := by decide +kernel
theorem dX7_reading_3 : decode cX7_reading 3 = .ok (.bipush 15, 2) := by decide +kernel
theorem dX7_reading_5 : decode cX7_reading 5 = .ok (.invokestatic 99, 3) := by decide +kernel
theorem dX7_reading_8 : decode cX7_reading 8 = .ok (.ifCond .ne 7, 3) := by decide +kernel
theorem dX7_reading_11 : decode cX7_reading 11 = .ok (.iconst 1, 1) := by decide +kernel
theorem dX7_reading_12 : decode cX7_reading 12 = .ok (.goto 22, 3) := by decide +kernel
theorem dX7_reading_15 : decode cX7_reading 15 = .ok (.fload_n 2, 1) := by decide +kernel
theorem dX7_reading_16 : decode cX7_reading 16 = .ok (.ldc 108, 2) := by decide +kernel
theorem dX7_reading_18 : decode cX7_reading 18 = .ok (.fcmp .l, 1) := by decide +kernel
theorem dX7_reading_19 : decode cX7_reading 19 = .ok (.ifCond .lt 10, 3) := by decide +kernel
theorem dX7_reading_22 : decode cX7_reading 22 = .ok (.fload_n 2, 1) := by decide +kernel
theorem dX7_reading_23 : decode cX7_reading 23 = .ok (.ldc 109, 2) := by decide +kernel
theorem dX7_reading_25 : decode cX7_reading 25 = .ok (.fcmp .g, 1) := by decide +kernel
theorem dX7_reading_26 : decode cX7_reading 26 = .ok (.ifCond .le 7, 3) := by decide +kernel
theorem dX7_reading_29 : decode cX7_reading 29 = .ok (.iconst 2, 1) := by decide +kernel
theorem dX7_reading_30 : decode cX7_reading 30 = .ok (.goto 4, 3) := by decide +kernel
theorem dX7_reading_33 : decode cX7_reading 33 = .ok (.iconst 0, 1) := by decide +kernel
theorem dX7_reading_34 : decode cX7_reading 34 = .ok (.putfield 88, 3) := by decide +kernel
theorem dX7_reading_37 : decode cX7_reading 37 = .ok (.aload_n 0, 1) := by decide +kernel
theorem dX7_reading_38 : decode cX7_reading 38 = .ok (.getfield 88, 3) := by decide +kernel
theorem dX7_reading_41 : decode cX7_reading 41 = .ok (.ifCond .ne 10, 3) := by decide +kernel
theorem dX7_reading_44 : decode cX7_reading 44 = .ok (.aload_n 0, 1) := by decide +kernel
theorem dX7_reading_45 : decode cX7_reading 45 = .ok (.getfield 23, 3) := by decide +kernel
theorem dX7_reading_48 : decode cX7_reading 48 = .ok (.iload_n 1, 1) := by decide +kernel
theorem dX7_reading_49 : decode cX7_reading 49 = .ok (.fload_n 2, 1) := by decide +kernel
theorem dX7_reading_50 : decode cX7_reading 50 = .ok (.fastore, 1) := by decide +kernel
theorem dX7_reading_51 : decode cX7_reading 51 = .ok (.return_, 1) := by decide +kernel
theorem dX7_type_0 : decode cX7_type 0 = .ok (.aload_n 0, 1) := by decide +kernel
theorem dX7_type_1 : decode cX7_type 1 = .ok (.iconst 0, 1) := by decide +kernel
theorem dX7_type_2 : decode cX7_type 2 = .ok (.putfield 88, 3) := by decide +kernel
theorem dX7_type_5 : decode cX7_type 5 = .ok (.iload_n 1, 1) := by decide +kernel
theorem dX7_type_6 : decode cX7_type 6 = .ok (.bipush 122, 2) := by decide +kernel
theorem dX7_type_8 : decode cX7_type 8 = .ok (.if_icmp .eq 69, 3) := by decide +kernel
theorem dX7_type_11 : decode cX7_type 11 = .ok (.iload_n 1, 1) := by decide +kernel
theorem dX7_type_12 : decode cX7_type 12 = .ok (.bipush 119, 2) := by decide +kernel
theorem dX7_type_14 : decode cX7_type 14 = .ok (.if_icmp .eq 63, 3) := by decide +kernel
theorem dX7_type_17 : decode cX7_type 17 = .ok (.iload_n 1, 1) := by decide +kernel
theorem dX7_type_18 : decode cX7_type 18 = .ok (.bipush 102, 2) := by decide +kernel
theorem dX7_type_20 : decode cX7_type 20 = .ok (.if_icmp .eq 57, 3) := by decide +kernel
theorem dX7_type_23 : decode cX7_type 23 = .ok (.iload_n 1, 1) := by decide +kernel
theorem dX7_type_24 : decode cX7_type 24 = .ok (.bipush 33, 2) := by decide +kernel
theorem dX7_type_26 : decode cX7_type 26 = .ok (.if_icmp .eq 51, 3) := by decide +kernel
theorem dX7_type_29 : decode cX7_type 29 = .ok (.iload_n 1, 1) := by decide +kernel
theorem dX7_type_30 : decode cX7_type 30 = .ok (.bipush 40, 2) := by decide +kernel
theorem dX7_type_32 : decode cX7_type 32 = .ok (.if_icmp .eq 45, 3) := by decide +kernel
theorem dX7_type_35 : decode cX7_type 35 = .ok (.iload_n 1, 1) := by decide +kernel
theorem dX7_type_36 : decode cX7_type 36 = .ok (.bipush 41, 2) := by decide +kernel
theorem dX7_type_38 : decode cX7_type 38 = .ok (.if_icmp .eq 39, 3) := by decide +kernel
theorem dX7_type_41 : decode cX7_type 41 = .ok (.iload_n 1, 1) := by decide +kernel
theorem dX7_type_42 : decode cX7_type 42 = .ok (.bipush 38, 2) := by decide +kernel
theorem dX7_type_44 : decode cX7_type 44 = .ok (.if_icmp .eq 33, 3) := by decide +kernel
theorem dX7_type_47 : decode cX7_type 47 = .ok (.iload_n 1, 1) := by decide +kernel
theorem dX7_type_48 : decode cX7_type 48 = .ok (.bipush 124, 2) := by decide +kernel
theorem dX7_type_50 : decode cX7_type 50 = .ok (.if_icmp .eq 27, 3) := by decide +kernel
theorem dX7_type_53 : decode cX7_type 53 = .ok (.iload_n 1, 1) := by decide +kernel
theorem dX7_type_54 : decode cX7_type 54 = .ok (.bipush 62, 2) := by decide +kernel
theorem dX7_type_56 : decode cX7_type 56 = .ok (.if_icmp .eq 21, 3) := by decide +kernel
theorem dX7_type_59 : decode cX7_type 59 = .ok (.iload_n 1, 1) := by decide +kernel
theorem dX7_type_60 : decode cX7_type 60 = .ok (.bipush 58, 2) := by decide +kernel
theorem dX7_type_62 : decode cX7_type 62 = .ok (.if_icmp .eq 15, 3) := by decide +kernel
theorem dX7_type_65 : decode cX7_type 65 = .ok (.iload_n 1, 1) := by decide +kernel
theorem dX7_type_66 : decode cX7_type 66 = .ok (.bipush 48, 2) := by decide +kernel
theorem dX7_type_68 : decode cX7_type 68 = .ok (.if_icmp .lt 13, 3) := by decide +kernel
theorem dX7_type_71 : decode cX7_type 71 = .ok (.iload_n 1, 1) := by decide +kernel
theorem dX7_type_72 : decode cX7_type 72 = .ok (.bipush 57, 2) := by decide +kernel
theorem dX7_type_74 : decode cX7_type 74 = .ok (.if_icmp .gt 7, 3) := by decide +kernel
theorem dX7_type_77 : decode cX7_type 77 = .ok (.iconst 1, 1) := by decide +kernel
theorem dX7_type_78 : decode cX7_type 78 = .ok (.goto 4, 3) := by decide +kernel
theorem dX7_type_81 : decode cX7_type 81 = .ok (.iconst 0, 1) := by decide +kernel
theorem dX7_type_82 : decode cX7_type 82 = .ok (.istore_n 2, 1) := by decide +kernel
theorem dX7_type_83 : decode cX7_type 83 = .ok (.iload_n 2, 1) := by decide +kernel
theorem dX7_type_84 : decode cX7_type 84 = .ok (.ifCond .eq 12, 3) := by decide +kernel
theorem dX7_type_87 : decode cX7_type 87 = .ok (.aload_n 0, 1) := by decide +kernel
theorem dX7_type_88 : decode cX7_type 88 = .ok (.getfield 110, 3) := by decide +kernel
theorem dX7_type_91 : decode cX7_type 91 = .ok (.bipush 20, 2) := by decide +kernel
theorem dX7_type_93 : decode cX7_type 93 = .ok (.if_icmp .ne 5, 3) := by decide +kernel
theorem dX7_type_96 : decode cX7_type 96 = .ok (.iconst 0, 1) := by decide +kernel
theorem dX7_type_97 : decode cX7_type 97 = .ok (.ireturn, 1) := by decide +kernel
theorem dX7_type_98 : decode cX7_type 98 = .ok (.aload_n 0, 1) := by decide +kernel
theorem dX7_type_99 : decode cX7_type 99 = .ok (.getfield 75, 3) := by decide +kernel
theorem dX7_type_102 : decode cX7_type 102 = .ok (.aload_n 0, 1) := by decide +kernel
theorem dX7_type_103 : decode cX7_type 103 = .ok (.getfield 110, 3) := by decide +kernel
theorem dX7_type_106 : decode cX7_type 106 = .ok (.iload_n 1, 1) := by decide +kernel
theorem dX7_type_107 : decode cX7_type 107 = .ok (.castore, 1) := by decide +kernel
theorem dX7_type_108 : decode cX7_type 108 = .ok (.aload_n 0, 1) := by decide +kernel
theorem dX7_type_109 : decode cX7_type 109 = .ok (.dup, 1) := by decide +kernel
theorem dX7_type_110 : decode cX7_type 110 = .ok (.getfield 110, 3) := by decide +kernel
theorem dX7_type_113 : decode cX7_type 113 = .ok (.iconst 1, 1) := by decide +kernel
theorem dX7_type_114 : decode cX7_type 114 = .ok (.iadd, 1) := by decide +kernel
theorem dX7_type_115 : decode cX7_type 115 = .ok (.putfield 110, 3) := by decide +kernel
theorem dX7_type_118 : decode cX7_type 118 = .ok (.iconst 1, 1) := by decide +kernel
theorem dX7_type_119 : decode cX7_type 119 = .ok (.ireturn, 1) := by decide +kernel
theorem dX7_look_0 : decode cX7_look 0 = .ok (.iload_n 1, 1) := by decide +kernel
theorem dX7_look_1 : decode cX7_look 1 = .ok (.aload_n 0, 1) := by decide +kernel
theorem dX7_look_2 : decode cX7_look 2 = .ok (.getfield 110, 3) := by decide +kernel
theorem dX7_look_5 : decode cX7_look 5 = .ok (.if_icmp .ge 12, 3) := by decide +kernel
theorem dX7_look_8 : decode cX7_look 8 = .ok (.aload_n 0, 1) := by decide +kernel
theorem dX7_look_9 : decode cX7_look 9 = .ok (.getfield 75, 3) := by decide +kernel
theorem dX7_look_12 : decode cX7_look 12 = .ok (.iload_n 1, 1) := by decide +kernel
theorem dX7_look_13 : decode cX7_look 13 = .ok (.caload, 1) := by decide +kernel
theorem dX7_look_14 : decode cX7_look 14 = .ok (.goto 4, 3) := by decide +kernel
theorem dX7_look_17 : decode cX7_look 17 = .ok (.iconst 0, 1) := by decide +kernel
theorem dX7_look_18 : decode cX7_look 18 = .ok (.ireturn, 1) := by decide +kernel
theorem dX7_word_0 : decode cX7_word 0 = .ok (.aload_n 0, 1) := by decide +kernel
theorem dX7_word_1 : decode cX7_word 1 = .ok (.getfield 85, 3) := by decide +kernel
theorem dX7_word_4 : decode cX7_word 4 = .ok (.aload_n 0, 1) := by decide +kernel
theorem dX7_word_5 : decode cX7_word 5 = .ok (.getfield 113, 3) := by decide +kernel
theorem dX7_word_8 : decode cX7_word 8 = .ok (.iload_n 1, 1) := by decide +kernel
theorem dX7_word_9 : decode cX7_word 9 = .ok (.iastore, 1) := by decide +kernel
theorem dX7_word_10 : decode cX7_word 10 = .ok (.aload_n 0, 1) := by decide +kernel
theorem dX7_word_11 : decode cX7_word 11 = .ok (.dup, 1) := by decide +kernel
theorem dX7_word_12 : decode cX7_word 12 = .ok (.getfield 113, 3) := by decide +kernel
theorem dX7_word_15 : decode cX7_word 15 = .ok (.iconst 1, 1) := by decide +kernel
theorem dX7_word_16 : decode cX7_word 16 = .ok (.iadd, 1) := by decide +kernel
theorem dX7_word_17 : decode cX7_word 17 = .ok (.putfield 113, 3) := by decide +kernel
theorem dX7_word_20 : decode cX7_word 20 = .ok (.return_, 1) := by decide +kernel
theorem dX7_deepness_0 : decode cX7_deepness 0 = .ok (.iconst 0, 1) := by decide +kernel
theorem dX7_deepness_1 : decode cX7_deepness 1 = .ok (.istore_n 1, 1) := by decide +kernel
theorem dX7_deepness_2 : decode cX7_deepness 2 = .ok (.iconst 0, 1) := by decide +kernel
theorem dX7_deepness_3 : decode cX7_deepness 3 = .ok (.istore_n 2, 1) := by decide +kernel
theorem dX7_deepness_4 : decode cX7_deepness 4 = .ok (.iload_n 2, 1) := by decide +kernel
theorem dX7_deepness_5 : decode cX7_deepness 5 = .ok (.aload_n 0, 1) := by decide +kernel
theorem dX7_deepness_6 : decode cX7_deepness 6 = .ok (.getfield 116, 3) := by decide +kernel
theorem dX7_deepness_9 : decode cX7_deepness 9 = .ok (.if_icmp .ge 39, 3) := by decide +kernel
theorem dX7_deepness_12 : decode cX7_deepness 12 = .ok (.aload_n 0, 1) := by decide +kernel
theorem dX7_deepness_13 : decode cX7_deepness 13 = .ok (.getfield 82, 3) := by decide +kernel
theorem dX7_deepness_16 : decode cX7_deepness 16 = .ok (.iload_n 2, 1) := by decide +kernel
theorem dX7_deepness_17 : decode cX7_deepness 17 = .ok (.caload, 1) := by decide +kernel
theorem dX7_deepness_18 : decode cX7_deepness 18 = .ok (.bipush 33, 2) := by decide +kernel
theorem dX7_deepness_20 : decode cX7_deepness 20 = .ok (.if_icmp .eq 14, 3) := by decide +kernel
theorem dX7_deepness_23 : decode cX7_deepness 23 = .ok (.aload_n 0, 1) := by decide +kernel
theorem dX7_deepness_24 : decode cX7_deepness 24 = .ok (.getfield 82, 3) := by decide +kernel
theorem dX7_deepness_27 : decode cX7_deepness 27 = .ok (.iload_n 2, 1) := by decide +kernel
theorem dX7_deepness_28 : decode cX7_deepness 28 = .ok (.caload, 1) := by decide +kernel
theorem dX7_deepness_29 : decode cX7_deepness 29 = .ok (.bipush 40, 2) := by decide +kernel
theorem dX7_deepness_31 : decode cX7_deepness 31 = .ok (.if_icmp .ne 9, 3) := by decide +kernel
theorem dX7_deepness_34 : decode cX7_deepness 34 = .ok (.iload_n 1, 1) := by decide +kernel
theorem dX7_deepness_35 : decode cX7_deepness 35 = .ok (.iconst 1, 1) := by decide +kernel
theorem dX7_deepness_36 : decode cX7_deepness 36 = .ok (.iadd, 1) := by decide +kernel
theorem dX7_deepness_37 : decode cX7_deepness 37 = .ok (.goto 4, 3) := by decide +kernel
theorem dX7_deepness_40 : decode cX7_deepness 40 = .ok (.iload_n 1, 1) := by decide +kernel
theorem dX7_deepness_41 : decode cX7_deepness 41 = .ok (.istore_n 1, 1) := by decide +kernel
theorem dX7_deepness_42 : decode cX7_deepness 42 = .ok (.iinc 2 1, 3) := by decide +kernel
theorem dX7_deepness_45 : decode cX7_deepness 45 = .ok (.goto (-41), 3) := by decide +kernel
theorem dX7_deepness_48 : decode cX7_deepness 48 = .ok (.iload_n 1, 1) := by decide +kernel
theorem dX7_deepness_49 : decode cX7_deepness 49 = .ok (.ireturn, 1) := by decide +kernel
set_option maxRecDepth 20000 in
theorem ggX7_termDone_X7_word : GoodIn wsX7_termDone wsX7_word := goodIn_r _ [7, 8, 9, 10, 11, 12, 13, 14, 15, 16, 17, 18, 19, 20, 21, 22, 23, 24, 25, 26, 27, 28, 29, 30, 31, 32, 33, 34, 35, 36, 37, 38, 39, 40, 41, 42, 43] (by decide +kernel) (by decide +kernel)
set_option maxRecDepth 20000 in
theorem gX7_termDone_X7_word : GoodIn wsX7_termDone (wsV RX7 119 RX7 yX7_word wsX7_word) := goodIn_app (goodIn_of _ (by decide +kernel)) ggX7_termDone_X7_word
theorem dX7_termDone_0 : decode cX7_termDone 0 = .ok (.aload_n 0, 1) := by decide +kernel
theorem dX7_termDone_1 : decode cX7_termDone 1 = .ok (.getfield 116, 3) := by decide +kernel
theorem dX7_termDone_4 : decode cX7_termDone 4 = .ok (.ifCond .le 76, 3) := by decide +kernel
theorem dX7_termDone_7 : decode cX7_termDone 7 = .ok (.aload_n 0, 1) := by decide +kernel
theorem dX7_termDone_8 : decode cX7_termDone 8 = .ok (.getfield 82, 3) := by decide +kernel
theorem dX7_termDone_11 : decode cX7_termDone 11 = .ok (.aload_n 0, 1) := by decide +kernel
theorem dX7_termDone_12 : decode cX7_termDone 12 = .ok (.getfield 116, 3) := by decide +kernel
theorem dX7_termDone_15 : decode cX7_termDone 15 = .ok (.iconst 1, 1) := by decide +kernel
theorem dX7_termDone_16 : decode cX7_termDone 16 = .ok (.isub, 1) := by decide +kernel
theorem dX7_termDone_17 : decode cX7_termDone 17 = .ok (.caload, 1) := by decide +kernel
theorem dX7_termDone_18 : decode cX7_termDone 18 = .ok (.bipush 40, 2) := by decide +kernel
theorem dX7_termDone_20 : decode cX7_termDone 20 = .ok (.if_icmp .eq 60, 3) := by decide +kernel
theorem dX7_termDone_23 : decode cX7_termDone 23 = .ok (.aload_n 0, 1) := by decide +kernel
theorem dX7_termDone_24 : decode cX7_termDone 24 = .ok (.dup, 1) := by decide +kernel
theorem dX7_termDone_25 : decode cX7_termDone 25 = .ok (.getfield 116, 3) := by decide +kernel
theorem dX7_termDone_28 : decode cX7_termDone 28 = .ok (.iconst 1, 1) := by decide +kernel
theorem dX7_termDone_29 : decode cX7_termDone 29 = .ok (.isub, 1) := by decide +kernel
theorem dX7_termDone_30 : decode cX7_termDone 30 = .ok (.putfield 116, 3) := by decide +kernel
theorem dX7_termDone_33 : decode cX7_termDone 33 = .ok (.aload_n 0, 1) := by decide +kernel
theorem dX7_termDone_34 : decode cX7_termDone 34 = .ok (.aload_n 0, 1) := by decide +kernel
theorem dX7_termDone_35 : decode cX7_termDone 35 = .ok (.getfield 82, 3) := by decide +kernel
theorem dX7_termDone_38 : decode cX7_termDone 38 = .ok (.aload_n 0, 1) := by decide +kernel
theorem dX7_termDone_39 : decode cX7_termDone 39 = .ok (.getfield 116, 3) := by decide +kernel
theorem dX7_termDone_42 : decode cX7_termDone 42 = .ok (.caload, 1) := by decide +kernel
theorem dX7_termDone_43 : decode cX7_termDone 43 = .ok (.bipush 33, 2) := by decide +kernel
theorem dX7_termDone_45 : decode cX7_termDone 45 = .ok (.if_icmp .ne 8, 3) := by decide +kernel
theorem dX7_termDone_48 : decode cX7_termDone 48 = .ok (.bipush 9, 2) := by decide +kernel
theorem dX7_termDone_50 : decode cX7_termDone 50 = .ok (.goto 24, 3) := by decide +kernel
theorem dX7_termDone_53 : decode cX7_termDone 53 = .ok (.aload_n 0, 1) := by decide +kernel
theorem dX7_termDone_54 : decode cX7_termDone 54 = .ok (.getfield 82, 3) := by decide +kernel
theorem dX7_termDone_57 : decode cX7_termDone 57 = .ok (.aload_n 0, 1) := by decide +kernel
theorem dX7_termDone_58 : decode cX7_termDone 58 = .ok (.getfield 116, 3) := by decide +kernel
theorem dX7_termDone_61 : decode cX7_termDone 61 = .ok (.caload, 1) := by decide +kernel
theorem dX7_termDone_62 : decode cX7_termDone 62 = .ok (.bipush 38, 2) := by decide +kernel
theorem dX7_termDone_64 : decode cX7_termDone 64 = .ok (.if_icmp .ne 8, 3) := by decide +kernel
theorem dX7_termDone_67 : decode cX7_termDone 67 = .ok (.bipush 10, 2) := by decide +kernel
theorem dX7_termDone_69 : decode cX7_termDone 69 = .ok (.goto 5, 3) := by decide +kernel
theorem dX7_termDone_72 : decode cX7_termDone 72 = .ok (.bipush 11, 2) := by decide +kernel
theorem dX7_termDone_74 : decode cX7_termDone 74 = .ok (.invokevirtual 119, 3) := by decide +kernel
theorem dX7_termDone_77 : decode cX7_termDone 77 = .ok (.goto (-77), 3) := by decide +kernel
theorem dX7_termDone_80 : decode cX7_termDone 80 = .ok (.return_, 1) := by decide +kernel
theorem dX7_put_0 : decode cX7_put 0 = .ok (.aload_n 0, 1) := by decide +kernel
theorem dX7_put_1 : decode cX7_put 1 = .ok (.getfield 82, 3) := by decide +kernel
theorem dX7_put_4 : decode cX7_put 4 = .ok (.aload_n 0, 1) := by decide +kernel
theorem dX7_put_5 : decode cX7_put 5 = .ok (.getfield 116, 3) := by decide +kernel
theorem dX7_put_8 : decode cX7_put 8 = .ok (.iload_n 1, 1) := by decide +kernel
theorem dX7_put_9 : decode cX7_put 9 = .ok (.castore, 1) := by decide +kernel
theorem dX7_put_10 : decode cX7_put 10 = .ok (.aload_n 0, 1) := by decide +kernel
theorem dX7_put_11 : decode cX7_put 11 = .ok (.dup, 1) := by decide +kernel
theorem dX7_put_12 : decode cX7_put 12 = .ok (.getfield 116, 3) := by decide +kernel
theorem dX7_put_15 : decode cX7_put 15 = .ok (.iconst 1, 1) := by decide +kernel
theorem dX7_put_16 : decode cX7_put 16 = .ok (.iadd, 1) := by decide +kernel
theorem dX7_put_17 : decode cX7_put 17 = .ok (.putfield 116, 3) := by decide +kernel
theorem dX7_put_20 : decode cX7_put 20 = .ok (.return_, 1) := by decide +kernel
set_option maxRecDepth 20000 in
theorem ggX7_condition_X7_look : GoodIn wsX7_condition wsX7_look := goodIn_r _ [8, 3, 9, 28, 29, 30, 31, 32, 33, 34, 35, 36, 37, 38, 39, 40, 41, 42, 43, 44, 45, 46, 47, 48, 49, 50, 51, 52, 53, 54, 55, 56, 57, 58, 59, 60, 61] (by decide +kernel) (by decide +kernel)
set_option maxRecDepth 20000 in
theorem gX7_condition_X7_look : GoodIn wsX7_condition (wsV RX7 123 RX7 yX7_look wsX7_look) := goodIn_app (goodIn_of _ (by decide +kernel)) ggX7_condition_X7_look
set_option maxRecDepth 20000 in
theorem ggX7_condition_X7_deepness : GoodIn wsX7_condition wsX7_deepness := goodIn_r _ [13, 1, 14, 28, 29, 30, 31, 32, 33, 34, 35, 36, 37, 38, 39, 40, 41, 42, 43, 44, 45, 46, 47, 48, 49, 50, 51, 52, 53, 54, 55, 56, 57, 58, 59, 60, 61] (by decide +kernel) (by decide +kernel)
set_option maxRecDepth 20000 in
theorem gX7_condition_X7_deepness : GoodIn wsX7_condition (wsV RX7 127 RX7 yX7_deepness wsX7_deepness) := goodIn_app (goodIn_of _ (by decide +kernel)) ggX7_condition_X7_deepness
set_option maxRecDepth 20000 in
theorem ggX7_condition_X7_put : GoodIn wsX7_condition wsX7_put := goodIn_r _ [18, 14, 1, 28, 29, 30, 31, 32, 33, 34, 35, 36, 37, 38, 39, 40, 41, 42, 43, 44, 45, 46, 47, 48, 49, 50, 51, 52, 53, 54, 55, 56, 57, 58, 59, 60, 61] (by decide +kernel) (by decide +kernel)
set_option maxRecDepth 20000 in
theorem gX7_condition_X7_put : GoodIn wsX7_condition (wsV RX7 131 RX7 yX7_put wsX7_put) := goodIn_app (goodIn_of _ (by decide +kernel)) ggX7_condition_X7_put
set_option maxRecDepth 20000 in
theorem ggX7_condition_X7_word : GoodIn wsX7_condition wsX7_word := goodIn_r _ [22, 23, 2, 28, 29, 30, 31, 32, 33, 34, 35, 36, 37, 38, 39, 40, 41, 42, 43, 44, 45, 46, 47, 48, 49, 50, 51, 52, 53, 54, 55, 56, 57, 58, 59, 60, 61] (by decide +kernel) (by decide +kernel)
set_option maxRecDepth 20000 in
theorem gX7_condition_X7_word : GoodIn wsX7_condition (wsV RX7 119 RX7 yX7_word wsX7_word) := goodIn_app (goodIn_of _ (by decide +kernel)) ggX7_condition_X7_word
set_option maxRecDepth 20000 in
theorem ggX7_condition_X7_termDone : GoodIn wsX7_condition wsX7_termDone := goodIn_r _ [27, 1, 14, 19, 20, 21, 7, 22, 23, 2, 28, 29, 30, 31, 32, 33, 34, 35, 36, 37, 38, 39, 40, 41, 42, 43, 44, 45, 46, 47, 48, 49, 50, 51, 52, 53, 54, 55, 56, 57, 58, 59, 60, 61] (by decide +kernel) (by decide +kernel)
set_option maxRecDepth 20000 in
theorem gX7_condition_X7_termDone : GoodIn wsX7_condition (wsV RX7 135 RX7 yX7_termDone wsX7_termDone) := goodIn_app (goodIn_of _ (by decide +kernel)) ggX7_condition_X7_termDone
theorem dX7_condition_0 : decode cX7_condition 0 = .ok (.aload_n 0, 1) := by decide +kernel
theorem dX7_condition_1 : decode cX7_condition 1 = .ok (.iconst 0, 1) := by decide +kernel
theorem dX7_condition_2 : decode cX7_condition 2 = .ok (.putfield 116, 3) := by decide +kernel
theorem dX7_condition_5 : decode cX7_condition 5 = .ok (.aload_n 0, 1) := by decide +kernel
theorem dX7_condition_6 : decode cX7_condition 6 = .ok (.iconst 0, 1) := by decide +kernel
theorem dX7_condition_7 : decode cX7_condition 7 = .ok (.putfield 113, 3) := by decide +kernel
theorem dX7_condition_10 : decode cX7_condition 10 = .ok (.iconst 1, 1) := by decide +kernel
theorem dX7_condition_11 : decode cX7_condition 11 = .ok (.istore_n 1, 1) := by decide +kernel
theorem dX7_condition_12 : decode cX7_condition 12 = .ok (.iconst 0, 1) := by decide +kernel
theorem dX7_condition_13 : decode cX7_condition 13 = .ok (.istore_n 2, 1) := by decide +kernel
theorem dX7_condition_14 : decode cX7_condition 14 = .ok (.iload_n 2, 1) := by decide +kernel
theorem dX7_condition_15 : decode cX7_condition 15 = .ok (.aload_n 0, 1) := by decide +kernel
theorem dX7_condition_16 : decode cX7_condition 16 = .ok (.getfield 110, 3) := by decide +kernel
theorem dX7_condition_19 : decode cX7_condition 19 = .ok (.if_icmp .ge 221, 3) := by decide +kernel
theorem dX7_condition_22 : decode cX7_condition 22 = .ok (.aload_n 0, 1) := by decide +kernel
theorem dX7_condition_23 : decode cX7_condition 23 = .ok (.iload_n 2, 1) := by decide +kernel
theorem dX7_condition_24 : decode cX7_condition 24 = .ok (.invokevirtual 123, 3) := by decide +kernel
theorem dX7_condition_27 : decode cX7_condition 27 = .ok (.istore_n 3, 1) := by decide +kernel
theorem dX7_condition_28 : decode cX7_condition 28 = .ok (.iload_n 1, 1) := by decide +kernel
theorem dX7_condition_29 : decode cX7_condition 29 = .ok (.ifCond .eq 134, 3) := by decide +kernel
theorem dX7_condition_32 : decode cX7_condition 32 = .ok (.iload_n 3, 1) := by decide +kernel
theorem dX7_condition_33 : decode cX7_condition 33 = .ok (.bipush 33, 2) := by decide +kernel
theorem dX7_condition_35 : decode cX7_condition 35 = .ok (.if_icmp .eq 9, 3) := by decide +kernel
theorem dX7_condition_38 : decode cX7_condition 38 = .ok (.iload_n 3, 1) := by decide +kernel
theorem dX7_condition_39 : decode cX7_condition 39 = .ok (.bipush 40, 2) := by decide +kernel
theorem dX7_condition_41 : decode cX7_condition 41 = .ok (.if_icmp .ne 23, 3) := by decide +kernel
theorem dX7_condition_44 : decode cX7_condition 44 = .ok (.aload_n 0, 1) := by decide +kernel
theorem dX7_condition_45 : decode cX7_condition 45 = .ok (.invokevirtual 127, 3) := by decide +kernel
theorem dX7_condition_48 : decode cX7_condition 48 = .ok (.iconst 4, 1) := by decide +kernel
theorem dX7_condition_49 : decode cX7_condition 49 = .ok (.if_icmp .ne 7, 3) := by decide +kernel
theorem dX7_condition_52 : decode cX7_condition 52 = .ok (.iconst (-1), 1) := by decide +kernel
theorem dX7_condition_53 : decode cX7_condition 53 = .ok (.iload_n 2, 1) := by decide +kernel
theorem dX7_condition_54 : decode cX7_condition 54 = .ok (.isub, 1) := by decide +kernel
theorem dX7_condition_55 : decode cX7_condition 55 = .ok (.ireturn, 1) := by decide +kernel
theorem dX7_condition_56 : decode cX7_condition 56 = .ok (.aload_n 0, 1) := by decide +kernel
theorem dX7_condition_57 : decode cX7_condition 57 = .ok (.iload_n 3, 1) := by decide +kernel
theorem dX7_condition_58 : decode cX7_condition 58 = .ok (.invokevirtual 131, 3) := by decide +kernel
theorem dX7_condition_61 : decode cX7_condition 61 = .ok (.goto 173, 3) := by decide +kernel
theorem dX7_condition_64 : decode cX7_condition 64 = .ok (.iload_n 3, 1) := by decide +kernel
theorem dX7_condition_65 : decode cX7_condition 65 = .ok (.bipush 102, 2) := by decide +kernel
theorem dX7_condition_67 : decode cX7_condition 67 = .ok (.if_icmp .ne 18, 3) := by decide +kernel
theorem dX7_condition_70 : decode cX7_condition 70 = .ok (.aload_n 0, 1) := by decide +kernel
theorem dX7_condition_71 : decode cX7_condition 71 = .ok (.bipush 8, 2) := by decide +kernel
theorem dX7_condition_73 : decode cX7_condition 73 = .ok (.invokevirtual 119, 3) := by decide +kernel
theorem dX7_condition_76 : decode cX7_condition 76 = .ok (.aload_n 0, 1) := by decide +kernel
theorem dX7_condition_77 : decode cX7_condition 77 = .ok (.invokevirtual 135, 3) := by decide +kernel
theorem dX7_condition_80 : decode cX7_condition 80 = .ok (.iconst 0, 1) := by decide +kernel
theorem dX7_condition_81 : decode cX7_condition 81 = .ok (.istore_n 1, 1) := by decide +kernel
theorem dX7_condition_82 : decode cX7_condition 82 = .ok (.goto 152, 3) := by decide +kernel
theorem dX7_condition_85 : decode cX7_condition 85 = .ok (.iload_n 3, 1) := by decide +kernel
theorem dX7_condition_86 : decode cX7_condition 86 = .ok (.bipush 122, 2) := by decide +kernel
theorem dX7_condition_88 : decode cX7_condition 88 = .ok (.if_icmp .eq 9, 3) := by decide +kernel
theorem dX7_condition_91 : decode cX7_condition 91 = .ok (.iload_n 3, 1) := by decide +kernel
theorem dX7_condition_92 : decode cX7_condition 92 = .ok (.bipush 119, 2) := by decide +kernel
theorem dX7_condition_94 : decode cX7_condition 94 = .ok (.if_icmp .ne 65, 3) := by decide +kernel
theorem dX7_condition_97 : decode cX7_condition 97 = .ok (.aload_n 0, 1) := by decide +kernel
theorem dX7_condition_98 : decode cX7_condition 98 = .ok (.iload_n 2, 1) := by decide +kernel
theorem dX7_condition_99 : decode cX7_condition 99 = .ok (.iconst 1, 1) := by decide +kernel
theorem dX7_condition_100 : decode cX7_condition 100 = .ok (.iadd, 1) := by decide +kernel
theorem dX7_condition_101 : decode cX7_condition 101 = .ok (.invokevirtual 123, 3) := by decide +kernel
theorem dX7_condition_104 : decode cX7_condition 104 = .ok (.istore 4, 2) := by decide +kernel
theorem dX7_condition_106 : decode cX7_condition 106 = .ok (.iload 4, 2) := by decide +kernel
theorem dX7_condition_108 : decode cX7_condition 108 = .ok (.bipush 48, 2) := by decide +kernel
theorem dX7_condition_110 : decode cX7_condition 110 = .ok (.if_icmp .lt 10, 3) := by decide +kernel
theorem dX7_condition_113 : decode cX7_condition 113 = .ok (.iload 4, 2) := by decide +kernel
theorem dX7_condition_115 : decode cX7_condition 115 = .ok (.bipush 51, 2) := by decide +kernel
theorem dX7_condition_117 : decode cX7_condition 117 = .ok (.if_icmp .le 9, 3) := by decide +kernel
theorem dX7_condition_120 : decode cX7_condition 120 = .ok (.iconst (-1), 1) := by decide +kernel
theorem dX7_condition_121 : decode cX7_condition 121 = .ok (.iload_n 2, 1) := by decide +kernel
theorem dX7_condition_122 : decode cX7_condition 122 = .ok (.iconst 1, 1) := by decide +kernel
theorem dX7_condition_123 : decode cX7_condition 123 = .ok (.iadd, 1) := by decide +kernel
theorem dX7_condition_124 : decode cX7_condition 124 = .ok (.isub, 1) := by decide +kernel
theorem dX7_condition_125 : decode cX7_condition 125 = .ok (.ireturn, 1) := by decide +kernel
theorem dX7_condition_126 : decode cX7_condition 126 = .ok (.iinc 2 1, 3) := by decide +kernel
theorem dX7_condition_129 : decode cX7_condition 129 = .ok (.aload_n 0, 1) := by decide +kernel
theorem dX7_condition_130 : decode cX7_condition 130 = .ok (.iload 4, 2) := by decide +kernel
theorem dX7_condition_132 : decode cX7_condition 132 = .ok (.bipush 48, 2) := by decide +kernel
theorem dX7_condition_134 : decode cX7_condition 134 = .ok (.isub, 1) := by decide +kernel
theorem dX7_condition_135 : decode cX7_condition 135 = .ok (.iload_n 3, 1) := by decide +kernel
theorem dX7_condition_136 : decode cX7_condition 136 = .ok (.bipush 119, 2) := by decide +kernel
theorem dX7_condition_138 : decode cX7_condition 138 = .ok (.if_icmp .ne 7, 3) := by decide +kernel
theorem dX7_condition_141 : decode cX7_condition 141 = .ok (.iconst 4, 1) := by decide +kernel
theorem dX7_condition_142 : decode cX7_condition 142 = .ok (.goto 4, 3) := by decide +kernel
theorem dX7_condition_145 : decode cX7_condition 145 = .ok (.iconst 0, 1) := by decide +kernel
theorem dX7_condition_146 : decode cX7_condition 146 = .ok (.iadd, 1) := by decide +kernel
theorem dX7_condition_147 : decode cX7_condition 147 = .ok (.invokevirtual 119, 3) := by decide +kernel
theorem dX7_condition_150 : decode cX7_condition 150 = .ok (.aload_n 0, 1) := by decide +kernel
theorem dX7_condition_151 : decode cX7_condition 151 = .ok (.invokevirtual 135, 3) := by decide +kernel
theorem dX7_condition_154 : decode cX7_condition 154 = .ok (.iconst 0, 1) := by decide +kernel
theorem dX7_condition_155 : decode cX7_condition 155 = .ok (.istore_n 1, 1) := by decide +kernel
theorem dX7_condition_156 : decode cX7_condition 156 = .ok (.goto 78, 3) := by decide +kernel
theorem dX7_condition_159 : decode cX7_condition 159 = .ok (.iconst (-1), 1) := by decide +kernel
theorem dX7_condition_160 : decode cX7_condition 160 = .ok (.iload_n 2, 1) := by decide +kernel
theorem dX7_condition_161 : decode cX7_condition 161 = .ok (.isub, 1) := by decide +kernel
theorem dX7_condition_162 : decode cX7_condition 162 = .ok (.ireturn, 1) := by decide +kernel
theorem dX7_condition_163 : decode cX7_condition 163 = .ok (.iload_n 3, 1) := by decide +kernel
theorem dX7_condition_164 : decode cX7_condition 164 = .ok (.bipush 38, 2) := by decide +kernel
theorem dX7_condition_166 : decode cX7_condition 166 = .ok (.if_icmp .eq 9, 3) := by decide +kernel
theorem dX7_condition_169 : decode cX7_condition 169 = .ok (.iload_n 3, 1) := by decide +kernel
theorem dX7_condition_170 : decode cX7_condition 170 = .ok (.bipush 124, 2) := by decide +kernel
theorem dX7_condition_172 : decode cX7_condition 172 = .ok (.if_icmp .ne 13, 3) := by decide +kernel
theorem dX7_condition_175 : decode cX7_condition 175 = .ok (.aload_n 0, 1) := by decide +kernel
theorem dX7_condition_176 : decode cX7_condition 176 = .ok (.iload_n 3, 1) := by decide +kernel
theorem dX7_condition_177 : decode cX7_condition 177 = .ok (.invokevirtual 131, 3) := by decide +kernel
theorem dX7_condition_180 : decode cX7_condition 180 = .ok (.iconst 1, 1) := by decide +kernel
theorem dX7_condition_181 : decode cX7_condition 181 = .ok (.istore_n 1, 1) := by decide +kernel
theorem dX7_condition_182 : decode cX7_condition 182 = .ok (.goto 52, 3) := by decide +kernel
theorem dX7_condition_185 : decode cX7_condition 185 = .ok (.iload_n 3, 1) := by decide +kernel
theorem dX7_condition_186 : decode cX7_condition 186 = .ok (.bipush 41, 2) := by decide +kernel
theorem dX7_condition_188 : decode cX7_condition 188 = .ok (.if_icmp .ne 27, 3) := by decide +kernel
theorem dX7_condition_191 : decode cX7_condition 191 = .ok (.aload_n 0, 1) := by decide +kernel
theorem dX7_condition_192 : decode cX7_condition 192 = .ok (.getfield 116, 3) := by decide +kernel
theorem dX7_condition_195 : decode cX7_condition 195 = .ok (.ifCond .le 20, 3) := by decide +kernel
theorem dX7_condition_198 : decode cX7_condition 198 = .ok (.aload_n 0, 1) := by decide +kernel
theorem dX7_condition_199 : decode cX7_condition 199 = .ok (.dup, 1) := by decide +kernel
theorem dX7_condition_200 : decode cX7_condition 200 = .ok (.getfield 116, 3) := by decide +kernel
theorem dX7_condition_203 : decode cX7_condition 203 = .ok (.iconst 1, 1) := by decide +kernel
theorem dX7_condition_204 : decode cX7_condition 204 = .ok (.isub, 1) := by decide +kernel
theorem dX7_condition_205 : decode cX7_condition 205 = .ok (.putfield 116, 3) := by decide +kernel
theorem dX7_condition_208 : decode cX7_condition 208 = .ok (.aload_n 0, 1) := by decide +kernel
theorem dX7_condition_209 : decode cX7_condition 209 = .ok (.invokevirtual 135, 3) := by decide +kernel
theorem dX7_condition_212 : decode cX7_condition 212 = .ok (.goto 22, 3) := by decide +kernel
theorem dX7_condition_215 : decode cX7_condition 215 = .ok (.iload_n 3, 1) := by decide +kernel
theorem dX7_condition_216 : decode cX7_condition 216 = .ok (.bipush 62, 2) := by decide +kernel
theorem dX7_condition_218 : decode cX7_condition 218 = .ok (.if_icmp .ne 12, 3) := by decide +kernel
theorem dX7_condition_221 : decode cX7_condition 221 = .ok (.aload_n 0, 1) := by decide +kernel
theorem dX7_condition_222 : decode cX7_condition 222 = .ok (.getfield 116, 3) := by decide +kernel
theorem dX7_condition_225 : decode cX7_condition 225 = .ok (.ifCond .ne 5, 3) := by decide +kernel
theorem dX7_condition_228 : decode cX7_condition 228 = .ok (.iload_n 2, 1) := by decide +kernel
theorem dX7_condition_229 : decode cX7_condition 229 = .ok (.ireturn, 1) := by decide +kernel
theorem dX7_condition_230 : decode cX7_condition 230 = .ok (.iconst (-1), 1) := by decide +kernel
theorem dX7_condition_231 : decode cX7_condition 231 = .ok (.iload_n 2, 1) := by decide +kernel
theorem dX7_condition_232 : decode cX7_condition 232 = .ok (.isub, 1) := by decide +kernel
theorem dX7_condition_233 : decode cX7_condition 233 = .ok (.ireturn, 1) := by decide +kernel
theorem dX7_condition_234 : decode cX7_condition 234 = .ok (.iinc 2 1, 3) := by decide +kernel
theorem dX7_condition_237 : decode cX7_condition 237 = .ok (.goto (-223), 3) := by decide +kernel
theorem dX7_condition_240 : decode cX7_condition 240 = .ok (.iconst (-1), 1) := by decide +kernel
theorem dX7_condition_241 : decode cX7_condition 241 = .ok (.aload_n 0, 1) := by decide +kernel
theorem dX7_condition_242 : decode cX7_condition 242 = .ok (.getfield 110, 3) := by decide +kernel
theorem dX7_condition_245 : decode cX7_condition 245 = .ok (.isub, 1) := by decide +kernel
theorem dX7_condition_246 : decode cX7_condition 246 = .ok (.ireturn, 1) := by decide +kernel
set_option maxRecDepth 20000 in
theorem ggX7_read_X7_condition : GoodIn wsX7_read wsX7_condition := goodIn_r _ [13, 14, 2, 1, 15, 16, 17, 12, 18, 19, 20, 21, 22, 23, 24, 25, 26, 27, 28, 29, 30, 31, 32, 4, 33, 34, 35, 36, 37, 38, 39, 40, 41, 42, 43, 44, 45, 46, 47, 48, 49, 50, 51, 52, 53, 54, 55, 56, 57, 58, 59, 60, 61, 62, 63, 64, 65, 66, 67, 68, 69, 70] (by decide +kernel) (by decide +kernel)
set_option maxRecDepth 20000 in
theorem gX7_read_X7_condition : GoodIn wsX7_read (wsV RX7 138 RX7 yX7_condition wsX7_condition) := goodIn_app (goodIn_of _ (by decide +kernel)) ggX7_read_X7_condition
set_option maxRecDepth 20000 in
theorem ggX7_read_X7_look : GoodIn wsX7_read wsX7_look := goodIn_r _ [18, 1, 19, 37, 38, 39, 40, 41, 42, 43, 44, 45, 46, 47, 48, 49, 50, 51, 52, 53, 54, 55, 56, 57, 58, 59, 60, 61, 62, 63, 64, 65, 66, 67, 68, 69, 70] (by decide +kernel) (by decide +kernel)
set_option maxRecDepth 20000 in
theorem gX7_read_X7_look : GoodIn wsX7_read (wsV RX7 123 RX7 yX7_look wsX7_look) := goodIn_app (goodIn_of _ (by decide +kernel)) ggX7_read_X7_look
theorem dX7_read_0 : decode cX7_read 0 = .ok (.aload_n 0, 1) := by decide +kernel
theorem dX7_read_1 : decode cX7_read 1 = .ok (.invokevirtual 138, 3) := by decide +kernel
theorem dX7_read_4 : decode cX7_read 4 = .ok (.istore_n 2, 1) := by decide +kernel
theorem dX7_read_5 : decode cX7_read 5 = .ok (.iload_n 2, 1) := by decide +kernel
theorem dX7_read_6 : decode cX7_read 6 = .ok (.ifCond .ge 7, 3) := by decide +kernel
theorem dX7_read_9 : decode cX7_read 9 = .ok (.iconst (-1), 1) := by decide +kernel
theorem dX7_read_10 : decode cX7_read 10 = .ok (.iload_n 2, 1) := by decide +kernel
theorem dX7_read_11 : decode cX7_read 11 = .ok (.isub, 1) := by decide +kernel
theorem dX7_read_12 : decode cX7_read 12 = .ok (.ireturn, 1) := by decide +kernel
theorem dX7_read_13 : decode cX7_read 13 = .ok (.aload_n 0, 1) := by decide +kernel
theorem dX7_read_14 : decode cX7_read 14 = .ok (.iload_n 2, 1) := by decide +kernel
theorem dX7_read_15 : decode cX7_read 15 = .ok (.iconst 1, 1) := by decide +kernel
theorem dX7_read_16 : decode cX7_read 16 = .ok (.iadd, 1) := by decide +kernel
theorem dX7_read_17 : decode cX7_read 17 = .ok (.invokevirtual 123, 3) := by decide +kernel
theorem dX7_read_20 : decode cX7_read 20 = .ok (.bipush 48, 2) := by decide +kernel
theorem dX7_read_22 : decode cX7_read 22 = .ok (.if_icmp .lt 15, 3) := by decide +kernel
theorem dX7_read_25 : decode cX7_read 25 = .ok (.aload_n 0, 1) := by decide +kernel
theorem dX7_read_26 : decode cX7_read 26 = .ok (.iload_n 2, 1) := by decide +kernel
theorem dX7_read_27 : decode cX7_read 27 = .ok (.iconst 1, 1) := by decide +kernel
theorem dX7_read_28 : decode cX7_read 28 = .ok (.iadd, 1) := by decide +kernel
theorem dX7_read_29 : decode cX7_read 29 = .ok (.invokevirtual 123, 3) := by decide +kernel
theorem dX7_read_32 : decode cX7_read 32 = .ok (.bipush 53, 2) := by decide +kernel
theorem dX7_read_34 : decode cX7_read 34 = .ok (.if_icmp .le 7, 3) := by decide +kernel
theorem dX7_read_37 : decode cX7_read 37 = .ok (.iload_n 2, 1) := by decide +kernel
theorem dX7_read_38 : decode cX7_read 38 = .ok (.iconst 1, 1) := by decide +kernel
theorem dX7_read_39 : decode cX7_read 39 = .ok (.iadd, 1) := by decide +kernel
theorem dX7_read_40 : decode cX7_read 40 = .ok (.ireturn, 1) := by decide +kernel
theorem dX7_read_41 : decode cX7_read 41 = .ok (.aload_n 0, 1) := by decide +kernel
theorem dX7_read_42 : decode cX7_read 42 = .ok (.iload_n 2, 1) := by decide +kernel
theorem dX7_read_43 : decode cX7_read 43 = .ok (.iconst 2, 1) := by decide +kernel
theorem dX7_read_44 : decode cX7_read 44 = .ok (.iadd, 1) := by decide +kernel
theorem dX7_read_45 : decode cX7_read 45 = .ok (.invokevirtual 123, 3) := by decide +kernel
theorem dX7_read_48 : decode cX7_read 48 = .ok (.bipush 58, 2) := by decide +kernel
theorem dX7_read_50 : decode cX7_read 50 = .ok (.if_icmp .ne 7, 3) := by decide +kernel
theorem dX7_read_53 : decode cX7_read 53 = .ok (.iconst 1, 1) := by decide +kernel
theorem dX7_read_54 : decode cX7_read 54 = .ok (.goto 4, 3) := by decide +kernel
theorem dX7_read_57 : decode cX7_read 57 = .ok (.iconst 0, 1) := by decide +kernel
theorem dX7_read_58 : decode cX7_read 58 = .ok (.istore_n 3, 1) := by decide +kernel
theorem dX7_read_59 : decode cX7_read 59 = .ok (.iload_n 2, 1) := by decide +kernel
theorem dX7_read_60 : decode cX7_read 60 = .ok (.iconst 2, 1) := by decide +kernel
theorem dX7_read_61 : decode cX7_read 61 = .ok (.iadd, 1) := by decide +kernel
theorem dX7_read_62 : decode cX7_read 62 = .ok (.aload_n 0, 1) := by decide +kernel
theorem dX7_read_63 : decode cX7_read 63 = .ok (.getfield 110, 3) := by decide +kernel
theorem dX7_read_66 : decode cX7_read 66 = .ok (.if_icmp .ge 11, 3) := by decide +kernel
theorem dX7_read_69 : decode cX7_read 69 = .ok (.iload_n 3, 1) := by decide +kernel
theorem dX7_read_70 : decode cX7_read 70 = .ok (.ifCond .ne 7, 3) := by decide +kernel
theorem dX7_read_73 : decode cX7_read 73 = .ok (.iload_n 2, 1) := by decide +kernel
theorem dX7_read_74 : decode cX7_read 74 = .ok (.iconst 2, 1) := by decide +kernel
theorem dX7_read_75 : decode cX7_read 75 = .ok (.iadd, 1) := by decide +kernel
theorem dX7_read_76 : decode cX7_read 76 = .ok (.ireturn, 1) := by decide +kernel
theorem dX7_read_77 : decode cX7_read 77 = .ok (.iload_n 3, 1) := by decide +kernel
theorem dX7_read_78 : decode cX7_read 78 = .ok (.ifCond .eq 31, 3) := by decide +kernel
theorem dX7_read_81 : decode cX7_read 81 = .ok (.aload_n 0, 1) := by decide +kernel
theorem dX7_read_82 : decode cX7_read 82 = .ok (.iload_n 2, 1) := by decide +kernel
theorem dX7_read_83 : decode cX7_read 83 = .ok (.iconst 3, 1) := by decide +kernel
theorem dX7_read_84 : decode cX7_read 84 = .ok (.iadd, 1) := by decide +kernel
theorem dX7_read_85 : decode cX7_read 85 = .ok (.invokevirtual 123, 3) := by decide +kernel
theorem dX7_read_88 : decode cX7_read 88 = .ok (.bipush 48, 2) := by decide +kernel
theorem dX7_read_90 : decode cX7_read 90 = .ok (.if_icmp .lt 15, 3) := by decide +kernel
theorem dX7_read_93 : decode cX7_read 93 = .ok (.aload_n 0, 1) := by decide +kernel
theorem dX7_read_94 : decode cX7_read 94 = .ok (.iload_n 2, 1) := by decide +kernel
theorem dX7_read_95 : decode cX7_read 95 = .ok (.iconst 3, 1) := by decide +kernel
theorem dX7_read_96 : decode cX7_read 96 = .ok (.iadd, 1) := by decide +kernel
theorem dX7_read_97 : decode cX7_read 97 = .ok (.invokevirtual 123, 3) := by decide +kernel
theorem dX7_read_100 : decode cX7_read 100 = .ok (.bipush 57, 2) := by decide +kernel
theorem dX7_read_102 : decode cX7_read 102 = .ok (.if_icmp .le 7, 3) := by decide +kernel
theorem dX7_read_105 : decode cX7_read 105 = .ok (.iload_n 2, 1) := by decide +kernel
theorem dX7_read_106 : decode cX7_read 106 = .ok (.iconst 3, 1) := by decide +kernel
theorem dX7_read_107 : decode cX7_read 107 = .ok (.iadd, 1) := by decide +kernel
theorem dX7_read_108 : decode cX7_read 108 = .ok (.ireturn, 1) := by decide +kernel
theorem dX7_read_109 : decode cX7_read 109 = .ok (.iload_n 2, 1) := by decide +kernel
theorem dX7_read_110 : decode cX7_read 110 = .ok (.iconst 4, 1) := by decide +kernel
theorem dX7_read_111 : decode cX7_read 111 = .ok (.iadd, 1) := by decide +kernel
theorem dX7_read_112 : decode cX7_read 112 = .ok (.aload_n 0, 1) := by decide +kernel
theorem dX7_read_113 : decode cX7_read 113 = .ok (.getfield 110, 3) := by decide +kernel
theorem dX7_read_116 : decode cX7_read 116 = .ok (.if_icmp .ge 7, 3) := by decide +kernel
theorem dX7_read_119 : decode cX7_read 119 = .ok (.iload_n 2, 1) := by decide +kernel
theorem dX7_read_120 : decode cX7_read 120 = .ok (.iconst 4, 1) := by decide +kernel
theorem dX7_read_121 : decode cX7_read 121 = .ok (.iadd, 1) := by decide +kernel
theorem dX7_read_122 : decode cX7_read 122 = .ok (.ireturn, 1) := by decide +kernel
theorem dX7_read_123 : decode cX7_read 123 = .ok (.iconst 0, 1) := by decide +kernel
theorem dX7_read_124 : decode cX7_read 124 = .ok (.istore 4, 2) := by decide +kernel
theorem dX7_read_126 : decode cX7_read 126 = .ok (.iload 4, 2) := by decide +kernel
theorem dX7_read_128 : decode cX7_read 128 = .ok (.aload_n 0, 1) := by decide +kernel
theorem dX7_read_129 : decode cX7_read 129 = .ok (.getfield 113, 3) := by decide +kernel
theorem dX7_read_132 : decode cX7_read 132 = .ok (.if_icmp .ge 28, 3) := by decide +kernel
theorem dX7_read_135 : decode cX7_read 135 = .ok (.aload_n 0, 1) := by decide +kernel
theorem dX7_read_136 : decode cX7_read 136 = .ok (.getfield 57, 3) := by decide +kernel
theorem dX7_read_139 : decode cX7_read 139 = .ok (.bipush 20, 2) := by decide +kernel
theorem dX7_read_141 : decode cX7_read 141 = .ok (.iload_n 1, 1) := by decide +kernel
theorem dX7_read_142 : decode cX7_read 142 = .ok (.imul, 1) := by decide +kernel
theorem dX7_read_143 : decode cX7_read 143 = .ok (.iload 4, 2) := by decide +kernel
theorem dX7_read_145 : decode cX7_read 145 = .ok (.iadd, 1) := by decide +kernel
theorem dX7_read_146 : decode cX7_read 146 = .ok (.aload_n 0, 1) := by decide +kernel
theorem dX7_read_147 : decode cX7_read 147 = .ok (.getfield 85, 3) := by decide +kernel
theorem dX7_read_150 : decode cX7_read 150 = .ok (.iload 4, 2) := by decide +kernel
theorem dX7_read_152 : decode cX7_read 152 = .ok (.iaload, 1) := by decide +kernel
theorem dX7_read_153 : decode cX7_read 153 = .ok (.iastore, 1) := by decide +kernel
theorem dX7_read_154 : decode cX7_read 154 = .ok (.iinc 4 1, 3) := by decide +kernel
theorem dX7_read_157 : decode cX7_read 157 = .ok (.goto (-31), 3) := by decide +kernel
theorem dX7_read_160 : decode cX7_read 160 = .ok (.aload_n 0, 1) := by decide +kernel
theorem dX7_read_161 : decode cX7_read 161 = .ok (.getfield 60, 3) := by decide +kernel
theorem dX7_read_164 : decode cX7_read 164 = .ok (.iload_n 1, 1) := by decide +kernel
theorem dX7_read_165 : decode cX7_read 165 = .ok (.aload_n 0, 1) := by decide +kernel
theorem dX7_read_166 : decode cX7_read 166 = .ok (.getfield 113, 3) := by decide +kernel
theorem dX7_read_169 : decode cX7_read 169 = .ok (.iastore, 1) := by decide +kernel
theorem dX7_read_170 : decode cX7_read 170 = .ok (.aload_n 0, 1) := by decide +kernel
theorem dX7_read_171 : decode cX7_read 171 = .ok (.getfield 63, 3) := by decide +kernel
theorem dX7_read_174 : decode cX7_read 174 = .ok (.iload_n 1, 1) := by decide +kernel
theorem dX7_read_175 : decode cX7_read 175 = .ok (.aload_n 0, 1) := by decide +kernel
theorem dX7_read_176 : decode cX7_read 176 = .ok (.iload_n 2, 1) := by decide +kernel
theorem dX7_read_177 : decode cX7_read 177 = .ok (.iconst 1, 1) := by decide +kernel
theorem dX7_read_178 : decode cX7_read 178 = .ok (.iadd, 1) := by decide +kernel
theorem dX7_read_179 : decode cX7_read 179 = .ok (.invokevirtual 123, 3) := by decide +kernel
theorem dX7_read_182 : decode cX7_read 182 = .ok (.bipush 48, 2) := by decide +kernel
theorem dX7_read_184 : decode cX7_read 184 = .ok (.isub, 1) := by decide +kernel
theorem dX7_read_185 : decode cX7_read 185 = .ok (.iastore, 1) := by decide +kernel
theorem dX7_read_186 : decode cX7_read 186 = .ok (.aload_n 0, 1) := by decide +kernel
theorem dX7_read_187 : decode cX7_read 187 = .ok (.getfield 66, 3) := by decide +kernel
theorem dX7_read_190 : decode cX7_read 190 = .ok (.iload_n 1, 1) := by decide +kernel
theorem dX7_read_191 : decode cX7_read 191 = .ok (.iload_n 3, 1) := by decide +kernel
theorem dX7_read_192 : decode cX7_read 192 = .ok (.ifCond .eq 16, 3) := by decide +kernel
theorem dX7_read_195 : decode cX7_read 195 = .ok (.aload_n 0, 1) := by decide +kernel
theorem dX7_read_196 : decode cX7_read 196 = .ok (.iload_n 2, 1) := by decide +kernel
theorem dX7_read_197 : decode cX7_read 197 = .ok (.iconst 3, 1) := by decide +kernel
theorem dX7_read_198 : decode cX7_read 198 = .ok (.iadd, 1) := by decide +kernel
theorem dX7_read_199 : decode cX7_read 199 = .ok (.invokevirtual 123, 3) := by decide +kernel
theorem dX7_read_202 : decode cX7_read 202 = .ok (.bipush 48, 2) := by decide +kernel
theorem dX7_read_204 : decode cX7_read 204 = .ok (.isub, 1) := by decide +kernel
theorem dX7_read_205 : decode cX7_read 205 = .ok (.goto 4, 3) := by decide +kernel
theorem dX7_read_208 : decode cX7_read 208 = .ok (.iconst 0, 1) := by decide +kernel
theorem dX7_read_209 : decode cX7_read 209 = .ok (.iastore, 1) := by decide +kernel
theorem dX7_read_210 : decode cX7_read 210 = .ok (.aload_n 0, 1) := by decide +kernel
theorem dX7_read_211 : decode cX7_read 211 = .ok (.getfield 69, 3) := by decide +kernel
theorem dX7_read_214 : decode cX7_read 214 = .ok (.iload_n 1, 1) := by decide +kernel
theorem dX7_read_215 : decode cX7_read 215 = .ok (.iconst 0, 1) := by decide +kernel
theorem dX7_read_216 : decode cX7_read 216 = .ok (.iastore, 1) := by decide +kernel
theorem dX7_read_217 : decode cX7_read 217 = .ok (.iconst (-1), 1) := by decide +kernel
theorem dX7_read_218 : decode cX7_read 218 = .ok (.ireturn, 1) := by decide +kernel
set_option maxRecDepth 20000 in
theorem ggX7_rule_X7_read : GoodIn wsX7_rule wsX7_read := goodIn_r _ [9, 4, 10, 11, 12, 13, 14, 15, 16, 17, 18, 19, 8, 20, 21, 22, 23, 24, 25, 26, 27, 28, 29, 30, 31, 32, 33, 34, 35, 36, 37, 38, 39, 40, 41, 42, 43, 44, 45, 46, 47, 48, 49, 50, 51, 52, 53, 54, 55, 56, 57, 58, 59, 60, 61, 62, 63, 64, 65, 66, 67, 68, 69, 70, 71, 72, 73, 74, 75, 76, 77] (by decide +kernel) (by decide +kernel)
set_option maxRecDepth 20000 in
theorem gX7_rule_X7_read : GoodIn wsX7_rule (wsV RX7 144 RX7 yX7_read wsX7_read) := goodIn_app (goodIn_of _ (by decide +kernel)) ggX7_rule_X7_read
theorem dX7_rule_0 : decode cX7_rule 0 = .ok (.aload_n 0, 1) := by decide +kernel
theorem dX7_rule_1 : decode cX7_rule 1 = .ok (.aload_n 0, 1) := by decide +kernel
theorem dX7_rule_2 : decode cX7_rule 2 = .ok (.getfield 105, 3) := by decide +kernel
theorem dX7_rule_5 : decode cX7_rule 5 = .ok (.iconst 2, 1) := by decide +kernel
theorem dX7_rule_6 : decode cX7_rule 6 = .ok (.if_icmp .lt 12, 3) := by decide +kernel
theorem dX7_rule_9 : decode cX7_rule 9 = .ok (.aload_n 0, 1) := by decide +kernel
theorem dX7_rule_10 : decode cX7_rule 10 = .ok (.getfield 141, 3) := by decide +kernel
theorem dX7_rule_13 : decode cX7_rule 13 = .ok (.bipush 6, 2) := by decide +kernel
theorem dX7_rule_15 : decode cX7_rule 15 = .ok (.if_icmp .ne 7, 3) := by decide +kernel
theorem dX7_rule_18 : decode cX7_rule 18 = .ok (.iconst 1, 1) := by decide +kernel
theorem dX7_rule_19 : decode cX7_rule 19 = .ok (.goto 4, 3) := by decide +kernel
theorem dX7_rule_22 : decode cX7_rule 22 = .ok (.iconst 0, 1) := by decide +kernel
theorem dX7_rule_23 : decode cX7_rule 23 = .ok (.putfield 88, 3) := by decide +kernel
theorem dX7_rule_26 : decode cX7_rule 26 = .ok (.aload_n 0, 1) := by decide +kernel
theorem dX7_rule_27 : decode cX7_rule 27 = .ok (.getfield 88, 3) := by decide +kernel
theorem dX7_rule_30 : decode cX7_rule 30 = .ok (.ifCond .le 5, 3) := by decide +kernel
theorem dX7_rule_33 : decode cX7_rule 33 = .ok (.iconst 0, 1) := by decide +kernel
theorem dX7_rule_34 : decode cX7_rule 34 = .ok (.ireturn, 1) := by decide +kernel
theorem dX7_rule_35 : decode cX7_rule 35 = .ok (.aload_n 0, 1) := by decide +kernel
theorem dX7_rule_36 : decode cX7_rule 36 = .ok (.aload_n 0, 1) := by decide +kernel
theorem dX7_rule_37 : decode cX7_rule 37 = .ok (.getfield 141, 3) := by decide +kernel
theorem dX7_rule_40 : decode cX7_rule 40 = .ok (.invokevirtual 144, 3) := by decide +kernel
theorem dX7_rule_43 : decode cX7_rule 43 = .ok (.istore_n 1, 1) := by decide +kernel
theorem dX7_rule_44 : decode cX7_rule 44 = .ok (.aload_n 0, 1) := by decide +kernel
theorem dX7_rule_45 : decode cX7_rule 45 = .ok (.iconst 0, 1) := by decide +kernel
theorem dX7_rule_46 : decode cX7_rule 46 = .ok (.putfield 110, 3) := by decide +kernel
theorem dX7_rule_49 : decode cX7_rule 49 = .ok (.iload_n 1, 1) := by decide +kernel
theorem dX7_rule_50 : decode cX7_rule 50 = .ok (.ifCond .lt 7, 3) := by decide +kernel
theorem dX7_rule_53 : decode cX7_rule 53 = .ok (.iconst 1, 1) := by decide +kernel
theorem dX7_rule_54 : decode cX7_rule 54 = .ok (.iload_n 1, 1) := by decide +kernel
theorem dX7_rule_55 : decode cX7_rule 55 = .ok (.iadd, 1) := by decide +kernel
theorem dX7_rule_56 : decode cX7_rule 56 = .ok (.ireturn, 1) := by decide +kernel
theorem dX7_rule_57 : decode cX7_rule 57 = .ok (.aload_n 0, 1) := by decide +kernel
theorem dX7_rule_58 : decode cX7_rule 58 = .ok (.dup, 1) := by decide +kernel
theorem dX7_rule_59 : decode cX7_rule 59 = .ok (.getfield 141, 3) := by decide +kernel
theorem dX7_rule_62 : decode cX7_rule 62 = .ok (.iconst 1, 1) := by decide +kernel
theorem dX7_rule_63 : decode cX7_rule 63 = .ok (.iadd, 1) := by decide +kernel
theorem dX7_rule_64 : decode cX7_rule 64 = .ok (.putfield 141, 3) := by decide +kernel
theorem dX7_rule_67 : decode cX7_rule 67 = .ok (.iconst 0, 1) := by decide +kernel
theorem dX7_rule_68 : decode cX7_rule 68 = .ok (.ireturn, 1) := by decide +kernel
theorem dX7_forget_0 : decode cX7_forget 0 = .ok (.aload_n 0, 1) := by decide +kernel
theorem dX7_forget_1 : decode cX7_forget 1 = .ok (.aload_n 0, 1) := by decide +kernel
theorem dX7_forget_2 : decode cX7_forget 2 = .ok (.getfield 105, 3) := by decide +kernel
theorem dX7_forget_5 : decode cX7_forget 5 = .ok (.iconst 2, 1) := by decide +kernel
theorem dX7_forget_6 : decode cX7_forget 6 = .ok (.if_icmp .ge 7, 3) := by decide +kernel
theorem dX7_forget_9 : decode cX7_forget 9 = .ok (.iconst 1, 1) := by decide +kernel
theorem dX7_forget_10 : decode cX7_forget 10 = .ok (.goto 4, 3) := by decide +kernel
theorem dX7_forget_13 : decode cX7_forget 13 = .ok (.iconst 0, 1) := by decide +kernel
theorem dX7_forget_14 : decode cX7_forget 14 = .ok (.putfield 88, 3) := by decide +kernel
theorem dX7_forget_17 : decode cX7_forget 17 = .ok (.aload_n 0, 1) := by decide +kernel
theorem dX7_forget_18 : decode cX7_forget 18 = .ok (.getfield 88, 3) := by decide +kernel
theorem dX7_forget_21 : decode cX7_forget 21 = .ok (.ifCond .le 5, 3) := by decide +kernel
theorem dX7_forget_24 : decode cX7_forget 24 = .ok (.iconst 0, 1) := by decide +kernel
theorem dX7_forget_25 : decode cX7_forget 25 = .ok (.ireturn, 1) := by decide +kernel
theorem dX7_forget_26 : decode cX7_forget 26 = .ok (.aload_n 0, 1) := by decide +kernel
theorem dX7_forget_27 : decode cX7_forget 27 = .ok (.getfield 141, 3) := by decide +kernel
theorem dX7_forget_30 : decode cX7_forget 30 = .ok (.istore_n 1, 1) := by decide +kernel
theorem dX7_forget_31 : decode cX7_forget 31 = .ok (.aload_n 0, 1) := by decide +kernel
theorem dX7_forget_32 : decode cX7_forget 32 = .ok (.iconst 0, 1) := by decide +kernel
theorem dX7_forget_33 : decode cX7_forget 33 = .ok (.putfield 141, 3) := by decide +kernel
theorem dX7_forget_36 : decode cX7_forget 36 = .ok (.iconst 0, 1) := by decide +kernel
theorem dX7_forget_37 : decode cX7_forget 37 = .ok (.istore_n 2, 1) := by decide +kernel
theorem dX7_forget_38 : decode cX7_forget 38 = .ok (.iload_n 2, 1) := by decide +kernel
theorem dX7_forget_39 : decode cX7_forget 39 = .ok (.bipush 6, 2) := by decide +kernel
theorem dX7_forget_41 : decode cX7_forget 41 = .ok (.if_icmp .ge 16, 3) := by decide +kernel
theorem dX7_forget_44 : decode cX7_forget 44 = .ok (.aload_n 0, 1) := by decide +kernel
theorem dX7_forget_45 : decode cX7_forget 45 = .ok (.getfield 72, 3) := by decide +kernel
theorem dX7_forget_48 : decode cX7_forget 48 = .ok (.iload_n 2, 1) := by decide +kernel
theorem dX7_forget_49 : decode cX7_forget 49 = .ok (.iconst 0, 1) := by decide +kernel
theorem dX7_forget_50 : decode cX7_forget 50 = .ok (.bastore, 1) := by decide +kernel
theorem dX7_forget_51 : decode cX7_forget 51 = .ok (.iinc 2 1, 3) := by decide +kernel
theorem dX7_forget_54 : decode cX7_forget 54 = .ok (.goto (-16), 3) := by decide +kernel
theorem dX7_forget_57 : decode cX7_forget 57 = .ok (.iload_n 1, 1) := by decide +kernel
theorem dX7_forget_58 : decode cX7_forget 58 = .ok (.ireturn, 1) := by decide +kernel
theorem dX7_note_0 : decode cX7_note 0 = .ok (.bipush 47, 2) := by decide +kernel
theorem dX7_note_2 : decode cX7_note 2 = .ok (.istore_n 3, 1) := by decide +kernel
theorem dX7_note_3 : decode cX7_note 3 = .ok (.iload_n 3, 1) := by decide +kernel
theorem dX7_note_4 : decode cX7_note 4 = .ok (.iconst 2, 1) := by decide +kernel
theorem dX7_note_5 : decode cX7_note 5 = .ok (.if_icmp .le 23, 3) := by decide +kernel
theorem dX7_note_8 : decode cX7_note 8 = .ok (.aload_n 0, 1) := by decide +kernel
theorem dX7_note_9 : decode cX7_note 9 = .ok (.getfield 79, 3) := by decide +kernel
theorem dX7_note_12 : decode cX7_note 12 = .ok (.iload_n 3, 1) := by decide +kernel
theorem dX7_note_13 : decode cX7_note 13 = .ok (.aload_n 0, 1) := by decide +kernel
theorem dX7_note_14 : decode cX7_note 14 = .ok (.getfield 79, 3) := by decide +kernel
theorem dX7_note_17 : decode cX7_note 17 = .ok (.iload_n 3, 1) := by decide +kernel
theorem dX7_note_18 : decode cX7_note 18 = .ok (.iconst 3, 1) := by decide +kernel
theorem dX7_note_19 : decode cX7_note 19 = .ok (.isub, 1) := by decide +kernel
theorem dX7_note_20 : decode cX7_note 20 = .ok (.iaload, 1) := by decide +kernel
theorem dX7_note_21 : decode cX7_note 21 = .ok (.iastore, 1) := by decide +kernel
theorem dX7_note_22 : decode cX7_note 22 = .ok (.iinc 3 (-1), 3) := by decide +kernel
theorem dX7_note_25 : decode cX7_note 25 = .ok (.goto (-22), 3) := by decide +kernel
theorem dX7_note_28 : decode cX7_note 28 = .ok (.aload_n 0, 1) := by decide +kernel
theorem dX7_note_29 : decode cX7_note 29 = .ok (.getfield 79, 3) := by decide +kernel
theorem dX7_note_32 : decode cX7_note 32 = .ok (.iconst 0, 1) := by decide +kernel
theorem dX7_note_33 : decode cX7_note 33 = .ok (.iload_n 1, 1) := by decide +kernel
theorem dX7_note_34 : decode cX7_note 34 = .ok (.iastore, 1) := by decide +kernel
theorem dX7_note_35 : decode cX7_note 35 = .ok (.aload_n 0, 1) := by decide +kernel
theorem dX7_note_36 : decode cX7_note 36 = .ok (.getfield 79, 3) := by decide +kernel
theorem dX7_note_39 : decode cX7_note 39 = .ok (.iconst 1, 1) := by decide +kernel
theorem dX7_note_40 : decode cX7_note 40 = .ok (.iload_n 2, 1) := by decide +kernel
theorem dX7_note_41 : decode cX7_note 41 = .ok (.iastore, 1) := by decide +kernel
theorem dX7_note_42 : decode cX7_note 42 = .ok (.aload_n 0, 1) := by decide +kernel
theorem dX7_note_43 : decode cX7_note 43 = .ok (.getfield 79, 3) := by decide +kernel
theorem dX7_note_46 : decode cX7_note 46 = .ok (.iconst 2, 1) := by decide +kernel
theorem dX7_note_47 : decode cX7_note 47 = .ok (.aload_n 0, 1) := by decide +kernel
theorem dX7_note_48 : decode cX7_note 48 = .ok (.getfield 148, 3) := by decide +kernel
theorem dX7_note_51 : decode cX7_note 51 = .ok (.iastore, 1) := by decide +kernel
theorem dX7_note_52 : decode cX7_note 52 = .ok (.aload_n 0, 1) := by decide +kernel
theorem dX7_note_53 : decode cX7_note 53 = .ok (.aload_n 0, 1) := by decide +kernel
theorem dX7_note_54 : decode cX7_note 54 = .ok (.getfield 151, 3) := by decide +kernel
theorem dX7_note_57 : decode cX7_note 57 = .ok (.bipush 16, 2) := by decide +kernel
theorem dX7_note_59 : decode cX7_note 59 = .ok (.if_icmp .ge 12, 3) := by decide +kernel
theorem dX7_note_62 : decode cX7_note 62 = .ok (.aload_n 0, 1) := by decide +kernel
theorem dX7_note_63 : decode cX7_note 63 = .ok (.getfield 151, 3) := by decide +kernel
theorem dX7_note_66 : decode cX7_note 66 = .ok (.iconst 1, 1) := by decide +kernel
theorem dX7_note_67 : decode cX7_note 67 = .ok (.iadd, 1) := by decide +kernel
theorem dX7_note_68 : decode cX7_note 68 = .ok (.goto 5, 3) := by decide +kernel
theorem dX7_note_71 : decode cX7_note 71 = .ok (.bipush 16, 2) := by decide +kernel
theorem dX7_note_73 : decode cX7_note 73 = .ok (.putfield 151, 3) := by decide +kernel
theorem dX7_note_76 : decode cX7_note 76 = .ok (.return_, 1) := by decide +kernel
set_option maxRecDepth 20000 in
theorem ggX7_warns_X7_isSensor : GoodIn wsX7_warns wsX7_isSensor := goodIn_r _ [12, 4, 13, 14, 11, 15, 16, 17, 18, 19, 20, 21, 22, 23, 24, 25, 26, 27, 28, 29, 30, 31, 32, 33, 34, 35, 36, 37, 38, 39, 40, 41, 42, 43, 44, 45, 46, 47, 48, 49] (by decide +kernel) (by decide +kernel)
set_option maxRecDepth 20000 in
theorem gX7_warns_X7_isSensor : GoodIn wsX7_warns (wsV RX7 154 RX7 yX7_isSensor wsX7_isSensor) := goodIn_app (goodIn_of _ (by decide +kernel)) ggX7_warns_X7_isSensor
theorem dX7_warns_0 : decode cX7_warns 0 = .ok (.iconst 0, 1) := by decide +kernel
theorem dX7_warns_1 : decode cX7_warns 1 = .ok (.istore_n 2, 1) := by decide +kernel
theorem dX7_warns_2 : decode cX7_warns 2 = .ok (.iconst 0, 1) := by decide +kernel
theorem dX7_warns_3 : decode cX7_warns 3 = .ok (.istore_n 3, 1) := by decide +kernel
theorem dX7_warns_4 : decode cX7_warns 4 = .ok (.iload_n 3, 1) := by decide +kernel
theorem dX7_warns_5 : decode cX7_warns 5 = .ok (.bipush 16, 2) := by decide +kernel
theorem dX7_warns_7 : decode cX7_warns 7 = .ok (.if_icmp .ge 96, 3) := by decide +kernel
theorem dX7_warns_10 : decode cX7_warns 10 = .ok (.aload_n 0, 1) := by decide +kernel
theorem dX7_warns_11 : decode cX7_warns 11 = .ok (.iload_n 3, 1) := by decide +kernel
theorem dX7_warns_12 : decode cX7_warns 12 = .ok (.invokevirtual 154, 3) := by decide +kernel
theorem dX7_warns_15 : decode cX7_warns 15 = .ok (.ifCond .eq 26, 3) := by decide +kernel
theorem dX7_warns_18 : decode cX7_warns 18 = .ok (.aload_n 0, 1) := by decide +kernel
theorem dX7_warns_19 : decode cX7_warns 19 = .ok (.getfield 16, 3) := by decide +kernel
theorem dX7_warns_22 : decode cX7_warns 22 = .ok (.iload_n 3, 1) := by decide +kernel
theorem dX7_warns_23 : decode cX7_warns 23 = .ok (.iaload, 1) := by decide +kernel
theorem dX7_warns_24 : decode cX7_warns 24 = .ok (.iload_n 1, 1) := by decide +kernel
theorem dX7_warns_25 : decode cX7_warns 25 = .ok (.if_icmp .ne 16, 3) := by decide +kernel
theorem dX7_warns_28 : decode cX7_warns 28 = .ok (.aload_n 0, 1) := by decide +kernel
theorem dX7_warns_29 : decode cX7_warns 29 = .ok (.getfield 45, 3) := by decide +kernel
theorem dX7_warns_32 : decode cX7_warns 32 = .ok (.iload_n 3, 1) := by decide +kernel
theorem dX7_warns_33 : decode cX7_warns 33 = .ok (.baload, 1) := by decide +kernel
theorem dX7_warns_34 : decode cX7_warns 34 = .ok (.ifCond .ne 7, 3) := by decide +kernel
theorem dX7_warns_37 : decode cX7_warns 37 = .ok (.iconst 1, 1) := by decide +kernel
theorem dX7_warns_38 : decode cX7_warns 38 = .ok (.goto 4, 3) := by decide +kernel
theorem dX7_warns_41 : decode cX7_warns 41 = .ok (.iconst 0, 1) := by decide +kernel
theorem dX7_warns_42 : decode cX7_warns 42 = .ok (.istore 4, 2) := by decide +kernel
theorem dX7_warns_44 : decode cX7_warns 44 = .ok (.iload_n 2, 1) := by decide +kernel
theorem dX7_warns_45 : decode cX7_warns 45 = .ok (.ifCond .ne 46, 3) := by decide +kernel
theorem dX7_warns_48 : decode cX7_warns 48 = .ok (.iload 4, 2) := by decide +kernel
theorem dX7_warns_50 : decode cX7_warns 50 = .ok (.ifCond .eq 45, 3) := by decide +kernel
theorem dX7_warns_53 : decode cX7_warns 53 = .ok (.aload_n 0, 1) := by decide +kernel
theorem dX7_warns_54 : decode cX7_warns 54 = .ok (.getfield 35, 3) := by decide +kernel
theorem dX7_warns_57 : decode cX7_warns 57 = .ok (.iload_n 3, 1) := by decide +kernel
theorem dX7_warns_58 : decode cX7_warns 58 = .ok (.baload, 1) := by decide +kernel
theorem dX7_warns_59 : decode cX7_warns 59 = .ok (.ifCond .ne 32, 3) := by decide +kernel
theorem dX7_warns_62 : decode cX7_warns 62 = .ok (.aload_n 0, 1) := by decide +kernel
theorem dX7_warns_63 : decode cX7_warns 63 = .ok (.getfield 13, 3) := by decide +kernel
theorem dX7_warns_66 : decode cX7_warns 66 = .ok (.iload_n 3, 1) := by decide +kernel
theorem dX7_warns_67 : decode cX7_warns 67 = .ok (.iaload, 1) := by decide +kernel
theorem dX7_warns_68 : decode cX7_warns 68 = .ok (.iconst 1, 1) := by decide +kernel
theorem dX7_warns_69 : decode cX7_warns 69 = .ok (.if_icmp .ne 26, 3) := by decide +kernel
theorem dX7_warns_72 : decode cX7_warns 72 = .ok (.aload_n 0, 1) := by decide +kernel
theorem dX7_warns_73 : decode cX7_warns 73 = .ok (.getfield 29, 3) := by decide +kernel
theorem dX7_warns_76 : decode cX7_warns 76 = .ok (.iload_n 3, 1) := by decide +kernel
theorem dX7_warns_77 : decode cX7_warns 77 = .ok (.faload, 1) := by decide +kernel
theorem dX7_warns_78 : decode cX7_warns 78 = .ok (.aload_n 0, 1) := by decide +kernel
theorem dX7_warns_79 : decode cX7_warns 79 = .ok (.getfield 19, 3) := by decide +kernel
theorem dX7_warns_82 : decode cX7_warns 82 = .ok (.iload_n 3, 1) := by decide +kernel
theorem dX7_warns_83 : decode cX7_warns 83 = .ok (.faload, 1) := by decide +kernel
theorem dX7_warns_84 : decode cX7_warns 84 = .ok (.ldc 157, 2) := by decide +kernel
theorem dX7_warns_86 : decode cX7_warns 86 = .ok (.fmul, 1) := by decide +kernel
theorem dX7_warns_87 : decode cX7_warns 87 = .ok (.fcmp .l, 1) := by decide +kernel
theorem dX7_warns_88 : decode cX7_warns 88 = .ok (.ifCond .lt 7, 3) := by decide +kernel
theorem dX7_warns_91 : decode cX7_warns 91 = .ok (.iconst 1, 1) := by decide +kernel
theorem dX7_warns_92 : decode cX7_warns 92 = .ok (.goto 4, 3) := by decide +kernel
theorem dX7_warns_95 : decode cX7_warns 95 = .ok (.iconst 0, 1) := by decide +kernel
theorem dX7_warns_96 : decode cX7_warns 96 = .ok (.istore_n 2, 1) := by decide +kernel
theorem dX7_warns_97 : decode cX7_warns 97 = .ok (.iinc 3 1, 3) := by decide +kernel
theorem dX7_warns_100 : decode cX7_warns 100 = .ok (.goto (-96), 3) := by decide +kernel
theorem dX7_warns_103 : decode cX7_warns 103 = .ok (.iload_n 2, 1) := by decide +kernel
theorem dX7_warns_104 : decode cX7_warns 104 = .ok (.ireturn, 1) := by decide +kernel
theorem dX7_faults_0 : decode cX7_faults 0 = .ok (.iconst 0, 1) := by decide +kernel
theorem dX7_faults_1 : decode cX7_faults 1 = .ok (.istore_n 1, 1) := by decide +kernel
theorem dX7_faults_2 : decode cX7_faults 2 = .ok (.iconst 0, 1) := by decide +kernel
theorem dX7_faults_3 : decode cX7_faults 3 = .ok (.istore_n 2, 1) := by decide +kernel
theorem dX7_faults_4 : decode cX7_faults 4 = .ok (.iload_n 2, 1) := by decide +kernel
theorem dX7_faults_5 : decode cX7_faults 5 = .ok (.bipush 16, 2) := by decide +kernel
theorem dX7_faults_7 : decode cX7_faults 7 = .ok (.if_icmp .ge 26, 3) := by decide +kernel
theorem dX7_faults_10 : decode cX7_faults 10 = .ok (.aload_n 0, 1) := by decide +kernel
theorem dX7_faults_11 : decode cX7_faults 11 = .ok (.getfield 42, 3) := by decide +kernel
theorem dX7_faults_14 : decode cX7_faults 14 = .ok (.iload_n 2, 1) := by decide +kernel
theorem dX7_faults_15 : decode cX7_faults 15 = .ok (.baload, 1) := by decide +kernel
theorem dX7_faults_16 : decode cX7_faults 16 = .ok (.ifCond .eq 9, 3) := by decide +kernel
theorem dX7_faults_19 : decode cX7_faults 19 = .ok (.iload_n 1, 1) := by decide +kernel
theorem dX7_faults_20 : decode cX7_faults 20 = .ok (.iconst 1, 1) := by decide +kernel
theorem dX7_faults_21 : decode cX7_faults 21 = .ok (.iadd, 1) := by decide +kernel
theorem dX7_faults_22 : decode cX7_faults 22 = .ok (.goto 4, 3) := by decide +kernel
theorem dX7_faults_25 : decode cX7_faults 25 = .ok (.iload_n 1, 1) := by decide +kernel
theorem dX7_faults_26 : decode cX7_faults 26 = .ok (.istore_n 1, 1) := by decide +kernel
theorem dX7_faults_27 : decode cX7_faults 27 = .ok (.iinc 2 1, 3) := by decide +kernel
theorem dX7_faults_30 : decode cX7_faults 30 = .ok (.goto (-26), 3) := by decide +kernel
theorem dX7_faults_33 : decode cX7_faults 33 = .ok (.iload_n 1, 1) := by decide +kernel
theorem dX7_faults_34 : decode cX7_faults 34 = .ok (.ireturn, 1) := by decide +kernel
theorem dX7_sense_0 : decode cX7_sense 0 = .ok (.aload_n 0, 1) := by decide +kernel
theorem dX7_sense_1 : decode cX7_sense 1 = .ok (.getfield 23, 3) := by decide +kernel
theorem dX7_sense_4 : decode cX7_sense 4 = .ok (.iload_n 1, 1) := by decide +kernel
theorem dX7_sense_5 : decode cX7_sense 5 = .ok (.faload, 1) := by decide +kernel
theorem dX7_sense_6 : decode cX7_sense 6 = .ok (.fstore_n 2, 1) := by decide +kernel
theorem dX7_sense_7 : decode cX7_sense 7 = .ok (.aload_n 0, 1) := by decide +kernel
theorem dX7_sense_8 : decode cX7_sense 8 = .ok (.getfield 13, 3) := by decide +kernel
theorem dX7_sense_11 : decode cX7_sense 11 = .ok (.iload_n 1, 1) := by decide +kernel
theorem dX7_sense_12 : decode cX7_sense 12 = .ok (.iaload, 1) := by decide +kernel
theorem dX7_sense_13 : decode cX7_sense 13 = .ok (.iconst 3, 1) := by decide +kernel
theorem dX7_sense_14 : decode cX7_sense 14 = .ok (.if_icmp .ne 35, 3) := by decide +kernel
theorem dX7_sense_17 : decode cX7_sense 17 = .ok (.aload_n 0, 1) := by decide +kernel
theorem dX7_sense_18 : decode cX7_sense 18 = .ok (.getfield 32, 3) := by decide +kernel
theorem dX7_sense_21 : decode cX7_sense 21 = .ok (.iload_n 1, 1) := by decide +kernel
theorem dX7_sense_22 : decode cX7_sense 22 = .ok (.fload_n 2, 1) := by decide +kernel
theorem dX7_sense_23 : decode cX7_sense 23 = .ok (.fconst 0, 1) := by decide +kernel
theorem dX7_sense_24 : decode cX7_sense 24 = .ok (.fcmp .l, 1) := by decide +kernel
theorem dX7_sense_25 : decode cX7_sense 25 = .ok (.ifCond .le 7, 3) := by decide +kernel
theorem dX7_sense_28 : decode cX7_sense 28 = .ok (.iconst 3, 1) := by decide +kernel
theorem dX7_sense_29 : decode cX7_sense 29 = .ok (.goto 9, 3) := by decide +kernel
theorem dX7_sense_32 : decode cX7_sense 32 = .ok (.aload_n 0, 1) := by decide +kernel
theorem dX7_sense_33 : decode cX7_sense 33 = .ok (.getfield 32, 3) := by decide +kernel
theorem dX7_sense_36 : decode cX7_sense 36 = .ok (.iload_n 1, 1) := by decide +kernel
theorem dX7_sense_37 : decode cX7_sense 37 = .ok (.iaload, 1) := by decide +kernel
theorem dX7_sense_38 : decode cX7_sense 38 = .ok (.iastore, 1) := by decide +kernel
theorem dX7_sense_39 : decode cX7_sense 39 = .ok (.aload_n 0, 1) := by decide +kernel
theorem dX7_sense_40 : decode cX7_sense 40 = .ok (.getfield 29, 3) := by decide +kernel
theorem dX7_sense_43 : decode cX7_sense 43 = .ok (.iload_n 1, 1) := by decide +kernel
theorem dX7_sense_44 : decode cX7_sense 44 = .ok (.fload_n 2, 1) := by decide +kernel
theorem dX7_sense_45 : decode cX7_sense 45 = .ok (.fastore, 1) := by decide +kernel
theorem dX7_sense_46 : decode cX7_sense 46 = .ok (.goto 138, 3) := by decide +kernel
theorem dX7_sense_49 : decode cX7_sense 49 = .ok (.fload_n 2, 1) := by decide +kernel
theorem dX7_sense_50 : decode cX7_sense 50 = .ok (.aload_n 0, 1) := by decide +kernel
theorem dX7_sense_51 : decode cX7_sense 51 = .ok (.getfield 26, 3) := by decide +kernel
theorem dX7_sense_54 : decode cX7_sense 54 = .ok (.iload_n 1, 1) := by decide +kernel
theorem dX7_sense_55 : decode cX7_sense 55 = .ok (.faload, 1) := by decide +kernel
theorem dX7_sense_56 : decode cX7_sense 56 = .ok (.fsub, 1) := by decide +kernel
theorem dX7_sense_57 : decode cX7_sense 57 = .ok (.fstore_n 3, 1) := by decide +kernel
theorem dX7_sense_58 : decode cX7_sense 58 = .ok (.aload_n 0, 1) := by decide +kernel
theorem dX7_sense_59 : decode cX7_sense 59 = .ok (.getfield 29, 3) := by decide +kernel
theorem dX7_sense_62 : decode cX7_sense 62 = .ok (.iload_n 1, 1) := by decide +kernel
theorem dX7_sense_63 : decode cX7_sense 63 = .ok (.aload_n 0, 1) := by decide +kernel
theorem dX7_sense_64 : decode cX7_sense 64 = .ok (.getfield 13, 3) := by decide +kernel
theorem dX7_sense_67 : decode cX7_sense 67 = .ok (.iload_n 1, 1) := by decide +kernel
theorem dX7_sense_68 : decode cX7_sense 68 = .ok (.iaload, 1) := by decide +kernel
theorem dX7_sense_69 : decode cX7_sense 69 = .ok (.iconst 1, 1) := by decide +kernel
theorem dX7_sense_70 : decode cX7_sense 70 = .ok (.if_icmp .ne 24, 3) := by decide +kernel
theorem dX7_sense_73 : decode cX7_sense 73 = .ok (.aload_n 0, 1) := by decide +kernel
theorem dX7_sense_74 : decode cX7_sense 74 = .ok (.getfield 29, 3) := by decide +kernel
theorem dX7_sense_77 : decode cX7_sense 77 = .ok (.iload_n 1, 1) := by decide +kernel
theorem dX7_sense_78 : decode cX7_sense 78 = .ok (.faload, 1) := by decide +kernel
theorem dX7_sense_79 : decode cX7_sense 79 = .ok (.fload_n 3, 1) := by decide +kernel
theorem dX7_sense_80 : decode cX7_sense 80 = .ok (.aload_n 0, 1) := by decide +kernel
theorem dX7_sense_81 : decode cX7_sense 81 = .ok (.getfield 29, 3) := by decide +kernel
theorem dX7_sense_84 : decode cX7_sense 84 = .ok (.iload_n 1, 1) := by decide +kernel
theorem dX7_sense_85 : decode cX7_sense 85 = .ok (.faload, 1) := by decide +kernel
theorem dX7_sense_86 : decode cX7_sense 86 = .ok (.fsub, 1) := by decide +kernel
theorem dX7_sense_87 : decode cX7_sense 87 = .ok (.ldc 103, 2) := by decide +kernel
theorem dX7_sense_89 : decode cX7_sense 89 = .ok (.fmul, 1) := by decide +kernel
theorem dX7_sense_90 : decode cX7_sense 90 = .ok (.fadd, 1) := by decide +kernel
theorem dX7_sense_91 : decode cX7_sense 91 = .ok (.goto 12, 3) := by decide +kernel
theorem dX7_sense_94 : decode cX7_sense 94 = .ok (.fload_n 3, 1) := by decide +kernel
theorem dX7_sense_95 : decode cX7_sense 95 = .ok (.ldc 158, 2) := by decide +kernel
theorem dX7_sense_97 : decode cX7_sense 97 = .ok (.fmul, 1) := by decide +kernel
theorem dX7_sense_98 : decode cX7_sense 98 = .ok (.fload_n 2, 1) := by decide +kernel
theorem dX7_sense_99 : decode cX7_sense 99 = .ok (.ldc 159, 2) := by decide +kernel
theorem dX7_sense_101 : decode cX7_sense 101 = .ok (.fmul, 1) := by decide +kernel
theorem dX7_sense_102 : decode cX7_sense 102 = .ok (.fadd, 1) := by decide +kernel
theorem dX7_sense_103 : decode cX7_sense 103 = .ok (.fastore, 1) := by decide +kernel
theorem dX7_sense_104 : decode cX7_sense 104 = .ok (.aload_n 0, 1) := by decide +kernel
theorem dX7_sense_105 : decode cX7_sense 105 = .ok (.getfield 32, 3) := by decide +kernel
theorem dX7_sense_108 : decode cX7_sense 108 = .ok (.iload_n 1, 1) := by decide +kernel
theorem dX7_sense_109 : decode cX7_sense 109 = .ok (.aload_n 0, 1) := by decide +kernel
theorem dX7_sense_110 : decode cX7_sense 110 = .ok (.getfield 29, 3) := by decide +kernel
theorem dX7_sense_113 : decode cX7_sense 113 = .ok (.iload_n 1, 1) := by decide +kernel
theorem dX7_sense_114 : decode cX7_sense 114 = .ok (.faload, 1) := by decide +kernel
theorem dX7_sense_115 : decode cX7_sense 115 = .ok (.aload_n 0, 1) := by decide +kernel
theorem dX7_sense_116 : decode cX7_sense 116 = .ok (.getfield 19, 3) := by decide +kernel
theorem dX7_sense_119 : decode cX7_sense 119 = .ok (.iload_n 1, 1) := by decide +kernel
theorem dX7_sense_120 : decode cX7_sense 120 = .ok (.faload, 1) := by decide +kernel
theorem dX7_sense_121 : decode cX7_sense 121 = .ok (.fcmp .l, 1) := by decide +kernel
theorem dX7_sense_122 : decode cX7_sense 122 = .ok (.ifCond .lt 14, 3) := by decide +kernel
theorem dX7_sense_125 : decode cX7_sense 125 = .ok (.aload_n 0, 1) := by decide +kernel
theorem dX7_sense_126 : decode cX7_sense 126 = .ok (.getfield 32, 3) := by decide +kernel
theorem dX7_sense_129 : decode cX7_sense 129 = .ok (.iload_n 1, 1) := by decide +kernel
theorem dX7_sense_130 : decode cX7_sense 130 = .ok (.iaload, 1) := by decide +kernel
theorem dX7_sense_131 : decode cX7_sense 131 = .ok (.iconst 1, 1) := by decide +kernel
theorem dX7_sense_132 : decode cX7_sense 132 = .ok (.iadd, 1) := by decide +kernel
theorem dX7_sense_133 : decode cX7_sense 133 = .ok (.goto 4, 3) := by decide +kernel
theorem dX7_sense_136 : decode cX7_sense 136 = .ok (.iconst 0, 1) := by decide +kernel
theorem dX7_sense_137 : decode cX7_sense 137 = .ok (.iastore, 1) := by decide +kernel
theorem dX7_sense_138 : decode cX7_sense 138 = .ok (.aload_n 0, 1) := by decide +kernel
theorem dX7_sense_139 : decode cX7_sense 139 = .ok (.getfield 13, 3) := by decide +kernel
theorem dX7_sense_142 : decode cX7_sense 142 = .ok (.iload_n 1, 1) := by decide +kernel
theorem dX7_sense_143 : decode cX7_sense 143 = .ok (.iaload, 1) := by decide +kernel
theorem dX7_sense_144 : decode cX7_sense 144 = .ok (.iconst 2, 1) := by decide +kernel
theorem dX7_sense_145 : decode cX7_sense 145 = .ok (.if_icmp .ne 13, 3) := by decide +kernel
theorem dX7_sense_148 : decode cX7_sense 148 = .ok (.aload_n 0, 1) := by decide +kernel
theorem dX7_sense_149 : decode cX7_sense 149 = .ok (.getfield 26, 3) := by decide +kernel
theorem dX7_sense_152 : decode cX7_sense 152 = .ok (.iload_n 1, 1) := by decide +kernel
theorem dX7_sense_153 : decode cX7_sense 153 = .ok (.fload_n 2, 1) := by decide +kernel
theorem dX7_sense_154 : decode cX7_sense 154 = .ok (.fastore, 1) := by decide +kernel
theorem dX7_sense_155 : decode cX7_sense 155 = .ok (.goto 29, 3) := by decide +kernel
theorem dX7_sense_158 : decode cX7_sense 158 = .ok (.aload_n 0, 1) := by decide +kernel
theorem dX7_sense_159 : decode cX7_sense 159 = .ok (.getfield 32, 3) := by decide +kernel
theorem dX7_sense_162 : decode cX7_sense 162 = .ok (.iload_n 1, 1) := by decide +kernel
theorem dX7_sense_163 : decode cX7_sense 163 = .ok (.iaload, 1) := by decide +kernel
theorem dX7_sense_164 : decode cX7_sense 164 = .ok (.ifCond .ne 20, 3) := by decide +kernel
theorem dX7_sense_167 : decode cX7_sense 167 = .ok (.aload_n 0, 1) := by decide +kernel
theorem dX7_sense_168 : decode cX7_sense 168 = .ok (.getfield 26, 3) := by decide +kernel
theorem dX7_sense_171 : decode cX7_sense 171 = .ok (.iload_n 1, 1) := by decide +kernel
theorem dX7_sense_172 : decode cX7_sense 172 = .ok (.aload_n 0, 1) := by decide +kernel
theorem dX7_sense_173 : decode cX7_sense 173 = .ok (.getfield 26, 3) := by decide +kernel
theorem dX7_sense_176 : decode cX7_sense 176 = .ok (.iload_n 1, 1) := by decide +kernel
theorem dX7_sense_177 : decode cX7_sense 177 = .ok (.faload, 1) := by decide +kernel
theorem dX7_sense_178 : decode cX7_sense 178 = .ok (.fload_n 3, 1) := by decide +kernel
theorem dX7_sense_179 : decode cX7_sense 179 = .ok (.ldc 160, 2) := by decide +kernel
theorem dX7_sense_181 : decode cX7_sense 181 = .ok (.fmul, 1) := by decide +kernel
theorem dX7_sense_182 : decode cX7_sense 182 = .ok (.fadd, 1) := by decide +kernel
theorem dX7_sense_183 : decode cX7_sense 183 = .ok (.fastore, 1) := by decide +kernel
theorem dX7_sense_184 : decode cX7_sense 184 = .ok (.aload_n 0, 1) := by decide +kernel
theorem dX7_sense_185 : decode cX7_sense 185 = .ok (.getfield 35, 3) := by decide +kernel
theorem dX7_sense_188 : decode cX7_sense 188 = .ok (.iload_n 1, 1) := by decide +kernel
theorem dX7_sense_189 : decode cX7_sense 189 = .ok (.aload_n 0, 1) := by decide +kernel
theorem dX7_sense_190 : decode cX7_sense 190 = .ok (.getfield 35, 3) := by decide +kernel
theorem dX7_sense_193 : decode cX7_sense 193 = .ok (.iload_n 1, 1) := by decide +kernel
theorem dX7_sense_194 : decode cX7_sense 194 = .ok (.baload, 1) := by decide +kernel
theorem dX7_sense_195 : decode cX7_sense 195 = .ok (.ifCond .ne 13, 3) := by decide +kernel
theorem dX7_sense_198 : decode cX7_sense 198 = .ok (.aload_n 0, 1) := by decide +kernel
theorem dX7_sense_199 : decode cX7_sense 199 = .ok (.getfield 32, 3) := by decide +kernel
theorem dX7_sense_202 : decode cX7_sense 202 = .ok (.iload_n 1, 1) := by decide +kernel
theorem dX7_sense_203 : decode cX7_sense 203 = .ok (.iaload, 1) := by decide +kernel
theorem dX7_sense_204 : decode cX7_sense 204 = .ok (.iconst 3, 1) := by decide +kernel
theorem dX7_sense_205 : decode cX7_sense 205 = .ok (.if_icmp .lt 7, 3) := by decide +kernel
theorem dX7_sense_208 : decode cX7_sense 208 = .ok (.iconst 1, 1) := by decide +kernel
theorem dX7_sense_209 : decode cX7_sense 209 = .ok (.goto 4, 3) := by decide +kernel
theorem dX7_sense_212 : decode cX7_sense 212 = .ok (.iconst 0, 1) := by decide +kernel
theorem dX7_sense_213 : decode cX7_sense 213 = .ok (.bastore, 1) := by decide +kernel
theorem dX7_sense_214 : decode cX7_sense 214 = .ok (.return_, 1) := by decide +kernel
set_option maxRecDepth 20000 in
theorem ggX7_ask_X7_reached : GoodIn wsX7_ask wsX7_reached := goodIn_r _ [8, 9, 10, 11, 7, 12, 13, 14, 15, 16, 17, 18, 40, 41, 42, 43, 44, 45, 46, 47, 48, 49, 50, 51, 52, 53, 54, 55, 56, 57, 58, 59, 60, 61, 62, 63, 64, 65, 66, 67, 68, 69, 70, 71, 72, 73] (by decide +kernel) (by decide +kernel)
set_option maxRecDepth 20000 in
theorem gX7_ask_X7_reached : GoodIn wsX7_ask (wsV RX7 161 RX7 yX7_reached wsX7_reached) := goodIn_app (goodIn_of _ (by decide +kernel)) ggX7_ask_X7_reached
set_option maxRecDepth 20000 in
theorem ggX7_ask_X7_note : GoodIn wsX7_ask wsX7_note := goodIn_r _ [22, 23, 24, 25, 40, 41, 42, 43, 44, 45, 46, 47, 48, 49, 50, 51, 52, 53, 54, 55, 56, 57, 58, 59, 60, 61, 62, 63, 64, 65, 66, 67, 68, 69, 70, 71, 72, 73] (by decide +kernel) (by decide +kernel)
set_option maxRecDepth 20000 in
theorem gX7_ask_X7_note : GoodIn wsX7_ask (wsV RX7 164 RX7 yX7_note wsX7_note) := goodIn_app (goodIn_of _ (by decide +kernel)) ggX7_ask_X7_note
set_option maxRecDepth 20000 in
theorem ggX7_ask_X7_sense : GoodIn wsX7_ask wsX7_sense := goodIn_r _ [29, 30, 18, 31, 32, 33, 34, 35, 36, 37, 38, 39, 40, 41, 42, 43, 44, 45, 46, 47, 48, 49, 50, 51, 52, 53, 54, 55, 56, 57, 58, 59, 60, 61, 62, 63, 64, 65, 66, 67, 68, 69, 70, 71, 72, 73] (by decide +kernel) (by decide +kernel)
set_option maxRecDepth 20000 in
theorem gX7_ask_X7_sense : GoodIn wsX7_ask (wsV RX7 168 RX7 yX7_sense wsX7_sense) := goodIn_app (goodIn_of _ (by decide +kernel)) ggX7_ask_X7_sense
theorem dX7_ask_0 : decode cX7_ask 0 = .ok (.aload_n 0, 1) := by decide +kernel
theorem dX7_ask_1 : decode cX7_ask 1 = .ok (.iload_n 1, 1) := by decide +kernel
theorem dX7_ask_2 : decode cX7_ask 2 = .ok (.invokevirtual 161, 3) := by decide +kernel
theorem dX7_ask_5 : decode cX7_ask 5 = .ok (.ifCond .ne 37, 3) := by decide +kernel
theorem dX7_ask_8 : decode cX7_ask 8 = .ok (.aload_n 0, 1) := by decide +kernel
theorem dX7_ask_9 : decode cX7_ask 9 = .ok (.getfield 39, 3) := by decide +kernel
theorem dX7_ask_12 : decode cX7_ask 12 = .ok (.iload_n 1, 1) := by decide +kernel
theorem dX7_ask_13 : decode cX7_ask 13 = .ok (.dup2, 1) := by decide +kernel
theorem dX7_ask_14 : decode cX7_ask 14 = .ok (.iaload, 1) := by decide +kernel
theorem dX7_ask_15 : decode cX7_ask 15 = .ok (.iconst 1, 1) := by decide +kernel
theorem dX7_ask_16 : decode cX7_ask 16 = .ok (.iadd, 1) := by decide +kernel
theorem dX7_ask_17 : decode cX7_ask 17 = .ok (.iastore, 1) := by decide +kernel
theorem dX7_ask_18 : decode cX7_ask 18 = .ok (.aload_n 0, 1) := by decide +kernel
theorem dX7_ask_19 : decode cX7_ask 19 = .ok (.getfield 39, 3) := by decide +kernel
theorem dX7_ask_22 : decode cX7_ask 22 = .ok (.iload_n 1, 1) := by decide +kernel
theorem dX7_ask_23 : decode cX7_ask 23 = .ok (.iaload, 1) := by decide +kernel
theorem dX7_ask_24 : decode cX7_ask 24 = .ok (.iconst 2, 1) := by decide +kernel
theorem dX7_ask_25 : decode cX7_ask 25 = .ok (.if_icmp .ne 16, 3) := by decide +kernel
theorem dX7_ask_28 : decode cX7_ask 28 = .ok (.aload_n 0, 1) := by decide +kernel
theorem dX7_ask_29 : decode cX7_ask 29 = .ok (.getfield 42, 3) := by decide +kernel
theorem dX7_ask_32 : decode cX7_ask 32 = .ok (.iload_n 1, 1) := by decide +kernel
theorem dX7_ask_33 : decode cX7_ask 33 = .ok (.iconst 1, 1) := by decide +kernel
theorem dX7_ask_34 : decode cX7_ask 34 = .ok (.bastore, 1) := by decide +kernel
theorem dX7_ask_35 : decode cX7_ask 35 = .ok (.aload_n 0, 1) := by decide +kernel
theorem dX7_ask_36 : decode cX7_ask 36 = .ok (.iconst 2, 1) := by decide +kernel
theorem dX7_ask_37 : decode cX7_ask 37 = .ok (.iload_n 1, 1) := by decide +kernel
theorem dX7_ask_38 : decode cX7_ask 38 = .ok (.invokevirtual 164, 3) := by decide +kernel
theorem dX7_ask_41 : decode cX7_ask 41 = .ok (.return_, 1) := by decide +kernel
theorem dX7_ask_42 : decode cX7_ask 42 = .ok (.aload_n 0, 1) := by decide +kernel
theorem dX7_ask_43 : decode cX7_ask 43 = .ok (.getfield 39, 3) := by decide +kernel
theorem dX7_ask_46 : decode cX7_ask 46 = .ok (.iload_n 1, 1) := by decide +kernel
theorem dX7_ask_47 : decode cX7_ask 47 = .ok (.iconst 0, 1) := by decide +kernel
theorem dX7_ask_48 : decode cX7_ask 48 = .ok (.iastore, 1) := by decide +kernel
theorem dX7_ask_49 : decode cX7_ask 49 = .ok (.aload_n 0, 1) := by decide +kernel
theorem dX7_ask_50 : decode cX7_ask 50 = .ok (.getfield 42, 3) := by decide +kernel
theorem dX7_ask_53 : decode cX7_ask 53 = .ok (.iload_n 1, 1) := by decide +kernel
theorem dX7_ask_54 : decode cX7_ask 54 = .ok (.baload, 1) := by decide +kernel
theorem dX7_ask_55 : decode cX7_ask 55 = .ok (.ifCond .eq 16, 3) := by decide +kernel
theorem dX7_ask_58 : decode cX7_ask 58 = .ok (.aload_n 0, 1) := by decide +kernel
theorem dX7_ask_59 : decode cX7_ask 59 = .ok (.getfield 42, 3) := by decide +kernel
theorem dX7_ask_62 : decode cX7_ask 62 = .ok (.iload_n 1, 1) := by decide +kernel
theorem dX7_ask_63 : decode cX7_ask 63 = .ok (.iconst 0, 1) := by decide +kernel
theorem dX7_ask_64 : decode cX7_ask 64 = .ok (.bastore, 1) := by decide +kernel
theorem dX7_ask_65 : decode cX7_ask 65 = .ok (.aload_n 0, 1) := by decide +kernel
theorem dX7_ask_66 : decode cX7_ask 66 = .ok (.iconst 3, 1) := by decide +kernel
theorem dX7_ask_67 : decode cX7_ask 67 = .ok (.iload_n 1, 1) := by decide +kernel
theorem dX7_ask_68 : decode cX7_ask 68 = .ok (.invokevirtual 164, 3) := by decide +kernel
theorem dX7_ask_71 : decode cX7_ask 71 = .ok (.aload_n 0, 1) := by decide +kernel
theorem dX7_ask_72 : decode cX7_ask 72 = .ok (.getfield 45, 3) := by decide +kernel
theorem dX7_ask_75 : decode cX7_ask 75 = .ok (.iload_n 1, 1) := by decide +kernel
theorem dX7_ask_76 : decode cX7_ask 76 = .ok (.baload, 1) := by decide +kernel
theorem dX7_ask_77 : decode cX7_ask 77 = .ok (.ifCond .ne 8, 3) := by decide +kernel
theorem dX7_ask_80 : decode cX7_ask 80 = .ok (.aload_n 0, 1) := by decide +kernel
theorem dX7_ask_81 : decode cX7_ask 81 = .ok (.iload_n 1, 1) := by decide +kernel
theorem dX7_ask_82 : decode cX7_ask 82 = .ok (.invokevirtual 168, 3) := by decide +kernel
theorem dX7_ask_85 : decode cX7_ask 85 = .ok (.return_, 1) := by decide +kernel
set_option maxRecDepth 20000 in
theorem ggX7_burns_X7_isSensor : GoodIn wsX7_burns wsX7_isSensor := goodIn_r _ [12, 4, 13, 14, 11, 15, 16, 17, 18, 19, 20, 21, 22, 23, 24, 25, 26, 27, 28, 29, 30, 31, 32, 33, 34, 35, 36, 37, 38, 39, 40, 41, 42, 43, 44, 45, 46, 47, 48, 49] (by decide +kernel) (by decide +kernel)
set_option maxRecDepth 20000 in
theorem gX7_burns_X7_isSensor : GoodIn wsX7_burns (wsV RX7 154 RX7 yX7_isSensor wsX7_isSensor) := goodIn_app (goodIn_of _ (by decide +kernel)) ggX7_burns_X7_isSensor
theorem dX7_burns_0 : decode cX7_burns 0 = .ok (.iconst 0, 1) := by decide +kernel
theorem dX7_burns_1 : decode cX7_burns 1 = .ok (.istore_n 2, 1) := by decide +kernel
theorem dX7_burns_2 : decode cX7_burns 2 = .ok (.iconst 0, 1) := by decide +kernel
theorem dX7_burns_3 : decode cX7_burns 3 = .ok (.istore_n 3, 1) := by decide +kernel
theorem dX7_burns_4 : decode cX7_burns 4 = .ok (.iconst 0, 1) := by decide +kernel
theorem dX7_burns_5 : decode cX7_burns 5 = .ok (.istore 4, 2) := by decide +kernel
theorem dX7_burns_7 : decode cX7_burns 7 = .ok (.iload 4, 2) := by decide +kernel
theorem dX7_burns_9 : decode cX7_burns 9 = .ok (.bipush 16, 2) := by decide +kernel
theorem dX7_burns_11 : decode cX7_burns 11 = .ok (.if_icmp .ge 95, 3) := by decide +kernel
theorem dX7_burns_14 : decode cX7_burns 14 = .ok (.aload_n 0, 1) := by decide +kernel
theorem dX7_burns_15 : decode cX7_burns 15 = .ok (.iload 4, 2) := by decide +kernel
theorem dX7_burns_17 : decode cX7_burns 17 = .ok (.invokevirtual 154, 3) := by decide +kernel
theorem dX7_burns_20 : decode cX7_burns 20 = .ok (.ifCond .eq 38, 3) := by decide +kernel
theorem dX7_burns_23 : decode cX7_burns 23 = .ok (.aload_n 0, 1) := by decide +kernel
theorem dX7_burns_24 : decode cX7_burns 24 = .ok (.getfield 16, 3) := by decide +kernel
theorem dX7_burns_27 : decode cX7_burns 27 = .ok (.iload 4, 2) := by decide +kernel
theorem dX7_burns_29 : decode cX7_burns 29 = .ok (.iaload, 1) := by decide +kernel
theorem dX7_burns_30 : decode cX7_burns 30 = .ok (.iload_n 1, 1) := by decide +kernel
theorem dX7_burns_31 : decode cX7_burns 31 = .ok (.if_icmp .ne 27, 3) := by decide +kernel
theorem dX7_burns_34 : decode cX7_burns 34 = .ok (.aload_n 0, 1) := by decide +kernel
theorem dX7_burns_35 : decode cX7_burns 35 = .ok (.getfield 45, 3) := by decide +kernel
theorem dX7_burns_38 : decode cX7_burns 38 = .ok (.iload 4, 2) := by decide +kernel
theorem dX7_burns_40 : decode cX7_burns 40 = .ok (.baload, 1) := by decide +kernel
theorem dX7_burns_41 : decode cX7_burns 41 = .ok (.ifCond .ne 17, 3) := by decide +kernel
theorem dX7_burns_44 : decode cX7_burns 44 = .ok (.aload_n 0, 1) := by decide +kernel
theorem dX7_burns_45 : decode cX7_burns 45 = .ok (.getfield 35, 3) := by decide +kernel
theorem dX7_burns_48 : decode cX7_burns 48 = .ok (.iload 4, 2) := by decide +kernel
theorem dX7_burns_50 : decode cX7_burns 50 = .ok (.baload, 1) := by decide +kernel
theorem dX7_burns_51 : decode cX7_burns 51 = .ok (.ifCond .eq 7, 3) := by decide +kernel
theorem dX7_burns_54 : decode cX7_burns 54 = .ok (.iconst 1, 1) := by decide +kernel
theorem dX7_burns_55 : decode cX7_burns 55 = .ok (.goto 4, 3) := by decide +kernel
theorem dX7_burns_58 : decode cX7_burns 58 = .ok (.iconst 0, 1) := by decide +kernel
theorem dX7_burns_59 : decode cX7_burns 59 = .ok (.istore 5, 2) := by decide +kernel
theorem dX7_burns_61 : decode cX7_burns 61 = .ok (.iload 5, 2) := by decide +kernel
theorem dX7_burns_63 : decode cX7_burns 63 = .ok (.ifCond .eq 9, 3) := by decide +kernel
theorem dX7_burns_66 : decode cX7_burns 66 = .ok (.iload_n 2, 1) := by decide +kernel
theorem dX7_burns_67 : decode cX7_burns 67 = .ok (.iconst 1, 1) := by decide +kernel
theorem dX7_burns_68 : decode cX7_burns 68 = .ok (.iadd, 1) := by decide +kernel
theorem dX7_burns_69 : decode cX7_burns 69 = .ok (.goto 4, 3) := by decide +kernel
theorem dX7_burns_72 : decode cX7_burns 72 = .ok (.iload_n 2, 1) := by decide +kernel
theorem dX7_burns_73 : decode cX7_burns 73 = .ok (.istore_n 2, 1) := by decide +kernel
theorem dX7_burns_74 : decode cX7_burns 74 = .ok (.iload_n 3, 1) := by decide +kernel
theorem dX7_burns_75 : decode cX7_burns 75 = .ok (.ifCond .ne 19, 3) := by decide +kernel
theorem dX7_burns_78 : decode cX7_burns 78 = .ok (.iload 5, 2) := by decide +kernel
theorem dX7_burns_80 : decode cX7_burns 80 = .ok (.ifCond .eq 18, 3) := by decide +kernel
theorem dX7_burns_83 : decode cX7_burns 83 = .ok (.aload_n 0, 1) := by decide +kernel
theorem dX7_burns_84 : decode cX7_burns 84 = .ok (.getfield 13, 3) := by decide +kernel
theorem dX7_burns_87 : decode cX7_burns 87 = .ok (.iload 4, 2) := by decide +kernel
theorem dX7_burns_89 : decode cX7_burns 89 = .ok (.iaload, 1) := by decide +kernel
theorem dX7_burns_90 : decode cX7_burns 90 = .ok (.iconst 3, 1) := by decide +kernel
theorem dX7_burns_91 : decode cX7_burns 91 = .ok (.if_icmp .ne 7, 3) := by decide +kernel
theorem dX7_burns_94 : decode cX7_burns 94 = .ok (.iconst 1, 1) := by decide +kernel
theorem dX7_burns_95 : decode cX7_burns 95 = .ok (.goto 4, 3) := by decide +kernel
theorem dX7_burns_98 : decode cX7_burns 98 = .ok (.iconst 0, 1) := by decide +kernel
theorem dX7_burns_99 : decode cX7_burns 99 = .ok (.istore_n 3, 1) := by decide +kernel
theorem dX7_burns_100 : decode cX7_burns 100 = .ok (.iinc 4 1, 3) := by decide +kernel
theorem dX7_burns_103 : decode cX7_burns 103 = .ok (.goto (-96), 3) := by decide +kernel
theorem dX7_burns_106 : decode cX7_burns 106 = .ok (.aload_n 0, 1) := by decide +kernel
theorem dX7_burns_107 : decode cX7_burns 107 = .ok (.getfield 48, 3) := by decide +kernel
theorem dX7_burns_110 : decode cX7_burns 110 = .ok (.iload_n 1, 1) := by decide +kernel
theorem dX7_burns_111 : decode cX7_burns 111 = .ok (.baload, 1) := by decide +kernel
theorem dX7_burns_112 : decode cX7_burns 112 = .ok (.ifCond .ne 30, 3) := by decide +kernel
theorem dX7_burns_115 : decode cX7_burns 115 = .ok (.aload_n 0, 1) := by decide +kernel
theorem dX7_burns_116 : decode cX7_burns 116 = .ok (.getfield 54, 3) := by decide +kernel
theorem dX7_burns_119 : decode cX7_burns 119 = .ok (.iload_n 1, 1) := by decide +kernel
theorem dX7_burns_120 : decode cX7_burns 120 = .ok (.baload, 1) := by decide +kernel
theorem dX7_burns_121 : decode cX7_burns 121 = .ok (.ifCond .ne 21, 3) := by decide +kernel
theorem dX7_burns_124 : decode cX7_burns 124 = .ok (.iload_n 2, 1) := by decide +kernel
theorem dX7_burns_125 : decode cX7_burns 125 = .ok (.aload_n 0, 1) := by decide +kernel
theorem dX7_burns_126 : decode cX7_burns 126 = .ok (.getfield 51, 3) := by decide +kernel
theorem dX7_burns_129 : decode cX7_burns 129 = .ok (.iload_n 1, 1) := by decide +kernel
theorem dX7_burns_130 : decode cX7_burns 130 = .ok (.iaload, 1) := by decide +kernel
theorem dX7_burns_131 : decode cX7_burns 131 = .ok (.if_icmp .ge 7, 3) := by decide +kernel
theorem dX7_burns_134 : decode cX7_burns 134 = .ok (.iload_n 3, 1) := by decide +kernel
theorem dX7_burns_135 : decode cX7_burns 135 = .ok (.ifCond .eq 7, 3) := by decide +kernel
theorem dX7_burns_138 : decode cX7_burns 138 = .ok (.iconst 1, 1) := by decide +kernel
theorem dX7_burns_139 : decode cX7_burns 139 = .ok (.goto 4, 3) := by decide +kernel
theorem dX7_burns_142 : decode cX7_burns 142 = .ok (.iconst 0, 1) := by decide +kernel
theorem dX7_burns_143 : decode cX7_burns 143 = .ok (.ireturn, 1) := by decide +kernel
set_option maxRecDepth 20000 in
theorem ggX7_holds_X7_faults : GoodIn wsX7_holds wsX7_faults := goodIn_r _ [8, 9, 28, 29, 30, 31, 32, 33, 34, 35, 36, 37, 38, 39, 40, 41, 42, 43, 44, 45, 46, 47, 48, 49, 50, 51, 52, 53, 54, 55, 56, 57, 58, 59, 60, 61] (by decide +kernel) (by decide +kernel)
set_option maxRecDepth 20000 in
theorem gX7_holds_X7_faults : GoodIn wsX7_holds (wsV RX7 171 RX7 yX7_faults wsX7_faults) := goodIn_app (goodIn_of _ (by decide +kernel)) ggX7_holds_X7_faults
set_option maxRecDepth 20000 in
theorem ggX7_holds_X7_warns : GoodIn wsX7_holds wsX7_warns := goodIn_r _ [13, 14, 15, 16, 17, 18, 19, 20, 21, 22, 23, 7, 24, 25, 26, 27, 28, 29, 30, 31, 32, 33, 34, 35, 36, 37, 38, 39, 40, 41, 42, 43, 44, 45, 46, 47, 48, 49, 50, 51, 52, 53, 54, 55, 56, 57, 58, 59, 60, 61] (by decide +kernel) (by decide +kernel)
set_option maxRecDepth 20000 in
theorem gX7_holds_X7_warns : GoodIn wsX7_holds (wsV RX7 174 RX7 yX7_warns wsX7_warns) := goodIn_app (goodIn_of _ (by decide +kernel)) ggX7_holds_X7_warns
theorem dX7_holds_0 : decode cX7_holds 0 = .ok (.iconst 0, 1) := by decide +kernel
theorem dX7_holds_1 : decode cX7_holds 1 = .ok (.istore_n 2, 1) := by decide +kernel
theorem dX7_holds_2 : decode cX7_holds 2 = .ok (.iconst 0, 1) := by decide +kernel
theorem dX7_holds_3 : decode cX7_holds 3 = .ok (.istore_n 3, 1) := by decide +kernel
theorem dX7_holds_4 : decode cX7_holds 4 = .ok (.iload_n 3, 1) := by decide +kernel
theorem dX7_holds_5 : decode cX7_holds 5 = .ok (.aload_n 0, 1) := by decide +kernel
theorem dX7_holds_6 : decode cX7_holds 6 = .ok (.getfield 60, 3) := by decide +kernel
theorem dX7_holds_9 : decode cX7_holds 9 = .ok (.iload_n 1, 1) := by decide +kernel
theorem dX7_holds_10 : decode cX7_holds 10 = .ok (.iaload, 1) := by decide +kernel
theorem dX7_holds_11 : decode cX7_holds 11 = .ok (.if_icmp .ge 148, 3) := by decide +kernel
theorem dX7_holds_14 : decode cX7_holds 14 = .ok (.aload_n 0, 1) := by decide +kernel
theorem dX7_holds_15 : decode cX7_holds 15 = .ok (.getfield 57, 3) := by decide +kernel
theorem dX7_holds_18 : decode cX7_holds 18 = .ok (.bipush 20, 2) := by decide +kernel
theorem dX7_holds_20 : decode cX7_holds 20 = .ok (.iload_n 1, 1) := by decide +kernel
theorem dX7_holds_21 : decode cX7_holds 21 = .ok (.imul, 1) := by decide +kernel
theorem dX7_holds_22 : decode cX7_holds 22 = .ok (.iload_n 3, 1) := by decide +kernel
theorem dX7_holds_23 : decode cX7_holds 23 = .ok (.iadd, 1) := by decide +kernel
theorem dX7_holds_24 : decode cX7_holds 24 = .ok (.iaload, 1) := by decide +kernel
theorem dX7_holds_25 : decode cX7_holds 25 = .ok (.istore 4, 2) := by decide +kernel
theorem dX7_holds_27 : decode cX7_holds 27 = .ok (.iload 4, 2) := by decide +kernel
theorem dX7_holds_29 : decode cX7_holds 29 = .ok (.bipush 8, 2) := by decide +kernel
theorem dX7_holds_31 : decode cX7_holds 31 = .ok (.if_icmp .gt 69, 3) := by decide +kernel
theorem dX7_holds_34 : decode cX7_holds 34 = .ok (.iload 4, 2) := by decide +kernel
theorem dX7_holds_36 : decode cX7_holds 36 = .ok (.bipush 8, 2) := by decide +kernel
theorem dX7_holds_38 : decode cX7_holds 38 = .ok (.if_icmp .ne 18, 3) := by decide +kernel
theorem dX7_holds_41 : decode cX7_holds 41 = .ok (.aload_n 0, 1) := by decide +kernel
theorem dX7_holds_42 : decode cX7_holds 42 = .ok (.invokevirtual 171, 3) := by decide +kernel
theorem dX7_holds_45 : decode cX7_holds 45 = .ok (.ifCond .le 7, 3) := by decide +kernel
theorem dX7_holds_48 : decode cX7_holds 48 = .ok (.iconst 1, 1) := by decide +kernel
theorem dX7_holds_49 : decode cX7_holds 49 = .ok (.goto 31, 3) := by decide +kernel
theorem dX7_holds_52 : decode cX7_holds 52 = .ok (.iconst 0, 1) := by decide +kernel
theorem dX7_holds_53 : decode cX7_holds 53 = .ok (.goto 27, 3) := by decide +kernel
theorem dX7_holds_56 : decode cX7_holds 56 = .ok (.iload 4, 2) := by decide +kernel
theorem dX7_holds_58 : decode cX7_holds 58 = .ok (.iconst 4, 1) := by decide +kernel
theorem dX7_holds_59 : decode cX7_holds 59 = .ok (.if_icmp .ge 13, 3) := by decide +kernel
theorem dX7_holds_62 : decode cX7_holds 62 = .ok (.aload_n 0, 1) := by decide +kernel
theorem dX7_holds_63 : decode cX7_holds 63 = .ok (.getfield 54, 3) := by decide +kernel
theorem dX7_holds_66 : decode cX7_holds 66 = .ok (.iload 4, 2) := by decide +kernel
theorem dX7_holds_68 : decode cX7_holds 68 = .ok (.baload, 1) := by decide +kernel
theorem dX7_holds_69 : decode cX7_holds 69 = .ok (.goto 11, 3) := by decide +kernel
theorem dX7_holds_72 : decode cX7_holds 72 = .ok (.aload_n 0, 1) := by decide +kernel
theorem dX7_holds_73 : decode cX7_holds 73 = .ok (.iload 4, 2) := by decide +kernel
theorem dX7_holds_75 : decode cX7_holds 75 = .ok (.iconst 4, 1) := by decide +kernel
theorem dX7_holds_76 : decode cX7_holds 76 = .ok (.isub, 1) := by decide +kernel
theorem dX7_holds_77 : decode cX7_holds 77 = .ok (.invokevirtual 174, 3) := by decide +kernel
theorem dX7_holds_80 : decode cX7_holds 80 = .ok (.istore 5, 2) := by decide +kernel
theorem dX7_holds_82 : decode cX7_holds 82 = .ok (.iload_n 2, 1) := by decide +kernel
theorem dX7_holds_83 : decode cX7_holds 83 = .ok (.iconst 1, 1) := by decide +kernel
theorem dX7_holds_84 : decode cX7_holds 84 = .ok (.ishl, 1) := by decide +kernel
theorem dX7_holds_85 : decode cX7_holds 85 = .ok (.iload 5, 2) := by decide +kernel
theorem dX7_holds_87 : decode cX7_holds 87 = .ok (.ifCond .eq 7, 3) := by decide +kernel
theorem dX7_holds_90 : decode cX7_holds 90 = .ok (.iconst 1, 1) := by decide +kernel
theorem dX7_holds_91 : decode cX7_holds 91 = .ok (.goto 4, 3) := by decide +kernel
theorem dX7_holds_94 : decode cX7_holds 94 = .ok (.iconst 0, 1) := by decide +kernel
theorem dX7_holds_95 : decode cX7_holds 95 = .ok (.ior, 1) := by decide +kernel
theorem dX7_holds_96 : decode cX7_holds 96 = .ok (.istore_n 2, 1) := by decide +kernel
theorem dX7_holds_97 : decode cX7_holds 97 = .ok (.goto 56, 3) := by decide +kernel
theorem dX7_holds_100 : decode cX7_holds 100 = .ok (.iload 4, 2) := by decide +kernel
theorem dX7_holds_102 : decode cX7_holds 102 = .ok (.bipush 9, 2) := by decide +kernel
theorem dX7_holds_104 : decode cX7_holds 104 = .ok (.if_icmp .ne 10, 3) := by decide +kernel
theorem dX7_holds_107 : decode cX7_holds 107 = .ok (.iload_n 2, 1) := by decide +kernel
theorem dX7_holds_108 : decode cX7_holds 108 = .ok (.iconst 1, 1) := by decide +kernel
theorem dX7_holds_109 : decode cX7_holds 109 = .ok (.ixor, 1) := by decide +kernel
theorem dX7_holds_110 : decode cX7_holds 110 = .ok (.istore_n 2, 1) := by decide +kernel
theorem dX7_holds_111 : decode cX7_holds 111 = .ok (.goto 42, 3) := by decide +kernel
theorem dX7_holds_114 : decode cX7_holds 114 = .ok (.iload_n 2, 1) := by decide +kernel
theorem dX7_holds_115 : decode cX7_holds 115 = .ok (.iconst 1, 1) := by decide +kernel
theorem dX7_holds_116 : decode cX7_holds 116 = .ok (.iand, 1) := by decide +kernel
theorem dX7_holds_117 : decode cX7_holds 117 = .ok (.istore 5, 2) := by decide +kernel
theorem dX7_holds_119 : decode cX7_holds 119 = .ok (.iload_n 2, 1) := by decide +kernel
theorem dX7_holds_120 : decode cX7_holds 120 = .ok (.iconst 1, 1) := by decide +kernel
theorem dX7_holds_121 : decode cX7_holds 121 = .ok (.ishr, 1) := by decide +kernel
theorem dX7_holds_122 : decode cX7_holds 122 = .ok (.iconst 1, 1) := by decide +kernel
theorem dX7_holds_123 : decode cX7_holds 123 = .ok (.iand, 1) := by decide +kernel
theorem dX7_holds_124 : decode cX7_holds 124 = .ok (.istore 6, 2) := by decide +kernel
theorem dX7_holds_126 : decode cX7_holds 126 = .ok (.iload_n 2, 1) := by decide +kernel
theorem dX7_holds_127 : decode cX7_holds 127 = .ok (.iconst 2, 1) := by decide +kernel
theorem dX7_holds_128 : decode cX7_holds 128 = .ok (.ishr, 1) := by decide +kernel
theorem dX7_holds_129 : decode cX7_holds 129 = .ok (.iconst 1, 1) := by decide +kernel
theorem dX7_holds_130 : decode cX7_holds 130 = .ok (.ishl, 1) := by decide +kernel
theorem dX7_holds_131 : decode cX7_holds 131 = .ok (.iload 4, 2) := by decide +kernel
theorem dX7_holds_133 : decode cX7_holds 133 = .ok (.bipush 10, 2) := by decide +kernel
theorem dX7_holds_135 : decode cX7_holds 135 = .ok (.if_icmp .ne 11, 3) := by decide +kernel
theorem dX7_holds_138 : decode cX7_holds 138 = .ok (.iload 5, 2) := by decide +kernel
theorem dX7_holds_140 : decode cX7_holds 140 = .ok (.iload 6, 2) := by decide +kernel
theorem dX7_holds_142 : decode cX7_holds 142 = .ok (.iand, 1) := by decide +kernel
theorem dX7_holds_143 : decode cX7_holds 143 = .ok (.goto 8, 3) := by decide +kernel
theorem dX7_holds_146 : decode cX7_holds 146 = .ok (.iload 5, 2) := by decide +kernel
theorem dX7_holds_148 : decode cX7_holds 148 = .ok (.iload 6, 2) := by decide +kernel
theorem dX7_holds_150 : decode cX7_holds 150 = .ok (.ior, 1) := by decide +kernel
theorem dX7_holds_151 : decode cX7_holds 151 = .ok (.ior, 1) := by decide +kernel
theorem dX7_holds_152 : decode cX7_holds 152 = .ok (.istore_n 2, 1) := by decide +kernel
theorem dX7_holds_153 : decode cX7_holds 153 = .ok (.iinc 3 1, 3) := by decide +kernel
theorem dX7_holds_156 : decode cX7_holds 156 = .ok (.goto (-152), 3) := by decide +kernel
theorem dX7_holds_159 : decode cX7_holds 159 = .ok (.iload_n 2, 1) := by decide +kernel
theorem dX7_holds_160 : decode cX7_holds 160 = .ok (.iconst 1, 1) := by decide +kernel
theorem dX7_holds_161 : decode cX7_holds 161 = .ok (.iand, 1) := by decide +kernel
theorem dX7_holds_162 : decode cX7_holds 162 = .ok (.iconst 1, 1) := by decide +kernel
theorem dX7_holds_163 : decode cX7_holds 163 = .ok (.if_icmp .ne 7, 3) := by decide +kernel
theorem dX7_holds_166 : decode cX7_holds 166 = .ok (.iconst 1, 1) := by decide +kernel
theorem dX7_holds_167 : decode cX7_holds 167 = .ok (.goto 4, 3) := by decide +kernel
theorem dX7_holds_170 : decode cX7_holds 170 = .ok (.iconst 0, 1) := by decide +kernel
theorem dX7_holds_171 : decode cX7_holds 171 = .ok (.ireturn, 1) := by decide +kernel
set_option maxRecDepth 20000 in
theorem ggX7_drive_X7_holds : GoodIn wsX7_drive wsX7_holds := goodIn_r _ [10, 11, 12, 13, 14, 15, 16, 9, 17, 18, 19, 20, 21, 22, 23, 24, 25, 26, 27, 28, 29, 30, 31, 32, 33, 34, 35, 36, 44, 45, 46, 47, 48, 49, 50, 51, 52, 53, 54, 55, 56, 57, 58, 59, 60, 61, 62, 63, 64, 65, 66, 67, 68, 69, 70, 71, 72, 73, 74, 75, 76, 77] (by decide +kernel) (by decide +kernel)
set_option maxRecDepth 20000 in
theorem gX7_drive_X7_holds : GoodIn wsX7_drive (wsV RX7 177 RX7 yX7_holds wsX7_holds) := goodIn_app (goodIn_of _ (by decide +kernel)) ggX7_drive_X7_holds
set_option maxRecDepth 20000 in
theorem ggX7_drive_X7_note : GoodIn wsX7_drive wsX7_note := goodIn_r _ [40, 41, 42, 43, 44, 45, 46, 47, 48, 49, 50, 51, 52, 53, 54, 55, 56, 57, 58, 59, 60, 61, 62, 63, 64, 65, 66, 67, 68, 69, 70, 71, 72, 73, 74, 75, 76, 77] (by decide +kernel) (by decide +kernel)
set_option maxRecDepth 20000 in
theorem gX7_drive_X7_note : GoodIn wsX7_drive (wsV RX7 164 RX7 yX7_note wsX7_note) := goodIn_app (goodIn_of _ (by decide +kernel)) ggX7_drive_X7_note
theorem dX7_drive_0 : decode cX7_drive 0 = .ok (.iconst 0, 1) := by decide +kernel
theorem dX7_drive_1 : decode cX7_drive 1 = .ok (.istore_n 1, 1) := by decide +kernel
theorem dX7_drive_2 : decode cX7_drive 2 = .ok (.iload_n 1, 1) := by decide +kernel
theorem dX7_drive_3 : decode cX7_drive 3 = .ok (.aload_n 0, 1) := by decide +kernel
theorem dX7_drive_4 : decode cX7_drive 4 = .ok (.getfield 141, 3) := by decide +kernel
theorem dX7_drive_7 : decode cX7_drive 7 = .ok (.if_icmp .ge 35, 3) := by decide +kernel
theorem dX7_drive_10 : decode cX7_drive 10 = .ok (.aload_n 0, 1) := by decide +kernel
theorem dX7_drive_11 : decode cX7_drive 11 = .ok (.getfield 69, 3) := by decide +kernel
theorem dX7_drive_14 : decode cX7_drive 14 = .ok (.iload_n 1, 1) := by decide +kernel
theorem dX7_drive_15 : decode cX7_drive 15 = .ok (.aload_n 0, 1) := by decide +kernel
theorem dX7_drive_16 : decode cX7_drive 16 = .ok (.iload_n 1, 1) := by decide +kernel
theorem dX7_drive_17 : decode cX7_drive 17 = .ok (.invokevirtual 177, 3) := by decide +kernel
theorem dX7_drive_20 : decode cX7_drive 20 = .ok (.ifCond .eq 14, 3) := by decide +kernel
theorem dX7_drive_23 : decode cX7_drive 23 = .ok (.aload_n 0, 1) := by decide +kernel
theorem dX7_drive_24 : decode cX7_drive 24 = .ok (.getfield 69, 3) := by decide +kernel
theorem dX7_drive_27 : decode cX7_drive 27 = .ok (.iload_n 1, 1) := by decide +kernel
theorem dX7_drive_28 : decode cX7_drive 28 = .ok (.iaload, 1) := by decide +kernel
theorem dX7_drive_29 : decode cX7_drive 29 = .ok (.iconst 1, 1) := by decide +kernel
theorem dX7_drive_30 : decode cX7_drive 30 = .ok (.iadd, 1) := by decide +kernel
theorem dX7_drive_31 : decode cX7_drive 31 = .ok (.goto 4, 3) := by decide +kernel
theorem dX7_drive_34 : decode cX7_drive 34 = .ok (.iconst 0, 1) := by decide +kernel
theorem dX7_drive_35 : decode cX7_drive 35 = .ok (.iastore, 1) := by decide +kernel
theorem dX7_drive_36 : decode cX7_drive 36 = .ok (.iinc 1 1, 3) := by decide +kernel
theorem dX7_drive_39 : decode cX7_drive 39 = .ok (.goto (-37), 3) := by decide +kernel
theorem dX7_drive_42 : decode cX7_drive 42 = .ok (.iconst 0, 1) := by decide +kernel
theorem dX7_drive_43 : decode cX7_drive 43 = .ok (.istore_n 1, 1) := by decide +kernel
theorem dX7_drive_44 : decode cX7_drive 44 = .ok (.iload_n 1, 1) := by decide +kernel
theorem dX7_drive_45 : decode cX7_drive 45 = .ok (.bipush 6, 2) := by decide +kernel
theorem dX7_drive_47 : decode cX7_drive 47 = .ok (.if_icmp .ge 88, 3) := by decide +kernel
theorem dX7_drive_50 : decode cX7_drive 50 = .ok (.iconst 0, 1) := by decide +kernel
theorem dX7_drive_51 : decode cX7_drive 51 = .ok (.istore_n 2, 1) := by decide +kernel
theorem dX7_drive_52 : decode cX7_drive 52 = .ok (.iconst 0, 1) := by decide +kernel
theorem dX7_drive_53 : decode cX7_drive 53 = .ok (.istore_n 3, 1) := by decide +kernel
theorem dX7_drive_54 : decode cX7_drive 54 = .ok (.iload_n 3, 1) := by decide +kernel
theorem dX7_drive_55 : decode cX7_drive 55 = .ok (.aload_n 0, 1) := by decide +kernel
theorem dX7_drive_56 : decode cX7_drive 56 = .ok (.getfield 141, 3) := by decide +kernel
theorem dX7_drive_59 : decode cX7_drive 59 = .ok (.if_icmp .ge 44, 3) := by decide +kernel
theorem dX7_drive_62 : decode cX7_drive 62 = .ok (.iload_n 2, 1) := by decide +kernel
theorem dX7_drive_63 : decode cX7_drive 63 = .ok (.ifCond .ne 28, 3) := by decide +kernel
theorem dX7_drive_66 : decode cX7_drive 66 = .ok (.aload_n 0, 1) := by decide +kernel
theorem dX7_drive_67 : decode cX7_drive 67 = .ok (.getfield 63, 3) := by decide +kernel
theorem dX7_drive_70 : decode cX7_drive 70 = .ok (.iload_n 3, 1) := by decide +kernel
theorem dX7_drive_71 : decode cX7_drive 71 = .ok (.iaload, 1) := by decide +kernel
theorem dX7_drive_72 : decode cX7_drive 72 = .ok (.iload_n 1, 1) := by decide +kernel
theorem dX7_drive_73 : decode cX7_drive 73 = .ok (.if_icmp .ne 22, 3) := by decide +kernel
theorem dX7_drive_76 : decode cX7_drive 76 = .ok (.aload_n 0, 1) := by decide +kernel
theorem dX7_drive_77 : decode cX7_drive 77 = .ok (.getfield 69, 3) := by decide +kernel
theorem dX7_drive_80 : decode cX7_drive 80 = .ok (.iload_n 3, 1) := by decide +kernel
theorem dX7_drive_81 : decode cX7_drive 81 = .ok (.iaload, 1) := by decide +kernel
theorem dX7_drive_82 : decode cX7_drive 82 = .ok (.aload_n 0, 1) := by decide +kernel
theorem dX7_drive_83 : decode cX7_drive 83 = .ok (.getfield 66, 3) := by decide +kernel
theorem dX7_drive_86 : decode cX7_drive 86 = .ok (.iload_n 3, 1) := by decide +kernel
theorem dX7_drive_87 : decode cX7_drive 87 = .ok (.iaload, 1) := by decide +kernel
theorem dX7_drive_88 : decode cX7_drive 88 = .ok (.if_icmp .le 7, 3) := by decide +kernel
theorem dX7_drive_91 : decode cX7_drive 91 = .ok (.iconst 1, 1) := by decide +kernel
theorem dX7_drive_92 : decode cX7_drive 92 = .ok (.goto 4, 3) := by decide +kernel
theorem dX7_drive_95 : decode cX7_drive 95 = .ok (.iconst 0, 1) := by decide +kernel
theorem dX7_drive_96 : decode cX7_drive 96 = .ok (.istore_n 2, 1) := by decide +kernel
theorem dX7_drive_97 : decode cX7_drive 97 = .ok (.iinc 3 1, 3) := by decide +kernel
theorem dX7_drive_100 : decode cX7_drive 100 = .ok (.goto (-46), 3) := by decide +kernel
theorem dX7_drive_103 : decode cX7_drive 103 = .ok (.iload_n 2, 1) := by decide +kernel
theorem dX7_drive_104 : decode cX7_drive 104 = .ok (.ifCond .eq 18, 3) := by decide +kernel
theorem dX7_drive_107 : decode cX7_drive 107 = .ok (.aload_n 0, 1) := by decide +kernel
theorem dX7_drive_108 : decode cX7_drive 108 = .ok (.getfield 72, 3) := by decide +kernel
theorem dX7_drive_111 : decode cX7_drive 111 = .ok (.iload_n 1, 1) := by decide +kernel
theorem dX7_drive_112 : decode cX7_drive 112 = .ok (.baload, 1) := by decide +kernel
theorem dX7_drive_113 : decode cX7_drive 113 = .ok (.ifCond .ne 9, 3) := by decide +kernel
theorem dX7_drive_116 : decode cX7_drive 116 = .ok (.aload_n 0, 1) := by decide +kernel
theorem dX7_drive_117 : decode cX7_drive 117 = .ok (.iconst 4, 1) := by decide +kernel
theorem dX7_drive_118 : decode cX7_drive 118 = .ok (.iload_n 1, 1) := by decide +kernel
theorem dX7_drive_119 : decode cX7_drive 119 = .ok (.invokevirtual 164, 3) := by decide +kernel
theorem dX7_drive_122 : decode cX7_drive 122 = .ok (.aload_n 0, 1) := by decide +kernel
theorem dX7_drive_123 : decode cX7_drive 123 = .ok (.getfield 72, 3) := by decide +kernel
theorem dX7_drive_126 : decode cX7_drive 126 = .ok (.iload_n 1, 1) := by decide +kernel
theorem dX7_drive_127 : decode cX7_drive 127 = .ok (.iload_n 2, 1) := by decide +kernel
theorem dX7_drive_128 : decode cX7_drive 128 = .ok (.bastore, 1) := by decide +kernel
theorem dX7_drive_129 : decode cX7_drive 129 = .ok (.iinc 1 1, 3) := by decide +kernel
theorem dX7_drive_132 : decode cX7_drive 132 = .ok (.goto (-88), 3) := by decide +kernel
theorem dX7_drive_135 : decode cX7_drive 135 = .ok (.return_, 1) := by decide +kernel
set_option maxRecDepth 20000 in
theorem ggX7_poll_X7_isSensor : GoodIn wsX7_poll wsX7_isSensor := goodIn_r _ [9, 10, 11, 12, 8, 13, 85, 86, 87, 88, 89, 90, 91, 92, 93, 94, 95, 96, 97, 98, 99, 100, 101, 102, 103, 104, 105, 106, 107, 108, 109, 110, 111, 112, 113, 114, 115, 116, 117, 118] (by decide +kernel) (by decide +kernel)
set_option maxRecDepth 20000 in
theorem gX7_poll_X7_isSensor : GoodIn wsX7_poll (wsV RX7 154 RX7 yX7_isSensor wsX7_isSensor) := goodIn_app (goodIn_of _ (by decide +kernel)) ggX7_poll_X7_isSensor
set_option maxRecDepth 20000 in
theorem ggX7_poll_X7_ask : GoodIn wsX7_poll wsX7_ask := goodIn_r _ [17, 18, 19, 20, 21, 22, 23, 8, 24, 25, 26, 27, 28, 29, 30, 31, 32, 33, 10, 34, 35, 36, 37, 38, 2, 39, 40, 41, 42, 43, 44, 45, 46, 47, 48, 49, 50, 51, 52, 53, 85, 86, 87, 88, 89, 90, 91, 92, 93, 94, 95, 96, 97, 98, 99, 100, 101, 102, 103, 104, 105, 106, 107, 108, 109, 110, 111, 112, 113, 114, 115, 116, 117, 118] (by decide +kernel) (by decide +kernel)
set_option maxRecDepth 20000 in
theorem gX7_poll_X7_ask : GoodIn wsX7_poll (wsV RX7 180 RX7 yX7_ask wsX7_ask) := goodIn_app (goodIn_of _ (by decide +kernel)) ggX7_poll_X7_ask
set_option maxRecDepth 20000 in
theorem ggX7_poll_X7_burns : GoodIn wsX7_poll wsX7_burns := goodIn_r _ [57, 58, 20, 53, 10, 59, 3, 60, 5, 6, 7, 8, 9, 11, 12, 13, 85, 86, 87, 88, 89, 90, 91, 92, 93, 94, 95, 96, 97, 98, 99, 100, 101, 102, 103, 104, 105, 106, 107, 108, 109, 110, 111, 112, 113, 114, 115, 116, 117, 118] (by decide +kernel) (by decide +kernel)
set_option maxRecDepth 20000 in
theorem gX7_poll_X7_burns : GoodIn wsX7_poll (wsV RX7 183 RX7 yX7_burns wsX7_burns) := goodIn_app (goodIn_of _ (by decide +kernel)) ggX7_poll_X7_burns
set_option maxRecDepth 20000 in
theorem ggX7_poll_X7_note : GoodIn wsX7_poll wsX7_note := goodIn_r _ [37, 38, 2, 39, 85, 86, 87, 88, 89, 90, 91, 92, 93, 94, 95, 96, 97, 98, 99, 100, 101, 102, 103, 104, 105, 106, 107, 108, 109, 110, 111, 112, 113, 114, 115, 116, 117, 118] (by decide +kernel) (by decide +kernel)
set_option maxRecDepth 20000 in
theorem gX7_poll_X7_note : GoodIn wsX7_poll (wsV RX7 164 RX7 yX7_note wsX7_note) := goodIn_app (goodIn_of _ (by decide +kernel)) ggX7_poll_X7_note
set_option maxRecDepth 20000 in
theorem ggX7_poll_X7_drive : GoodIn wsX7_poll wsX7_drive := goodIn_r _ [64, 65, 66, 67, 68, 69, 70, 71, 72, 8, 73, 74, 75, 3, 76, 77, 78, 79, 19, 80, 81, 82, 83, 58, 20, 53, 10, 46, 51, 84, 5, 6, 7, 9, 11, 12, 13, 34, 35, 36, 37, 38, 2, 39, 85, 86, 87, 88, 89, 90, 91, 92, 93, 94, 95, 96, 97, 98, 99, 100, 101, 102, 103, 104, 105, 106, 107, 108, 109, 110, 111, 112, 113, 114, 115, 116, 117, 118] (by decide +kernel) (by decide +kernel)
set_option maxRecDepth 20000 in
theorem gX7_poll_X7_drive : GoodIn wsX7_poll (wsV RX7 190 RX7 yX7_drive wsX7_drive) := goodIn_app (goodIn_of _ (by decide +kernel)) ggX7_poll_X7_drive
theorem dX7_poll_0 : decode cX7_poll 0 = .ok (.aload_n 0, 1) := by decide +kernel
theorem dX7_poll_1 : decode cX7_poll 1 = .ok (.iconst 0, 1) := by decide +kernel
theorem dX7_poll_2 : decode cX7_poll 2 = .ok (.putfield 88, 3) := by decide +kernel
theorem dX7_poll_5 : decode cX7_poll 5 = .ok (.aload_n 0, 1) := by decide +kernel
theorem dX7_poll_6 : decode cX7_poll 6 = .ok (.dup, 1) := by decide +kernel
theorem dX7_poll_7 : decode cX7_poll 7 = .ok (.getfield 148, 3) := by decide +kernel
theorem dX7_poll_10 : decode cX7_poll 10 = .ok (.iconst 1, 1) := by decide +kernel
theorem dX7_poll_11 : decode cX7_poll 11 = .ok (.iadd, 1) := by decide +kernel
theorem dX7_poll_12 : decode cX7_poll 12 = .ok (.putfield 148, 3) := by decide +kernel
theorem dX7_poll_15 : decode cX7_poll 15 = .ok (.iconst 0, 1) := by decide +kernel
theorem dX7_poll_16 : decode cX7_poll 16 = .ok (.istore_n 1, 1) := by decide +kernel
theorem dX7_poll_17 : decode cX7_poll 17 = .ok (.iload_n 1, 1) := by decide +kernel
theorem dX7_poll_18 : decode cX7_poll 18 = .ok (.bipush 16, 2) := by decide +kernel
theorem dX7_poll_20 : decode cX7_poll 20 = .ok (.if_icmp .ge 22, 3) := by decide +kernel
theorem dX7_poll_23 : decode cX7_poll 23 = .ok (.aload_n 0, 1) := by decide +kernel
theorem dX7_poll_24 : decode cX7_poll 24 = .ok (.iload_n 1, 1) := by decide +kernel
theorem dX7_poll_25 : decode cX7_poll 25 = .ok (.invokevirtual 154, 3) := by decide +kernel
theorem dX7_poll_28 : decode cX7_poll 28 = .ok (.ifCond .eq 8, 3) := by decide +kernel
theorem dX7_poll_31 : decode cX7_poll 31 = .ok (.aload_n 0, 1) := by decide +kernel
theorem dX7_poll_32 : decode cX7_poll 32 = .ok (.iload_n 1, 1) := by decide +kernel
theorem dX7_poll_33 : decode cX7_poll 33 = .ok (.invokevirtual 180, 3) := by decide +kernel
theorem dX7_poll_36 : decode cX7_poll 36 = .ok (.iinc 1 1, 3) := by decide +kernel
theorem dX7_poll_39 : decode cX7_poll 39 = .ok (.goto (-22), 3) := by decide +kernel
theorem dX7_poll_42 : decode cX7_poll 42 = .ok (.iconst 0, 1) := by decide +kernel
theorem dX7_poll_43 : decode cX7_poll 43 = .ok (.istore_n 1, 1) := by decide +kernel
theorem dX7_poll_44 : decode cX7_poll 44 = .ok (.iconst 0, 1) := by decide +kernel
theorem dX7_poll_45 : decode cX7_poll 45 = .ok (.istore_n 2, 1) := by decide +kernel
theorem dX7_poll_46 : decode cX7_poll 46 = .ok (.iload_n 2, 1) := by decide +kernel
theorem dX7_poll_47 : decode cX7_poll 47 = .ok (.iconst 4, 1) := by decide +kernel
theorem dX7_poll_48 : decode cX7_poll 48 = .ok (.if_icmp .ge 38, 3) := by decide +kernel
theorem dX7_poll_51 : decode cX7_poll 51 = .ok (.aload_n 0, 1) := by decide +kernel
theorem dX7_poll_52 : decode cX7_poll 52 = .ok (.iload_n 2, 1) := by decide +kernel
theorem dX7_poll_53 : decode cX7_poll 53 = .ok (.invokevirtual 183, 3) := by decide +kernel
theorem dX7_poll_56 : decode cX7_poll 56 = .ok (.ifCond .eq 24, 3) := by decide +kernel
theorem dX7_poll_59 : decode cX7_poll 59 = .ok (.aload_n 0, 1) := by decide +kernel
theorem dX7_poll_60 : decode cX7_poll 60 = .ok (.getfield 54, 3) := by decide +kernel
theorem dX7_poll_63 : decode cX7_poll 63 = .ok (.iload_n 2, 1) := by decide +kernel
theorem dX7_poll_64 : decode cX7_poll 64 = .ok (.iconst 1, 1) := by decide +kernel
theorem dX7_poll_65 : decode cX7_poll 65 = .ok (.bastore, 1) := by decide +kernel
theorem dX7_poll_66 : decode cX7_poll 66 = .ok (.aload_n 0, 1) := by decide +kernel
theorem dX7_poll_67 : decode cX7_poll 67 = .ok (.iconst 1, 1) := by decide +kernel
theorem dX7_poll_68 : decode cX7_poll 68 = .ok (.iload_n 2, 1) := by decide +kernel
theorem dX7_poll_69 : decode cX7_poll 69 = .ok (.invokevirtual 164, 3) := by decide +kernel
theorem dX7_poll_72 : decode cX7_poll 72 = .ok (.aload_n 0, 1) := by decide +kernel
theorem dX7_poll_73 : decode cX7_poll 73 = .ok (.iconst 0, 1) := by decide +kernel
theorem dX7_poll_74 : decode cX7_poll 74 = .ok (.putfield 186, 3) := by decide +kernel
theorem dX7_poll_77 : decode cX7_poll 77 = .ok (.iinc 1 1, 3) := by decide +kernel
theorem dX7_poll_80 : decode cX7_poll 80 = .ok (.iinc 2 1, 3) := by decide +kernel
theorem dX7_poll_83 : decode cX7_poll 83 = .ok (.goto (-37), 3) := by decide +kernel
theorem dX7_poll_86 : decode cX7_poll 86 = .ok (.aload_n 0, 1) := by decide +kernel
theorem dX7_poll_87 : decode cX7_poll 87 = .ok (.invokevirtual 190, 3) := by decide +kernel
theorem dX7_poll_90 : decode cX7_poll 90 = .ok (.iload_n 1, 1) := by decide +kernel
theorem dX7_poll_91 : decode cX7_poll 91 = .ok (.ireturn, 1) := by decide +kernel
theorem dX7_key_0 : decode cX7_key 0 = .ok (.aload_n 0, 1) := by decide +kernel
theorem dX7_key_1 : decode cX7_key 1 = .ok (.iconst 0, 1) := by decide +kernel
theorem dX7_key_2 : decode cX7_key 2 = .ok (.putfield 88, 3) := by decide +kernel
theorem dX7_key_5 : decode cX7_key 5 = .ok (.aload_n 0, 1) := by decide +kernel
theorem dX7_key_6 : decode cX7_key 6 = .ok (.iload_n 1, 1) := by decide +kernel
theorem dX7_key_7 : decode cX7_key 7 = .ok (.sipush 1357, 3) := by decide +kernel
theorem dX7_key_10 : decode cX7_key 10 = .ok (.if_icmp .ne 7, 3) := by decide +kernel
theorem dX7_key_13 : decode cX7_key 13 = .ok (.iconst 1, 1) := by decide +kernel
theorem dX7_key_14 : decode cX7_key 14 = .ok (.goto 15, 3) := by decide +kernel
theorem dX7_key_17 : decode cX7_key 17 = .ok (.iload_n 1, 1) := by decide +kernel
theorem dX7_key_18 : decode cX7_key 18 = .ok (.sipush 2468, 3) := by decide +kernel
theorem dX7_key_21 : decode cX7_key 21 = .ok (.if_icmp .ne 7, 3) := by decide +kernel
theorem dX7_key_24 : decode cX7_key 24 = .ok (.iconst 2, 1) := by decide +kernel
theorem dX7_key_25 : decode cX7_key 25 = .ok (.goto 4, 3) := by decide +kernel
theorem dX7_key_28 : decode cX7_key 28 = .ok (.iconst 0, 1) := by decide +kernel
theorem dX7_key_29 : decode cX7_key 29 = .ok (.putfield 105, 3) := by decide +kernel
theorem dX7_key_32 : decode cX7_key 32 = .ok (.aload_n 0, 1) := by decide +kernel
theorem dX7_key_33 : decode cX7_key 33 = .ok (.getfield 105, 3) := by decide +kernel
theorem dX7_key_36 : decode cX7_key 36 = .ok (.ireturn, 1) := by decide +kernel
set_option maxRecDepth 20000 in
theorem ggX7_silence_X7_note : GoodIn wsX7_silence wsX7_note := goodIn_r _ [8, 9, 10, 11, 12, 13, 14, 15, 16, 17, 18, 19, 20, 21, 22, 23, 24, 25, 26, 27, 28, 29, 30, 31, 32, 33, 34, 35, 36, 37, 38, 39, 40, 41, 42, 43, 44, 45] (by decide +kernel) (by decide +kernel)
set_option maxRecDepth 20000 in
theorem gX7_silence_X7_note : GoodIn wsX7_silence (wsV RX7 164 RX7 yX7_note wsX7_note) := goodIn_app (goodIn_of _ (by decide +kernel)) ggX7_silence_X7_note
theorem dX7_silence_0 : decode cX7_silence 0 = .ok (.aload_n 0, 1) := by decide +kernel
theorem dX7_silence_1 : decode cX7_silence 1 = .ok (.aload_n 0, 1) := by decide +kernel
theorem dX7_silence_2 : decode cX7_silence 2 = .ok (.getfield 105, 3) := by decide +kernel
theorem dX7_silence_5 : decode cX7_silence 5 = .ok (.iconst 1, 1) := by decide +kernel
theorem dX7_silence_6 : decode cX7_silence 6 = .ok (.if_icmp .ge 7, 3) := by decide +kernel
theorem dX7_silence_9 : decode cX7_silence 9 = .ok (.iconst 1, 1) := by decide +kernel
theorem dX7_silence_10 : decode cX7_silence 10 = .ok (.goto 4, 3) := by decide +kernel
theorem dX7_silence_13 : decode cX7_silence 13 = .ok (.iconst 0, 1) := by decide +kernel
theorem dX7_silence_14 : decode cX7_silence 14 = .ok (.putfield 88, 3) := by decide +kernel
theorem dX7_silence_17 : decode cX7_silence 17 = .ok (.aload_n 0, 1) := by decide +kernel
theorem dX7_silence_18 : decode cX7_silence 18 = .ok (.getfield 88, 3) := by decide +kernel
theorem dX7_silence_21 : decode cX7_silence 21 = .ok (.ifCond .gt 10, 3) := by decide +kernel
theorem dX7_silence_24 : decode cX7_silence 24 = .ok (.aload_n 0, 1) := by decide +kernel
theorem dX7_silence_25 : decode cX7_silence 25 = .ok (.getfield 186, 3) := by decide +kernel
theorem dX7_silence_28 : decode cX7_silence 28 = .ok (.ifCond .eq 5, 3) := by decide +kernel
theorem dX7_silence_31 : decode cX7_silence 31 = .ok (.iconst 0, 1) := by decide +kernel
theorem dX7_silence_32 : decode cX7_silence 32 = .ok (.ireturn, 1) := by decide +kernel
theorem dX7_silence_33 : decode cX7_silence 33 = .ok (.aload_n 0, 1) := by decide +kernel
theorem dX7_silence_34 : decode cX7_silence 34 = .ok (.iconst 1, 1) := by decide +kernel
theorem dX7_silence_35 : decode cX7_silence 35 = .ok (.putfield 186, 3) := by decide +kernel
theorem dX7_silence_38 : decode cX7_silence 38 = .ok (.aload_n 0, 1) := by decide +kernel
theorem dX7_silence_39 : decode cX7_silence 39 = .ok (.iconst 5, 1) := by decide +kernel
theorem dX7_silence_40 : decode cX7_silence 40 = .ok (.iconst 0, 1) := by decide +kernel
theorem dX7_silence_41 : decode cX7_silence 41 = .ok (.invokevirtual 164, 3) := by decide +kernel
theorem dX7_silence_44 : decode cX7_silence 44 = .ok (.iconst 1, 1) := by decide +kernel
theorem dX7_silence_45 : decode cX7_silence 45 = .ok (.ireturn, 1) := by decide +kernel
set_option maxRecDepth 20000 in
theorem ggX7_reset_X7_note : GoodIn wsX7_reset wsX7_note := goodIn_r _ [13, 14, 15, 16, 17, 18, 19, 20, 21, 22, 23, 24, 25, 26, 27, 28, 29, 30, 31, 32, 33, 34, 35, 36, 37, 38, 39, 40, 41, 42, 43, 44, 45, 46, 47, 48, 49, 50] (by decide +kernel) (by decide +kernel)
set_option maxRecDepth 20000 in
theorem gX7_reset_X7_note : GoodIn wsX7_reset (wsV RX7 164 RX7 yX7_note wsX7_note) := goodIn_app (goodIn_of _ (by decide +kernel)) ggX7_reset_X7_note
theorem dX7_reset_0 : decode cX7_reset 0 = .ok (.aload_n 0, 1) := by decide +kernel
theorem dX7_reset_1 : decode cX7_reset 1 = .ok (.aload_n 0, 1) := by decide +kernel
theorem dX7_reset_2 : decode cX7_reset 2 = .ok (.getfield 105, 3) := by decide +kernel
theorem dX7_reset_5 : decode cX7_reset 5 = .ok (.iconst 1, 1) := by decide +kernel
theorem dX7_reset_6 : decode cX7_reset 6 = .ok (.if_icmp .ge 7, 3) := by decide +kernel
theorem dX7_reset_9 : decode cX7_reset 9 = .ok (.iconst 1, 1) := by decide +kernel
theorem dX7_reset_10 : decode cX7_reset 10 = .ok (.goto 4, 3) := by decide +kernel
theorem dX7_reset_13 : decode cX7_reset 13 = .ok (.iconst 0, 1) := by decide +kernel
theorem dX7_reset_14 : decode cX7_reset 14 = .ok (.putfield 88, 3) := by decide +kernel
theorem dX7_reset_17 : decode cX7_reset 17 = .ok (.aload_n 0, 1) := by decide +kernel
theorem dX7_reset_18 : decode cX7_reset 18 = .ok (.getfield 88, 3) := by decide +kernel
theorem dX7_reset_21 : decode cX7_reset 21 = .ok (.ifCond .le 5, 3) := by decide +kernel
theorem dX7_reset_24 : decode cX7_reset 24 = .ok (.iconst 0, 1) := by decide +kernel
theorem dX7_reset_25 : decode cX7_reset 25 = .ok (.ireturn, 1) := by decide +kernel
theorem dX7_reset_26 : decode cX7_reset 26 = .ok (.iconst 0, 1) := by decide +kernel
theorem dX7_reset_27 : decode cX7_reset 27 = .ok (.istore_n 1, 1) := by decide +kernel
theorem dX7_reset_28 : decode cX7_reset 28 = .ok (.iconst 0, 1) := by decide +kernel
theorem dX7_reset_29 : decode cX7_reset 29 = .ok (.istore_n 2, 1) := by decide +kernel
theorem dX7_reset_30 : decode cX7_reset 30 = .ok (.iload_n 2, 1) := by decide +kernel
theorem dX7_reset_31 : decode cX7_reset 31 = .ok (.iconst 4, 1) := by decide +kernel
theorem dX7_reset_32 : decode cX7_reset 32 = .ok (.if_icmp .ge 33, 3) := by decide +kernel
theorem dX7_reset_35 : decode cX7_reset 35 = .ok (.aload_n 0, 1) := by decide +kernel
theorem dX7_reset_36 : decode cX7_reset 36 = .ok (.getfield 54, 3) := by decide +kernel
theorem dX7_reset_39 : decode cX7_reset 39 = .ok (.iload_n 2, 1) := by decide +kernel
theorem dX7_reset_40 : decode cX7_reset 40 = .ok (.baload, 1) := by decide +kernel
theorem dX7_reset_41 : decode cX7_reset 41 = .ok (.ifCond .eq 9, 3) := by decide +kernel
theorem dX7_reset_44 : decode cX7_reset 44 = .ok (.iload_n 1, 1) := by decide +kernel
theorem dX7_reset_45 : decode cX7_reset 45 = .ok (.iconst 1, 1) := by decide +kernel
theorem dX7_reset_46 : decode cX7_reset 46 = .ok (.iadd, 1) := by decide +kernel
theorem dX7_reset_47 : decode cX7_reset 47 = .ok (.goto 4, 3) := by decide +kernel
theorem dX7_reset_50 : decode cX7_reset 50 = .ok (.iload_n 1, 1) := by decide +kernel
theorem dX7_reset_51 : decode cX7_reset 51 = .ok (.istore_n 1, 1) := by decide +kernel
theorem dX7_reset_52 : decode cX7_reset 52 = .ok (.aload_n 0, 1) := by decide +kernel
theorem dX7_reset_53 : decode cX7_reset 53 = .ok (.getfield 54, 3) := by decide +kernel
theorem dX7_reset_56 : decode cX7_reset 56 = .ok (.iload_n 2, 1) := by decide +kernel
theorem dX7_reset_57 : decode cX7_reset 57 = .ok (.iconst 0, 1) := by decide +kernel
theorem dX7_reset_58 : decode cX7_reset 58 = .ok (.bastore, 1) := by decide +kernel
theorem dX7_reset_59 : decode cX7_reset 59 = .ok (.iinc 2 1, 3) := by decide +kernel
theorem dX7_reset_62 : decode cX7_reset 62 = .ok (.goto (-32), 3) := by decide +kernel
theorem dX7_reset_65 : decode cX7_reset 65 = .ok (.iconst 0, 1) := by decide +kernel
theorem dX7_reset_66 : decode cX7_reset 66 = .ok (.istore_n 2, 1) := by decide +kernel
theorem dX7_reset_67 : decode cX7_reset 67 = .ok (.iload_n 2, 1) := by decide +kernel
theorem dX7_reset_68 : decode cX7_reset 68 = .ok (.bipush 16, 2) := by decide +kernel
theorem dX7_reset_70 : decode cX7_reset 70 = .ok (.if_icmp .ge 23, 3) := by decide +kernel
theorem dX7_reset_73 : decode cX7_reset 73 = .ok (.aload_n 0, 1) := by decide +kernel
theorem dX7_reset_74 : decode cX7_reset 74 = .ok (.getfield 35, 3) := by decide +kernel
theorem dX7_reset_77 : decode cX7_reset 77 = .ok (.iload_n 2, 1) := by decide +kernel
theorem dX7_reset_78 : decode cX7_reset 78 = .ok (.iconst 0, 1) := by decide +kernel
theorem dX7_reset_79 : decode cX7_reset 79 = .ok (.bastore, 1) := by decide +kernel
theorem dX7_reset_80 : decode cX7_reset 80 = .ok (.aload_n 0, 1) := by decide +kernel
theorem dX7_reset_81 : decode cX7_reset 81 = .ok (.getfield 32, 3) := by decide +kernel
theorem dX7_reset_84 : decode cX7_reset 84 = .ok (.iload_n 2, 1) := by decide +kernel
theorem dX7_reset_85 : decode cX7_reset 85 = .ok (.iconst 0, 1) := by decide +kernel
theorem dX7_reset_86 : decode cX7_reset 86 = .ok (.iastore, 1) := by decide +kernel
theorem dX7_reset_87 : decode cX7_reset 87 = .ok (.iinc 2 1, 3) := by decide +kernel
theorem dX7_reset_90 : decode cX7_reset 90 = .ok (.goto (-23), 3) := by decide +kernel
theorem dX7_reset_93 : decode cX7_reset 93 = .ok (.iconst 0, 1) := by decide +kernel
theorem dX7_reset_94 : decode cX7_reset 94 = .ok (.istore_n 2, 1) := by decide +kernel
theorem dX7_reset_95 : decode cX7_reset 95 = .ok (.iload_n 2, 1) := by decide +kernel
theorem dX7_reset_96 : decode cX7_reset 96 = .ok (.bipush 6, 2) := by decide +kernel
theorem dX7_reset_98 : decode cX7_reset 98 = .ok (.if_icmp .ge 23, 3) := by decide +kernel
theorem dX7_reset_101 : decode cX7_reset 101 = .ok (.aload_n 0, 1) := by decide +kernel
theorem dX7_reset_102 : decode cX7_reset 102 = .ok (.getfield 69, 3) := by decide +kernel
theorem dX7_reset_105 : decode cX7_reset 105 = .ok (.iload_n 2, 1) := by decide +kernel
theorem dX7_reset_106 : decode cX7_reset 106 = .ok (.iconst 0, 1) := by decide +kernel
theorem dX7_reset_107 : decode cX7_reset 107 = .ok (.iastore, 1) := by decide +kernel
theorem dX7_reset_108 : decode cX7_reset 108 = .ok (.aload_n 0, 1) := by decide +kernel
theorem dX7_reset_109 : decode cX7_reset 109 = .ok (.getfield 72, 3) := by decide +kernel
theorem dX7_reset_112 : decode cX7_reset 112 = .ok (.iload_n 2, 1) := by decide +kernel
theorem dX7_reset_113 : decode cX7_reset 113 = .ok (.iconst 0, 1) := by decide +kernel
theorem dX7_reset_114 : decode cX7_reset 114 = .ok (.bastore, 1) := by decide +kernel
theorem dX7_reset_115 : decode cX7_reset 115 = .ok (.iinc 2 1, 3) := by decide +kernel
theorem dX7_reset_118 : decode cX7_reset 118 = .ok (.goto (-23), 3) := by decide +kernel
theorem dX7_reset_121 : decode cX7_reset 121 = .ok (.aload_n 0, 1) := by decide +kernel
theorem dX7_reset_122 : decode cX7_reset 122 = .ok (.iconst 0, 1) := by decide +kernel
theorem dX7_reset_123 : decode cX7_reset 123 = .ok (.putfield 186, 3) := by decide +kernel
theorem dX7_reset_126 : decode cX7_reset 126 = .ok (.aload_n 0, 1) := by decide +kernel
theorem dX7_reset_127 : decode cX7_reset 127 = .ok (.bipush 6, 2) := by decide +kernel
theorem dX7_reset_129 : decode cX7_reset 129 = .ok (.iconst 0, 1) := by decide +kernel
theorem dX7_reset_130 : decode cX7_reset 130 = .ok (.invokevirtual 164, 3) := by decide +kernel
theorem dX7_reset_133 : decode cX7_reset 133 = .ok (.iload_n 1, 1) := by decide +kernel
theorem dX7_reset_134 : decode cX7_reset 134 = .ok (.ireturn, 1) := by decide +kernel
set_option maxRecDepth 20000 in
theorem ggX7_off_X7_in : GoodIn wsX7_off wsX7_in := goodIn_r _ [8] (by decide +kernel) (by decide +kernel)
set_option maxRecDepth 20000 in
theorem gX7_off_X7_in : GoodIn wsX7_off (va_wsS RX7 99 yX7_in wsX7_in) := goodIn_app (goodIn_of _ (by decide +kernel)) ggX7_off_X7_in
set_option maxRecDepth 20000 in
theorem ggX7_off_X7_note : GoodIn wsX7_off wsX7_note := goodIn_r _ [12, 13, 14, 15, 16, 17, 18, 19, 20, 21, 22, 23, 24, 25, 26, 27, 28, 29, 30, 31, 32, 33, 34, 35, 36, 37, 38, 39, 40, 41, 42, 43, 44, 45, 46, 47, 48, 49] (by decide +kernel) (by decide +kernel)
set_option maxRecDepth 20000 in
theorem gX7_off_X7_note : GoodIn wsX7_off (wsV RX7 164 RX7 yX7_note wsX7_note) := goodIn_app (goodIn_of _ (by decide +kernel)) ggX7_off_X7_note
theorem dX7_off_0 : decode cX7_off 0 = .ok (.aload_n 0, 1) := by decide +kernel
theorem dX7_off_1 : decode cX7_off 1 = .ok (.iload_n 2, 1) := by decide +kernel
theorem dX7_off_2 : decode cX7_off 2 = .ok (.iconst 0, 1) := by decide +kernel
theorem dX7_off_3 : decode cX7_off 3 = .ok (.iload_n 1, 1) := by decide +kernel
theorem dX7_off_4 : decode cX7_off 4 = .ok (.ifCond .eq 7, 3) := by decide +kernel
theorem dX7_off_7 : decode cX7_off 7 = .ok (.iconst 3, 1) := by decide +kernel
theorem dX7_off_8 : decode cX7_off 8 = .ok (.goto 5, 3) := by decide +kernel
theorem dX7_off_11 : decode cX7_off 11 = .ok (.bipush 15, 2) := by decide +kernel
theorem dX7_off_13 : decode cX7_off 13 = .ok (.invokestatic 99, 3) := by decide +kernel
theorem dX7_off_16 : decode cX7_off 16 = .ok (.ifCond .ne 7, 3) := by decide +kernel
theorem dX7_off_19 : decode cX7_off 19 = .ok (.iconst 1, 1) := by decide +kernel
theorem dX7_off_20 : decode cX7_off 20 = .ok (.goto 16, 3) := by decide +kernel
theorem dX7_off_23 : decode cX7_off 23 = .ok (.aload_n 0, 1) := by decide +kernel
theorem dX7_off_24 : decode cX7_off 24 = .ok (.getfield 105, 3) := by decide +kernel
theorem dX7_off_27 : decode cX7_off 27 = .ok (.iconst 2, 1) := by decide +kernel
theorem dX7_off_28 : decode cX7_off 28 = .ok (.if_icmp .ge 7, 3) := by decide +kernel
theorem dX7_off_31 : decode cX7_off 31 = .ok (.iconst 2, 1) := by decide +kernel
theorem dX7_off_32 : decode cX7_off 32 = .ok (.goto 4, 3) := by decide +kernel
theorem dX7_off_35 : decode cX7_off 35 = .ok (.iconst 0, 1) := by decide +kernel
theorem dX7_off_36 : decode cX7_off 36 = .ok (.putfield 88, 3) := by decide +kernel
theorem dX7_off_39 : decode cX7_off 39 = .ok (.aload_n 0, 1) := by decide +kernel
theorem dX7_off_40 : decode cX7_off 40 = .ok (.getfield 88, 3) := by decide +kernel
theorem dX7_off_43 : decode cX7_off 43 = .ok (.ifCond .le 5, 3) := by decide +kernel
theorem dX7_off_46 : decode cX7_off 46 = .ok (.iconst 0, 1) := by decide +kernel
theorem dX7_off_47 : decode cX7_off 47 = .ok (.ireturn, 1) := by decide +kernel
theorem dX7_off_48 : decode cX7_off 48 = .ok (.iload_n 1, 1) := by decide +kernel
theorem dX7_off_49 : decode cX7_off 49 = .ok (.ifCond .eq 12, 3) := by decide +kernel
theorem dX7_off_52 : decode cX7_off 52 = .ok (.aload_n 0, 1) := by decide +kernel
theorem dX7_off_53 : decode cX7_off 53 = .ok (.getfield 48, 3) := by decide +kernel
theorem dX7_off_56 : decode cX7_off 56 = .ok (.iload_n 2, 1) := by decide +kernel
theorem dX7_off_57 : decode cX7_off 57 = .ok (.baload, 1) := by decide +kernel
theorem dX7_off_58 : decode cX7_off 58 = .ok (.goto 9, 3) := by decide +kernel
theorem dX7_off_61 : decode cX7_off 61 = .ok (.aload_n 0, 1) := by decide +kernel
theorem dX7_off_62 : decode cX7_off 62 = .ok (.getfield 45, 3) := by decide +kernel
theorem dX7_off_65 : decode cX7_off 65 = .ok (.iload_n 2, 1) := by decide +kernel
theorem dX7_off_66 : decode cX7_off 66 = .ok (.baload, 1) := by decide +kernel
theorem dX7_off_67 : decode cX7_off 67 = .ok (.istore 4, 2) := by decide +kernel
theorem dX7_off_69 : decode cX7_off 69 = .ok (.iload 4, 2) := by decide +kernel
theorem dX7_off_71 : decode cX7_off 71 = .ok (.iload_n 3, 1) := by decide +kernel
theorem dX7_off_72 : decode cX7_off 72 = .ok (.if_icmp .ne 5, 3) := by decide +kernel
theorem dX7_off_75 : decode cX7_off 75 = .ok (.iconst 0, 1) := by decide +kernel
theorem dX7_off_76 : decode cX7_off 76 = .ok (.ireturn, 1) := by decide +kernel
theorem dX7_off_77 : decode cX7_off 77 = .ok (.iload_n 1, 1) := by decide +kernel
theorem dX7_off_78 : decode cX7_off 78 = .ok (.ifCond .eq 13, 3) := by decide +kernel
theorem dX7_off_81 : decode cX7_off 81 = .ok (.aload_n 0, 1) := by decide +kernel
theorem dX7_off_82 : decode cX7_off 82 = .ok (.getfield 48, 3) := by decide +kernel
theorem dX7_off_85 : decode cX7_off 85 = .ok (.iload_n 2, 1) := by decide +kernel
theorem dX7_off_86 : decode cX7_off 86 = .ok (.iload_n 3, 1) := by decide +kernel
theorem dX7_off_87 : decode cX7_off 87 = .ok (.bastore, 1) := by decide +kernel
theorem dX7_off_88 : decode cX7_off 88 = .ok (.goto 10, 3) := by decide +kernel
theorem dX7_off_91 : decode cX7_off 91 = .ok (.aload_n 0, 1) := by decide +kernel
theorem dX7_off_92 : decode cX7_off 92 = .ok (.getfield 45, 3) := by decide +kernel
theorem dX7_off_95 : decode cX7_off 95 = .ok (.iload_n 2, 1) := by decide +kernel
theorem dX7_off_96 : decode cX7_off 96 = .ok (.iload_n 3, 1) := by decide +kernel
theorem dX7_off_97 : decode cX7_off 97 = .ok (.bastore, 1) := by decide +kernel
theorem dX7_off_98 : decode cX7_off 98 = .ok (.aload_n 0, 1) := by decide +kernel
theorem dX7_off_99 : decode cX7_off 99 = .ok (.bipush 7, 2) := by decide +kernel
theorem dX7_off_101 : decode cX7_off 101 = .ok (.iload_n 1, 1) := by decide +kernel
theorem dX7_off_102 : decode cX7_off 102 = .ok (.ifCond .eq 7, 3) := by decide +kernel
theorem dX7_off_105 : decode cX7_off 105 = .ok (.iload_n 2, 1) := by decide +kernel
theorem dX7_off_106 : decode cX7_off 106 = .ok (.goto 7, 3) := by decide +kernel
theorem dX7_off_109 : decode cX7_off 109 = .ok (.bipush 10, 2) := by decide +kernel
theorem dX7_off_111 : decode cX7_off 111 = .ok (.iload_n 2, 1) := by decide +kernel
theorem dX7_off_112 : decode cX7_off 112 = .ok (.iadd, 1) := by decide +kernel
theorem dX7_off_113 : decode cX7_off 113 = .ok (.invokevirtual 164, 3) := by decide +kernel
theorem dX7_off_116 : decode cX7_off 116 = .ok (.iconst 1, 1) := by decide +kernel
theorem dX7_off_117 : decode cX7_off 117 = .ok (.ireturn, 1) := by decide +kernel
set_option maxRecDepth 20000 in
theorem ggX7_level_X7_in : GoodIn wsX7_level wsX7_in := goodIn_r _ [6] (by decide +kernel) (by decide +kernel)
set_option maxRecDepth 20000 in
theorem gX7_level_X7_in : GoodIn wsX7_level (va_wsS RX7 99 yX7_in wsX7_in) := goodIn_app (goodIn_of _ (by decide +kernel)) ggX7_level_X7_in
theorem dX7_level_0 : decode cX7_level 0 = .ok (.aload_n 0, 1) := by decide +kernel
theorem dX7_level_1 : decode cX7_level 1 = .ok (.iload_n 1, 1) := by decide +kernel
theorem dX7_level_2 : decode cX7_level 2 = .ok (.iconst 0, 1) := by decide +kernel
theorem dX7_level_3 : decode cX7_level 3 = .ok (.bipush 15, 2) := by decide +kernel
theorem dX7_level_5 : decode cX7_level 5 = .ok (.invokestatic 99, 3) := by decide +kernel
theorem dX7_level_8 : decode cX7_level 8 = .ok (.ifCond .eq 7, 3) := by decide +kernel
theorem dX7_level_11 : decode cX7_level 11 = .ok (.iconst 0, 1) := by decide +kernel
theorem dX7_level_12 : decode cX7_level 12 = .ok (.goto 4, 3) := by decide +kernel
theorem dX7_level_15 : decode cX7_level 15 = .ok (.iconst 1, 1) := by decide +kernel
theorem dX7_level_16 : decode cX7_level 16 = .ok (.putfield 88, 3) := by decide +kernel
theorem dX7_level_19 : decode cX7_level 19 = .ok (.aload_n 0, 1) := by decide +kernel
theorem dX7_level_20 : decode cX7_level 20 = .ok (.getfield 88, 3) := by decide +kernel
theorem dX7_level_23 : decode cX7_level 23 = .ok (.ifCond .le 7, 3) := by decide +kernel
theorem dX7_level_26 : decode cX7_level 26 = .ok (.fconst 0, 1) := by decide +kernel
theorem dX7_level_27 : decode cX7_level 27 = .ok (.goto 9, 3) := by decide +kernel
theorem dX7_level_30 : decode cX7_level 30 = .ok (.aload_n 0, 1) := by decide +kernel
theorem dX7_level_31 : decode cX7_level 31 = .ok (.getfield 29, 3) := by decide +kernel
theorem dX7_level_34 : decode cX7_level 34 = .ok (.iload_n 1, 1) := by decide +kernel
theorem dX7_level_35 : decode cX7_level 35 = .ok (.faload, 1) := by decide +kernel
theorem dX7_level_36 : decode cX7_level 36 = .ok (.freturn, 1) := by decide +kernel
set_option maxRecDepth 20000 in
theorem ggX7_base_X7_in : GoodIn wsX7_base wsX7_in := goodIn_r _ [6] (by decide +kernel) (by decide +kernel)
set_option maxRecDepth 20000 in
theorem gX7_base_X7_in : GoodIn wsX7_base (va_wsS RX7 99 yX7_in wsX7_in) := goodIn_app (goodIn_of _ (by decide +kernel)) ggX7_base_X7_in
theorem dX7_base_0 : decode cX7_base 0 = .ok (.aload_n 0, 1) := by decide +kernel
theorem dX7_base_1 : decode cX7_base 1 = .ok (.iload_n 1, 1) := by decide +kernel
theorem dX7_base_2 : decode cX7_base 2 = .ok (.iconst 0, 1) := by decide +kernel
theorem dX7_base_3 : decode cX7_base 3 = .ok (.bipush 15, 2) := by decide +kernel
theorem dX7_base_5 : decode cX7_base 5 = .ok (.invokestatic 99, 3) := by decide +kernel
theorem dX7_base_8 : decode cX7_base 8 = .ok (.ifCond .eq 7, 3) := by decide +kernel
theorem dX7_base_11 : decode cX7_base 11 = .ok (.iconst 0, 1) := by decide +kernel
theorem dX7_base_12 : decode cX7_base 12 = .ok (.goto 4, 3) := by decide +kernel
theorem dX7_base_15 : decode cX7_base 15 = .ok (.iconst 1, 1) := by decide +kernel
theorem dX7_base_16 : decode cX7_base 16 = .ok (.putfield 88, 3) := by decide +kernel
theorem dX7_base_19 : decode cX7_base 19 = .ok (.aload_n 0, 1) := by decide +kernel
theorem dX7_base_20 : decode cX7_base 20 = .ok (.getfield 88, 3) := by decide +kernel
theorem dX7_base_23 : decode cX7_base 23 = .ok (.ifCond .le 7, 3) := by decide +kernel
theorem dX7_base_26 : decode cX7_base 26 = .ok (.fconst 0, 1) := by decide +kernel
theorem dX7_base_27 : decode cX7_base 27 = .ok (.goto 9, 3) := by decide +kernel
theorem dX7_base_30 : decode cX7_base 30 = .ok (.aload_n 0, 1) := by decide +kernel
theorem dX7_base_31 : decode cX7_base 31 = .ok (.getfield 26, 3) := by decide +kernel
theorem dX7_base_34 : decode cX7_base 34 = .ok (.iload_n 1, 1) := by decide +kernel
theorem dX7_base_35 : decode cX7_base 35 = .ok (.faload, 1) := by decide +kernel
theorem dX7_base_36 : decode cX7_base 36 = .ok (.freturn, 1) := by decide +kernel
set_option maxRecDepth 20000 in
theorem ggX7_place_X7_in : GoodIn wsX7_place wsX7_in := goodIn_r _ [9] (by decide +kernel) (by decide +kernel)
set_option maxRecDepth 20000 in
theorem gX7_place_X7_in : GoodIn wsX7_place (va_wsS RX7 99 yX7_in wsX7_in) := goodIn_app (goodIn_of _ (by decide +kernel)) ggX7_place_X7_in
set_option maxRecDepth 20000 in
theorem ggX7_place_X7_reached : GoodIn wsX7_place wsX7_reached := goodIn_r _ [13, 14, 15, 16, 8, 17, 18, 19, 20, 21, 22, 5, 23, 24, 25, 26, 27, 28, 29, 30, 31, 32, 33, 34, 35, 36, 37, 38, 39, 40, 41, 42, 43, 44, 45, 46, 47, 48, 49, 50, 51, 52, 53, 54, 55, 56] (by decide +kernel) (by decide +kernel)
set_option maxRecDepth 20000 in
theorem gX7_place_X7_reached : GoodIn wsX7_place (wsV RX7 161 RX7 yX7_reached wsX7_reached) := goodIn_app (goodIn_of _ (by decide +kernel)) ggX7_place_X7_reached
theorem dX7_place_0 : decode cX7_place 0 = .ok (.aload_n 0, 1) := by decide +kernel
theorem dX7_place_1 : decode cX7_place 1 = .ok (.iload_n 1, 1) := by decide +kernel
theorem dX7_place_2 : decode cX7_place 2 = .ok (.iconst 0, 1) := by decide +kernel
theorem dX7_place_3 : decode cX7_place 3 = .ok (.bipush 15, 2) := by decide +kernel
theorem dX7_place_5 : decode cX7_place 5 = .ok (.invokestatic 99, 3) := by decide +kernel
theorem dX7_place_8 : decode cX7_place 8 = .ok (.ifCond .eq 7, 3) := by decide +kernel
theorem dX7_place_11 : decode cX7_place 11 = .ok (.iconst 0, 1) := by decide +kernel
theorem dX7_place_12 : decode cX7_place 12 = .ok (.goto 4, 3) := by decide +kernel
theorem dX7_place_15 : decode cX7_place 15 = .ok (.iconst 1, 1) := by decide +kernel
theorem dX7_place_16 : decode cX7_place 16 = .ok (.putfield 88, 3) := by decide +kernel
theorem dX7_place_19 : decode cX7_place 19 = .ok (.aload_n 0, 1) := by decide +kernel
theorem dX7_place_20 : decode cX7_place 20 = .ok (.getfield 88, 3) := by decide +kernel
theorem dX7_place_23 : decode cX7_place 23 = .ok (.ifCond .le 5, 3) := by decide +kernel
theorem dX7_place_26 : decode cX7_place 26 = .ok (.iconst 0, 1) := by decide +kernel
theorem dX7_place_27 : decode cX7_place 27 = .ok (.ireturn, 1) := by decide +kernel
theorem dX7_place_28 : decode cX7_place 28 = .ok (.aload_n 0, 1) := by decide +kernel
theorem dX7_place_29 : decode cX7_place 29 = .ok (.iload_n 1, 1) := by decide +kernel
theorem dX7_place_30 : decode cX7_place 30 = .ok (.invokevirtual 161, 3) := by decide +kernel
theorem dX7_place_33 : decode cX7_place 33 = .ok (.ifCond .eq 7, 3) := by decide +kernel
theorem dX7_place_36 : decode cX7_place 36 = .ok (.iconst 1, 1) := by decide +kernel
theorem dX7_place_37 : decode cX7_place 37 = .ok (.goto 4, 3) := by decide +kernel
theorem dX7_place_40 : decode cX7_place 40 = .ok (.iconst 0, 1) := by decide +kernel
theorem dX7_place_41 : decode cX7_place 41 = .ok (.aload_n 0, 1) := by decide +kernel
theorem dX7_place_42 : decode cX7_place 42 = .ok (.getfield 35, 3) := by decide +kernel
theorem dX7_place_45 : decode cX7_place 45 = .ok (.iload_n 1, 1) := by decide +kernel
theorem dX7_place_46 : decode cX7_place 46 = .ok (.baload, 1) := by decide +kernel
theorem dX7_place_47 : decode cX7_place 47 = .ok (.ifCond .eq 7, 3) := by decide +kernel
theorem dX7_place_50 : decode cX7_place 50 = .ok (.iconst 2, 1) := by decide +kernel
theorem dX7_place_51 : decode cX7_place 51 = .ok (.goto 4, 3) := by decide +kernel
theorem dX7_place_54 : decode cX7_place 54 = .ok (.iconst 0, 1) := by decide +kernel
theorem dX7_place_55 : decode cX7_place 55 = .ok (.iadd, 1) := by decide +kernel
theorem dX7_place_56 : decode cX7_place 56 = .ok (.aload_n 0, 1) := by decide +kernel
theorem dX7_place_57 : decode cX7_place 57 = .ok (.getfield 42, 3) := by decide +kernel
theorem dX7_place_60 : decode cX7_place 60 = .ok (.iload_n 1, 1) := by decide +kernel
theorem dX7_place_61 : decode cX7_place 61 = .ok (.baload, 1) := by decide +kernel
theorem dX7_place_62 : decode cX7_place 62 = .ok (.ifCond .eq 7, 3) := by decide +kernel
theorem dX7_place_65 : decode cX7_place 65 = .ok (.iconst 4, 1) := by decide +kernel
theorem dX7_place_66 : decode cX7_place 66 = .ok (.goto 4, 3) := by decide +kernel
theorem dX7_place_69 : decode cX7_place 69 = .ok (.iconst 0, 1) := by decide +kernel
theorem dX7_place_70 : decode cX7_place 70 = .ok (.iadd, 1) := by decide +kernel
theorem dX7_place_71 : decode cX7_place 71 = .ok (.aload_n 0, 1) := by decide +kernel
theorem dX7_place_72 : decode cX7_place 72 = .ok (.getfield 45, 3) := by decide +kernel
theorem dX7_place_75 : decode cX7_place 75 = .ok (.iload_n 1, 1) := by decide +kernel
theorem dX7_place_76 : decode cX7_place 76 = .ok (.baload, 1) := by decide +kernel
theorem dX7_place_77 : decode cX7_place 77 = .ok (.ifCond .eq 8, 3) := by decide +kernel
theorem dX7_place_80 : decode cX7_place 80 = .ok (.bipush 8, 2) := by decide +kernel
theorem dX7_place_82 : decode cX7_place 82 = .ok (.goto 4, 3) := by decide +kernel
theorem dX7_place_85 : decode cX7_place 85 = .ok (.iconst 0, 1) := by decide +kernel
theorem dX7_place_86 : decode cX7_place 86 = .ok (.iadd, 1) := by decide +kernel
theorem dX7_place_87 : decode cX7_place 87 = .ok (.bipush 16, 2) := by decide +kernel
theorem dX7_place_89 : decode cX7_place 89 = .ok (.aload_n 0, 1) := by decide +kernel
theorem dX7_place_90 : decode cX7_place 90 = .ok (.getfield 13, 3) := by decide +kernel
theorem dX7_place_93 : decode cX7_place 93 = .ok (.iload_n 1, 1) := by decide +kernel
theorem dX7_place_94 : decode cX7_place 94 = .ok (.iaload, 1) := by decide +kernel
theorem dX7_place_95 : decode cX7_place 95 = .ok (.imul, 1) := by decide +kernel
theorem dX7_place_96 : decode cX7_place 96 = .ok (.iadd, 1) := by decide +kernel
theorem dX7_place_97 : decode cX7_place 97 = .ok (.ireturn, 1) := by decide +kernel
set_option maxRecDepth 20000 in
theorem ggX7_zone_X7_in : GoodIn wsX7_zone wsX7_in := goodIn_r _ [7] (by decide +kernel) (by decide +kernel)
set_option maxRecDepth 20000 in
theorem gX7_zone_X7_in : GoodIn wsX7_zone (va_wsS RX7 99 yX7_in wsX7_in) := goodIn_app (goodIn_of _ (by decide +kernel)) ggX7_zone_X7_in
set_option maxRecDepth 20000 in
theorem ggX7_zone_X7_warns : GoodIn wsX7_zone wsX7_warns := goodIn_r _ [11, 12, 13, 14, 15, 16, 17, 18, 19, 20, 21, 6, 22, 4, 5, 7, 23, 24, 25, 26, 27, 28, 29, 30, 31, 32, 33, 34, 35, 36, 37, 38, 39, 40, 41, 42, 43, 44, 45, 46, 47, 48, 49, 50, 51, 52, 53, 54, 55, 56] (by decide +kernel) (by decide +kernel)
set_option maxRecDepth 20000 in
theorem gX7_zone_X7_warns : GoodIn wsX7_zone (wsV RX7 174 RX7 yX7_warns wsX7_warns) := goodIn_app (goodIn_of _ (by decide +kernel)) ggX7_zone_X7_warns
theorem dX7_zone_0 : decode cX7_zone 0 = .ok (.aload_n 0, 1) := by decide +kernel
theorem dX7_zone_1 : decode cX7_zone 1 = .ok (.iload_n 1, 1) := by decide +kernel
theorem dX7_zone_2 : decode cX7_zone 2 = .ok (.iconst 0, 1) := by decide +kernel
theorem dX7_zone_3 : decode cX7_zone 3 = .ok (.iconst 3, 1) := by decide +kernel
theorem dX7_zone_4 : decode cX7_zone 4 = .ok (.invokestatic 99, 3) := by decide +kernel
theorem dX7_zone_7 : decode cX7_zone 7 = .ok (.ifCond .eq 7, 3) := by decide +kernel
theorem dX7_zone_10 : decode cX7_zone 10 = .ok (.iconst 0, 1) := by decide +kernel
theorem dX7_zone_11 : decode cX7_zone 11 = .ok (.goto 4, 3) := by decide +kernel
theorem dX7_zone_14 : decode cX7_zone 14 = .ok (.iconst 1, 1) := by decide +kernel
theorem dX7_zone_15 : decode cX7_zone 15 = .ok (.putfield 88, 3) := by decide +kernel
theorem dX7_zone_18 : decode cX7_zone 18 = .ok (.aload_n 0, 1) := by decide +kernel
theorem dX7_zone_19 : decode cX7_zone 19 = .ok (.getfield 88, 3) := by decide +kernel
theorem dX7_zone_22 : decode cX7_zone 22 = .ok (.ifCond .le 5, 3) := by decide +kernel
theorem dX7_zone_25 : decode cX7_zone 25 = .ok (.iconst 0, 1) := by decide +kernel
theorem dX7_zone_26 : decode cX7_zone 26 = .ok (.ireturn, 1) := by decide +kernel
theorem dX7_zone_27 : decode cX7_zone 27 = .ok (.aload_n 0, 1) := by decide +kernel
theorem dX7_zone_28 : decode cX7_zone 28 = .ok (.getfield 54, 3) := by decide +kernel
theorem dX7_zone_31 : decode cX7_zone 31 = .ok (.iload_n 1, 1) := by decide +kernel
theorem dX7_zone_32 : decode cX7_zone 32 = .ok (.baload, 1) := by decide +kernel
theorem dX7_zone_33 : decode cX7_zone 33 = .ok (.ifCond .eq 7, 3) := by decide +kernel
theorem dX7_zone_36 : decode cX7_zone 36 = .ok (.iconst 1, 1) := by decide +kernel
theorem dX7_zone_37 : decode cX7_zone 37 = .ok (.goto 4, 3) := by decide +kernel
theorem dX7_zone_40 : decode cX7_zone 40 = .ok (.iconst 0, 1) := by decide +kernel
theorem dX7_zone_41 : decode cX7_zone 41 = .ok (.aload_n 0, 1) := by decide +kernel
theorem dX7_zone_42 : decode cX7_zone 42 = .ok (.iload_n 1, 1) := by decide +kernel
theorem dX7_zone_43 : decode cX7_zone 43 = .ok (.invokevirtual 174, 3) := by decide +kernel
theorem dX7_zone_46 : decode cX7_zone 46 = .ok (.ifCond .eq 7, 3) := by decide +kernel
theorem dX7_zone_49 : decode cX7_zone 49 = .ok (.iconst 2, 1) := by decide +kernel
theorem dX7_zone_50 : decode cX7_zone 50 = .ok (.goto 4, 3) := by decide +kernel
theorem dX7_zone_53 : decode cX7_zone 53 = .ok (.iconst 0, 1) := by decide +kernel
theorem dX7_zone_54 : decode cX7_zone 54 = .ok (.iadd, 1) := by decide +kernel
theorem dX7_zone_55 : decode cX7_zone 55 = .ok (.aload_n 0, 1) := by decide +kernel
theorem dX7_zone_56 : decode cX7_zone 56 = .ok (.getfield 48, 3) := by decide +kernel
theorem dX7_zone_59 : decode cX7_zone 59 = .ok (.iload_n 1, 1) := by decide +kernel
theorem dX7_zone_60 : decode cX7_zone 60 = .ok (.baload, 1) := by decide +kernel
theorem dX7_zone_61 : decode cX7_zone 61 = .ok (.ifCond .eq 7, 3) := by decide +kernel
theorem dX7_zone_64 : decode cX7_zone 64 = .ok (.iconst 4, 1) := by decide +kernel
theorem dX7_zone_65 : decode cX7_zone 65 = .ok (.goto 4, 3) := by decide +kernel
theorem dX7_zone_68 : decode cX7_zone 68 = .ok (.iconst 0, 1) := by decide +kernel
theorem dX7_zone_69 : decode cX7_zone 69 = .ok (.iadd, 1) := by decide +kernel
theorem dX7_zone_70 : decode cX7_zone 70 = .ok (.ireturn, 1) := by decide +kernel
set_option maxRecDepth 20000 in
theorem ggX7_output_X7_in : GoodIn wsX7_output wsX7_in := goodIn_r _ [7] (by decide +kernel) (by decide +kernel)
set_option maxRecDepth 20000 in
theorem gX7_output_X7_in : GoodIn wsX7_output (va_wsS RX7 99 yX7_in wsX7_in) := goodIn_app (goodIn_of _ (by decide +kernel)) ggX7_output_X7_in
theorem dX7_output_0 : decode cX7_output 0 = .ok (.aload_n 0, 1) := by decide +kernel
theorem dX7_output_1 : decode cX7_output 1 = .ok (.iload_n 1, 1) := by decide +kernel
theorem dX7_output_2 : decode cX7_output 2 = .ok (.iconst 0, 1) := by decide +kernel
theorem dX7_output_3 : decode cX7_output 3 = .ok (.iconst 5, 1) := by decide +kernel
theorem dX7_output_4 : decode cX7_output 4 = .ok (.invokestatic 99, 3) := by decide +kernel
theorem dX7_output_7 : decode cX7_output 7 = .ok (.ifCond .eq 7, 3) := by decide +kernel
theorem dX7_output_10 : decode cX7_output 10 = .ok (.iconst 0, 1) := by decide +kernel
theorem dX7_output_11 : decode cX7_output 11 = .ok (.goto 4, 3) := by decide +kernel
theorem dX7_output_14 : decode cX7_output 14 = .ok (.iconst 1, 1) := by decide +kernel
theorem dX7_output_15 : decode cX7_output 15 = .ok (.putfield 88, 3) := by decide +kernel
theorem dX7_output_18 : decode cX7_output 18 = .ok (.aload_n 0, 1) := by decide +kernel
theorem dX7_output_19 : decode cX7_output 19 = .ok (.getfield 88, 3) := by decide +kernel
theorem dX7_output_22 : decode cX7_output 22 = .ok (.ifCond .gt 12, 3) := by decide +kernel
theorem dX7_output_25 : decode cX7_output 25 = .ok (.aload_n 0, 1) := by decide +kernel
theorem dX7_output_26 : decode cX7_output 26 = .ok (.getfield 72, 3) := by decide +kernel
theorem dX7_output_29 : decode cX7_output 29 = .ok (.iload_n 1, 1) := by decide +kernel
theorem dX7_output_30 : decode cX7_output 30 = .ok (.baload, 1) := by decide +kernel
theorem dX7_output_31 : decode cX7_output 31 = .ok (.ifCond .ne 5, 3) := by decide +kernel
theorem dX7_output_34 : decode cX7_output 34 = .ok (.iconst 0, 1) := by decide +kernel
theorem dX7_output_35 : decode cX7_output 35 = .ok (.ireturn, 1) := by decide +kernel
theorem dX7_output_36 : decode cX7_output 36 = .ok (.iload_n 1, 1) := by decide +kernel
theorem dX7_output_37 : decode cX7_output 37 = .ok (.iconst 3, 1) := by decide +kernel
theorem dX7_output_38 : decode cX7_output 38 = .ok (.if_icmp .ge 14, 3) := by decide +kernel
theorem dX7_output_41 : decode cX7_output 41 = .ok (.aload_n 0, 1) := by decide +kernel
theorem dX7_output_42 : decode cX7_output 42 = .ok (.getfield 186, 3) := by decide +kernel
theorem dX7_output_45 : decode cX7_output 45 = .ok (.ifCond .eq 7, 3) := by decide +kernel
theorem dX7_output_48 : decode cX7_output 48 = .ok (.iconst 1, 1) := by decide +kernel
theorem dX7_output_49 : decode cX7_output 49 = .ok (.goto 4, 3) := by decide +kernel
theorem dX7_output_52 : decode cX7_output 52 = .ok (.iconst 3, 1) := by decide +kernel
theorem dX7_output_53 : decode cX7_output 53 = .ok (.ireturn, 1) := by decide +kernel
set_option maxRecDepth 20000 in
theorem ggX7_held_X7_in : GoodIn wsX7_held wsX7_in := goodIn_r _ [7] (by decide +kernel) (by decide +kernel)
set_option maxRecDepth 20000 in
theorem gX7_held_X7_in : GoodIn wsX7_held (va_wsS RX7 99 yX7_in wsX7_in) := goodIn_app (goodIn_of _ (by decide +kernel)) ggX7_held_X7_in
theorem dX7_held_0 : decode cX7_held 0 = .ok (.aload_n 0, 1) := by decide +kernel
theorem dX7_held_1 : decode cX7_held 1 = .ok (.iload_n 1, 1) := by decide +kernel
theorem dX7_held_2 : decode cX7_held 2 = .ok (.iconst 0, 1) := by decide +kernel
theorem dX7_held_3 : decode cX7_held 3 = .ok (.aload_n 0, 1) := by decide +kernel
theorem dX7_held_4 : decode cX7_held 4 = .ok (.getfield 141, 3) := by decide +kernel
theorem dX7_held_7 : decode cX7_held 7 = .ok (.iconst 1, 1) := by decide +kernel
theorem dX7_held_8 : decode cX7_held 8 = .ok (.isub, 1) := by decide +kernel
theorem dX7_held_9 : decode cX7_held 9 = .ok (.invokestatic 99, 3) := by decide +kernel
theorem dX7_held_12 : decode cX7_held 12 = .ok (.ifCond .eq 7, 3) := by decide +kernel
theorem dX7_held_15 : decode cX7_held 15 = .ok (.iconst 0, 1) := by decide +kernel
theorem dX7_held_16 : decode cX7_held 16 = .ok (.goto 4, 3) := by decide +kernel
theorem dX7_held_19 : decode cX7_held 19 = .ok (.iconst 1, 1) := by decide +kernel
theorem dX7_held_20 : decode cX7_held 20 = .ok (.putfield 88, 3) := by decide +kernel
theorem dX7_held_23 : decode cX7_held 23 = .ok (.aload_n 0, 1) := by decide +kernel
theorem dX7_held_24 : decode cX7_held 24 = .ok (.getfield 88, 3) := by decide +kernel
theorem dX7_held_27 : decode cX7_held 27 = .ok (.ifCond .le 7, 3) := by decide +kernel
theorem dX7_held_30 : decode cX7_held 30 = .ok (.iconst 0, 1) := by decide +kernel
theorem dX7_held_31 : decode cX7_held 31 = .ok (.goto 9, 3) := by decide +kernel
theorem dX7_held_34 : decode cX7_held 34 = .ok (.aload_n 0, 1) := by decide +kernel
theorem dX7_held_35 : decode cX7_held 35 = .ok (.getfield 69, 3) := by decide +kernel
theorem dX7_held_38 : decode cX7_held 38 = .ok (.iload_n 1, 1) := by decide +kernel
theorem dX7_held_39 : decode cX7_held 39 = .ok (.iaload, 1) := by decide +kernel
theorem dX7_held_40 : decode cX7_held 40 = .ok (.ireturn, 1) := by decide +kernel
set_option maxRecDepth 20000 in
theorem ggX7_log_X7_in : GoodIn wsX7_log wsX7_in := goodIn_r _ [7] (by decide +kernel) (by decide +kernel)
set_option maxRecDepth 20000 in
theorem gX7_log_X7_in : GoodIn wsX7_log (va_wsS RX7 99 yX7_in wsX7_in) := goodIn_app (goodIn_of _ (by decide +kernel)) ggX7_log_X7_in
theorem dX7_log_0 : decode cX7_log 0 = .ok (.aload_n 0, 1) := by decide +kernel
theorem dX7_log_1 : decode cX7_log 1 = .ok (.iload_n 1, 1) := by decide +kernel
theorem dX7_log_2 : decode cX7_log 2 = .ok (.iconst 0, 1) := by decide +kernel
theorem dX7_log_3 : decode cX7_log 3 = .ok (.aload_n 0, 1) := by decide +kernel
theorem dX7_log_4 : decode cX7_log 4 = .ok (.getfield 151, 3) := by decide +kernel
theorem dX7_log_7 : decode cX7_log 7 = .ok (.iconst 1, 1) := by decide +kernel
theorem dX7_log_8 : decode cX7_log 8 = .ok (.isub, 1) := by decide +kernel
theorem dX7_log_9 : decode cX7_log 9 = .ok (.invokestatic 99, 3) := by decide +kernel
theorem dX7_log_12 : decode cX7_log 12 = .ok (.ifCond .eq 16, 3) := by decide +kernel
theorem dX7_log_15 : decode cX7_log 15 = .ok (.iload_n 2, 1) := by decide +kernel
theorem dX7_log_16 : decode cX7_log 16 = .ok (.iconst 0, 1) := by decide +kernel
theorem dX7_log_17 : decode cX7_log 17 = .ok (.iconst 2, 1) := by decide +kernel
theorem dX7_log_18 : decode cX7_log 18 = .ok (.invokestatic 99, 3) := by decide +kernel
theorem dX7_log_21 : decode cX7_log 21 = .ok (.ifCond .eq 7, 3) := by decide +kernel
theorem dX7_log_24 : decode cX7_log 24 = .ok (.iconst 0, 1) := by decide +kernel
theorem dX7_log_25 : decode cX7_log 25 = .ok (.goto 4, 3) := by decide +kernel
theorem dX7_log_28 : decode cX7_log 28 = .ok (.iconst 1, 1) := by decide +kernel
theorem dX7_log_29 : decode cX7_log 29 = .ok (.putfield 88, 3) := by decide +kernel
theorem dX7_log_32 : decode cX7_log 32 = .ok (.aload_n 0, 1) := by decide +kernel
theorem dX7_log_33 : decode cX7_log 33 = .ok (.getfield 88, 3) := by decide +kernel
theorem dX7_log_36 : decode cX7_log 36 = .ok (.ifCond .le 7, 3) := by decide +kernel
theorem dX7_log_39 : decode cX7_log 39 = .ok (.iconst 0, 1) := by decide +kernel
theorem dX7_log_40 : decode cX7_log 40 = .ok (.goto 13, 3) := by decide +kernel
theorem dX7_log_43 : decode cX7_log 43 = .ok (.aload_n 0, 1) := by decide +kernel
theorem dX7_log_44 : decode cX7_log 44 = .ok (.getfield 79, 3) := by decide +kernel
theorem dX7_log_47 : decode cX7_log 47 = .ok (.iconst 3, 1) := by decide +kernel
theorem dX7_log_48 : decode cX7_log 48 = .ok (.iload_n 1, 1) := by decide +kernel
theorem dX7_log_49 : decode cX7_log 49 = .ok (.imul, 1) := by decide +kernel
theorem dX7_log_50 : decode cX7_log 50 = .ok (.iload_n 2, 1) := by decide +kernel
theorem dX7_log_51 : decode cX7_log 51 = .ok (.iadd, 1) := by decide +kernel
theorem dX7_log_52 : decode cX7_log 52 = .ok (.iaload, 1) := by decide +kernel
theorem dX7_log_53 : decode cX7_log 53 = .ok (.ireturn, 1) := by decide +kernel
set_option maxRecDepth 20000 in
theorem ggX7_count_X7_in : GoodIn wsX7_count wsX7_in := goodIn_r _ [10] (by decide +kernel) (by decide +kernel)
set_option maxRecDepth 20000 in
theorem gX7_count_X7_in : GoodIn wsX7_count (va_wsS RX7 99 yX7_in wsX7_in) := goodIn_app (goodIn_of _ (by decide +kernel)) ggX7_count_X7_in
set_option maxRecDepth 20000 in
theorem ggX7_count_X7_faults : GoodIn wsX7_count wsX7_faults := goodIn_r _ [14, 15, 16, 17, 18, 19, 20, 21, 22, 23, 24, 25, 26, 27, 28, 29, 30, 31, 32, 33, 34, 35, 36, 37, 38, 39, 40, 41, 42, 43, 44, 45, 46, 47, 48, 49] (by decide +kernel) (by decide +kernel)
set_option maxRecDepth 20000 in
theorem gX7_count_X7_faults : GoodIn wsX7_count (wsV RX7 171 RX7 yX7_faults wsX7_faults) := goodIn_app (goodIn_of _ (by decide +kernel)) ggX7_count_X7_faults
theorem dX7_count_0 : decode cX7_count 0 = .ok (.aload_n 0, 1) := by decide +kernel
theorem dX7_count_1 : decode cX7_count 1 = .ok (.iload_n 1, 1) := by decide +kernel
theorem dX7_count_2 : decode cX7_count 2 = .ok (.iconst 0, 1) := by decide +kernel
theorem dX7_count_3 : decode cX7_count 3 = .ok (.iconst 5, 1) := by decide +kernel
theorem dX7_count_4 : decode cX7_count 4 = .ok (.invokestatic 99, 3) := by decide +kernel
theorem dX7_count_7 : decode cX7_count 7 = .ok (.ifCond .eq 7, 3) := by decide +kernel
theorem dX7_count_10 : decode cX7_count 10 = .ok (.iconst 0, 1) := by decide +kernel
theorem dX7_count_11 : decode cX7_count 11 = .ok (.goto 4, 3) := by decide +kernel
theorem dX7_count_14 : decode cX7_count 14 = .ok (.iconst 1, 1) := by decide +kernel
theorem dX7_count_15 : decode cX7_count 15 = .ok (.putfield 88, 3) := by decide +kernel
theorem dX7_count_18 : decode cX7_count 18 = .ok (.iload_n 1, 1) := by decide +kernel
theorem dX7_count_19 : decode cX7_count 19 = .ok (.tableswitch 75 0 5 #[37, 42, 47, 52, 65, 70], 37) := by decide +kernel
theorem dX7_count_56 : decode cX7_count 56 = .ok (.aload_n 0, 1) := by decide +kernel
theorem dX7_count_57 : decode cX7_count 57 = .ok (.getfield 148, 3) := by decide +kernel
theorem dX7_count_60 : decode cX7_count 60 = .ok (.ireturn, 1) := by decide +kernel
theorem dX7_count_61 : decode cX7_count 61 = .ok (.aload_n 0, 1) := by decide +kernel
theorem dX7_count_62 : decode cX7_count 62 = .ok (.getfield 141, 3) := by decide +kernel
theorem dX7_count_65 : decode cX7_count 65 = .ok (.ireturn, 1) := by decide +kernel
theorem dX7_count_66 : decode cX7_count 66 = .ok (.aload_n 0, 1) := by decide +kernel
theorem dX7_count_67 : decode cX7_count 67 = .ok (.getfield 105, 3) := by decide +kernel
theorem dX7_count_70 : decode cX7_count 70 = .ok (.ireturn, 1) := by decide +kernel
theorem dX7_count_71 : decode cX7_count 71 = .ok (.aload_n 0, 1) := by decide +kernel
theorem dX7_count_72 : decode cX7_count 72 = .ok (.getfield 186, 3) := by decide +kernel
theorem dX7_count_75 : decode cX7_count 75 = .ok (.ifCond .eq 7, 3) := by decide +kernel
theorem dX7_count_78 : decode cX7_count 78 = .ok (.iconst 1, 1) := by decide +kernel
theorem dX7_count_79 : decode cX7_count 79 = .ok (.goto 4, 3) := by decide +kernel
theorem dX7_count_82 : decode cX7_count 82 = .ok (.iconst 0, 1) := by decide +kernel
theorem dX7_count_83 : decode cX7_count 83 = .ok (.ireturn, 1) := by decide +kernel
theorem dX7_count_84 : decode cX7_count 84 = .ok (.aload_n 0, 1) := by decide +kernel
theorem dX7_count_85 : decode cX7_count 85 = .ok (.getfield 110, 3) := by decide +kernel
theorem dX7_count_88 : decode cX7_count 88 = .ok (.ireturn, 1) := by decide +kernel
theorem dX7_count_89 : decode cX7_count 89 = .ok (.aload_n 0, 1) := by decide +kernel
theorem dX7_count_90 : decode cX7_count 90 = .ok (.invokevirtual 171, 3) := by decide +kernel
theorem dX7_count_93 : decode cX7_count 93 = .ok (.ireturn, 1) := by decide +kernel
theorem dX7_count_94 : decode cX7_count 94 = .ok (.iconst 0, 1) := by decide +kernel
theorem dX7_count_95 : decode cX7_count 95 = .ok (.ireturn, 1) := by decide +kernel
theorem dJ9_min_7cf53_0 : decode cJ9_min_7cf53 0 = .ok (.iload_n 0, 1) := by decide +kernel
theorem dJ9_min_7cf53_1 : decode cJ9_min_7cf53 1 = .ok (.iload_n 1, 1) := by decide +kernel
theorem dJ9_min_7cf53_2 : decode cJ9_min_7cf53 2 = .ok (.if_icmp .gt 7, 3) := by decide +kernel
theorem dJ9_min_7cf53_5 : decode cJ9_min_7cf53 5 = .ok (.iload_n 0, 1) := by decide +kernel
theorem dJ9_min_7cf53_6 : decode cJ9_min_7cf53 6 = .ok (.goto 4, 3) := by decide +kernel
theorem dJ9_min_7cf53_9 : decode cJ9_min_7cf53 9 = .ok (.iload_n 1, 1) := by decide +kernel
theorem dJ9_min_7cf53_10 : decode cJ9_min_7cf53 10 = .ok (.ireturn, 1) := by decide +kernel
end
section
abbrev vwCl : List vw_C := [(RX0, TX0, 2), (RX1, TX1, 3), (RX2, TX2, 11), (RX3, TX3, 2), (RX4, TX4, 5), (RX5, TX5, 3), (RX6, TX6, 10), (RX7, TX7, 34)]
end
section
/-! THE POOL: the cells of a world by their addresses. A shape G = (addresses, kind of each, length of each array, references of each), and a memory M = (whole numbers, floats): what stands at an address, by slot or index. Kinds 0 .. 7: objects of the classes vwCl; 8 char, 9 float, 10 int, 11 boolean arrays; 12, 13, 14 arrays of Place, Rule, Zone. -/
abbrev pG : Type := List Nat × (Nat → Nat) × (Nat → Nat) × (Nat → Nat → Option Nat)
abbrev pM : Type := (Nat → Nat → Int32) × (Nat → Nat → UInt32)
/-- one whole number, one float, a whole row is put -/
def pI (M : pM) (a k : Nat) (v : Int32) : pM := (va_up M.1 a (va_up (M.1 a) k v), M.2)
def pF (M : pM) (a k : Nat) (v : UInt32) : pM := (M.1, va_up M.2 a (va_up (M.2 a) k v))
def pR (M : pM) (a : Nat) (f : Nat → Int32) : pM := (va_up M.1 a f, M.2)
/-- the fields of a class: 0 a whole number, 1 a float, 2 a reference -/
def pty : Nat → List Nat
  | 0 => [2, 0]
  | 1 => [2, 0, 0]
  | 2 => [0, 0, 1, 1, 1, 1, 0, 0, 0, 0, 0]
  | 3 => [2, 2]
  | 4 => [2, 0, 0, 0, 0]
  | 5 => [0, 0, 0]
  | 6 => [2, 2, 2, 2, 2, 2, 0, 0, 0, 0]
  | 7 => [0, 2, 2, 2, 2, 2, 2, 2, 2, 2, 2, 2, 2, 2, 2, 2, 0, 2, 2, 2, 2, 2, 2, 0, 2, 0, 0, 0, 0, 2, 0, 2, 0, 2]
  | _ => []
def pval (M : pM) (P : Nat → Nat → Option Nat) (a t i : Nat) : Value := match t with
  | 0 => .int (M.1 a i)
  | 1 => .float (M.2 a i)
  | _ => va_rf (P a i)
def pfl (M : pM) (P : Nat → Nat → Option Nat) (a : Nat) : List Nat → Nat → List Value
  | [], _ => []
  | t :: ts, i => pval M P a t i :: pfl M P a ts (i + 1)
def pcell (cy : Nat → ClassId) (G : pG) (M : pM) (a : Nat) : va_E :=
  if G.2.1 a < 8 then .inr (G.2.1 a, pfl M G.2.2.2 a (pty (G.2.1 a)) 0)
  else if G.2.1 a = 8 then .inl (cy 0, G.2.2.1 a, .inl (M.1 a))
  else if G.2.1 a = 9 then .inl (cy 1, G.2.2.1 a, .inr (.inr (.inl (M.2 a))))
  else if G.2.1 a = 10 then .inl (cy 2, G.2.2.1 a, .inl (M.1 a))
  else if G.2.1 a = 11 then .inl (cy 3, G.2.2.1 a, .inl (M.1 a))
  else .inl (cy (G.2.1 a - 8), G.2.2.1 a, .inr (.inr (.inr (.inr (G.2.2.2 a)))))
def pW (cy : Nat → ClassId) (X : va_W) (G : pG) (M : pM) : va_W := X ++ va_pl G.1 (pcell cy G M)
abbrev ptys (cy : Nat → ClassId) : List (ClassId × FieldType) := [(cy 0, .char), (cy 1, .float), (cy 2, .int), (cy 3, .boolean), (cy 4, .object RX2), (cy 5, .object RX4), (cy 6, .object RX5), (cy 7, .long), (cy 8, .double)]
theorem pI_1s (M : pM) (a k : Nat) (v : Int32) : (pI M a k v).1 a = va_up (M.1 a) k v := by simp [pI, va_up]
theorem pI_1n (M : pM) {a b : Nat} (k : Nat) (v : Int32) (h : b ≠ a) : (pI M a k v).1 b = M.1 b := by simp [pI, va_up, h]
theorem pI_2 (M : pM) (a k : Nat) (v : Int32) : (pI M a k v).2 = M.2 := rfl
theorem pF_1 (M : pM) (a k : Nat) (v : UInt32) : (pF M a k v).1 = M.1 := rfl
theorem pF_2s (M : pM) (a k : Nat) (v : UInt32) : (pF M a k v).2 a = va_up (M.2 a) k v := by simp [pF, va_up]
theorem pF_2n (M : pM) {a b : Nat} (k : Nat) (v : UInt32) (h : b ≠ a) : (pF M a k v).2 b = M.2 b := by simp [pF, va_up, h]
theorem pR_1s (M : pM) (a : Nat) (f : Nat → Int32) : (pR M a f).1 a = f := by simp [pR, va_up]
theorem pR_1n (M : pM) {a b : Nat} (f : Nat → Int32) (h : b ≠ a) : (pR M a f).1 b = M.1 b := by simp [pR, va_up, h]
theorem pfl_len (M : pM) (P : Nat → Nat → Option Nat) (a : Nat) : ∀ (ts : List Nat) (i : Nat), (pfl M P a ts i).length = ts.length
  | [], _ => rfl
  | t :: ts, i => by simp [pfl, pfl_len M P a ts (i + 1)]
theorem pfl_get (M : pM) (P : Nat → Nat → Option Nat) (a : Nat) : ∀ (ts : List Nat) (i j t : Nat), ts[j]? = some t → (pfl M P a ts i)[j]? = some (pval M P a t (i + j))
  | [], i, j, t, h => by simp at h
  | t0 :: ts, i, 0, t, h => by
    simp at h
    subst h
    simp [pfl]
  | t0 :: ts, i, j + 1, t, h => by
    have h1 : ts[j]? = some t := by simpa using h
    have h2 := pfl_get M P a ts (i + 1) j t h1
    simp only [pfl, List.getElem?_cons_succ]
    rw [h2, show i + 1 + j = i + (j + 1) by omega]
theorem pfl_congr {M M' : pM} (P : Nat → Nat → Option Nat) {a : Nat} (h1 : M.1 a = M'.1 a) (h2 : M.2 a = M'.2 a) : ∀ (ts : List Nat) (i : Nat), pfl M P a ts i = pfl M' P a ts i
  | [], _ => rfl
  | t :: ts, i => by
    simp only [pfl]
    rw [pfl_congr P h1 h2 ts (i + 1)]
    congr 1
    unfold pval
    split <;> simp [h1, h2]
theorem pcell_congr {M M' : pM} (cy : Nat → ClassId) (G : pG) {a : Nat} (h1 : M.1 a = M'.1 a) (h2 : M.2 a = M'.2 a) : pcell cy G M a = pcell cy G M' a := by
  unfold pcell
  rw [pfl_congr _ h1 h2, h1, h2]
theorem pval_ne {M M' : pM} (P : Nat → Nat → Option Nat) {a i : Nat} (t : Nat) (h1 : M.1 a i = M'.1 a i) (h2 : M.2 a i = M'.2 a i) : pval M P a t i = pval M' P a t i := by
  unfold pval
  split <;> simp [h1, h2]
theorem pfl_set {M M' : pM} (P : Nat → Nat → Option Nat) {a : Nat} (ts : List Nat) {j t : Nat} {v : Value} (ht : ts[j]? = some t) (hv : v = pval M' P a t j) (h : ∀ i, i ≠ j → M.1 a i = M'.1 a i ∧ M.2 a i = M'.2 a i) : (pfl M P a ts 0).set j v = pfl M' P a ts 0 := by
  apply List.ext_getElem?
  intro k
  rw [List.getElem?_set]
  by_cases hk : j = k
  · subst hk
    have hj : j < ts.length := (List.getElem?_eq_some_iff.mp ht).1
    have h2 := pfl_get M' P a ts 0 j t ht
    rw [h2]
    simp [pfl_len, hj, hv]
  · rw [if_neg hk]
    cases h3 : ts[k]? with
    | none =>
      have h4 : ts.length ≤ k := by simpa using h3
      rw [List.getElem?_eq_none (by rw [pfl_len]; exact h4), List.getElem?_eq_none (by rw [pfl_len]; exact h4)]
    | some t' =>
      rw [pfl_get M P a ts 0 k t' h3, pfl_get M' P a ts 0 k t' h3]
      obtain ⟨e1, e2⟩ := h (0 + k) (by omega)
      rw [pval_ne P t' e1 e2]
/-- the cell of an object, of an array -/
theorem pcell_o (cy : Nat → ClassId) (G : pG) (M : pM) {a c : Nat} (hK : G.2.1 a = c) (hc : c < 8) : pcell cy G M a = .inr (c, pfl M G.2.2.2 a (pty c) 0) := by
  subst hK
  unfold pcell
  rw [if_pos hc]
theorem pcell_C (cy : Nat → ClassId) (G : pG) (M : pM) {a : Nat} (hK : G.2.1 a = 8) : pcell cy G M a = .inl (cy 0, G.2.2.1 a, .inl (M.1 a)) := by simp [pcell, hK]
theorem pcell_F (cy : Nat → ClassId) (G : pG) (M : pM) {a : Nat} (hK : G.2.1 a = 9) : pcell cy G M a = .inl (cy 1, G.2.2.1 a, .inr (.inr (.inl (M.2 a)))) := by simp [pcell, hK]
theorem pcell_I (cy : Nat → ClassId) (G : pG) (M : pM) {a : Nat} (hK : G.2.1 a = 10) : pcell cy G M a = .inl (cy 2, G.2.2.1 a, .inl (M.1 a)) := by simp [pcell, hK]
theorem pcell_Z (cy : Nat → ClassId) (G : pG) (M : pM) {a : Nat} (hK : G.2.1 a = 11) : pcell cy G M a = .inl (cy 3, G.2.2.1 a, .inl (M.1 a)) := by simp [pcell, hK]
theorem pcell_P (cy : Nat → ClassId) (G : pG) (M : pM) {a k : Nat} (hK : G.2.1 a = k) (hk : 12 ≤ k) : pcell cy G M a = .inl (cy (k - 8), G.2.2.1 a, .inr (.inr (.inr (.inr (G.2.2.2 a))))) := by
  subst hK
  unfold pcell
  rw [if_neg (by omega), if_neg (by omega), if_neg (by omega), if_neg (by omega), if_neg (by omega)]
theorem pW_get (cy : Nat → ClassId) (X : va_W) (G : pG) (M : pM) {a : Nat} (hL : a ∈ G.1) : ∃ k : Nat, (pW cy X G M)[k]? = some (a, pcell cy G M a) := va_pl_get (X := X) (f := pcell cy G M) hL
theorem pW_set {cy : Nat → ClassId} {X : va_W} {G : pG} {M M' : pM} {A : Nat → Prop} {a k : Nat} {e : va_E} (hD : va_D A (pW cy X G M)) (hL : a ∈ G.1) (hk : (pW cy X G M)[k]? = some (a, pcell cy G M a)) (he : e = pcell cy G M' a) (ho : ∀ b, b ≠ a → M.1 b = M'.1 b ∧ M.2 b = M'.2 b) : (pW cy X G M).set k (a, e) = pW cy X G M' := by
  have h1 := va_pl_set (X := X) (f := pcell cy G M) (e := e) hD hL hk
  have h2 : va_pl G.1 (va_up (pcell cy G M) a e) = va_pl G.1 (pcell cy G M') := by
    refine va_pl_congr fun b => ?_
    by_cases hb : b = a
    · subst hb
      simp [va_up, he]
    · simp only [va_up, if_neg hb]
      exact pcell_congr cy G (ho b hb).1 (ho b hb).2
  show (X ++ va_pl G.1 (pcell cy G M)).set k (a, e) = X ++ va_pl G.1 (pcell cy G M')
  rw [h1, h2]
theorem pD_any {A : Nat → Prop} {cy : Nat → ClassId} {X : va_W} {G : pG} {M : pM} (M' : pM) (hD : va_D A (pW cy X G M)) : va_D A (pW cy X G M') := by
  have key : ∀ (k : Nat) (q : Nat × va_E), (pW cy X G M')[k]? = some q → ∃ e, (pW cy X G M)[k]? = some (q.1, e) := by
    intro k q hq
    unfold pW va_pl at hq ⊢
    by_cases h1 : k < X.length
    · rw [List.getElem?_append_left h1] at hq ⊢
      exact ⟨q.2, hq⟩
    · rw [List.getElem?_append_right (by omega)] at hq ⊢
      rw [List.getElem?_map] at hq ⊢
      cases h2 : G.1[k - X.length]? with
      | none => rw [h2] at hq; cases hq
      | some a =>
        rw [h2] at hq
        cases hq
        exact ⟨pcell cy G M a, rfl⟩
  constructor
  · intro i j p q hi hj h
    obtain ⟨e1, h1⟩ := key i p hi
    obtain ⟨e2, h2⟩ := key j q hj
    exact hD.1 i j _ _ h1 h2 h
  · intro k q hq
    obtain ⟨e1, h1⟩ := key k q hq
    exact hD.2 k (q.1, e1) h1
theorem pI_rd (M : pM) (a k j : Nat) (v : Int32) : (pI M a k v).1 a j = if j = k then v else M.1 a j := by simp [pI, va_up]
theorem pF_rd (M : pM) (a k j : Nat) (v : UInt32) : (pF M a k v).2 a j = if j = k then v else M.2 a j := by simp [pF, va_up]
theorem pR_rd (M : pM) (a j : Nat) (f : Nat → Int32) : (pR M a f).1 a j = f j := by simp [pR, va_up]
theorem pR_2 (M : pM) (a : Nat) (f : Nat → Int32) : (pR M a f).2 = M.2 := rfl
end
section
/-! THE JUDGEMENT jW: the machine at pc with locals lv, operand stack st, world X and the pool (shape in C, memory M). C holds all that stays the same within one method. -/
abbrev jC : Type := (Program × Launch × Env × Room × State × MethodId × Array Value × List Frame × Method × Code) × (va_G × (Nat → ClassId) × pG × (Nat → Prop) × Heap)
abbrev jp (C : jC) : Program := C.1.1
abbrev jl (C : jC) : Launch := C.1.2.1
abbrev je (C : jC) : Env := C.1.2.2.1
abbrev jR (C : jC) : Room := C.1.2.2.2.1
abbrev js (C : jC) : State := C.1.2.2.2.2.1
abbrev jm (C : jC) : MethodId := C.1.2.2.2.2.2.1
abbrev ja (C : jC) : Array Value := C.1.2.2.2.2.2.2.1
abbrev jb (C : jC) : List Frame := C.1.2.2.2.2.2.2.2.1
abbrev jme (C : jC) : Method := C.1.2.2.2.2.2.2.2.2.1
abbrev jc (C : jC) : Code := C.1.2.2.2.2.2.2.2.2.2
abbrev jD (C : jC) : va_G := C.2.1
abbrev jcy (C : jC) : Nat → ClassId := C.2.2.1
abbrev jG (C : jC) : pG := C.2.2.2.1
abbrev jA (C : jC) : Nat → Prop := C.2.2.2.2.1
abbrev jH (C : jC) : Heap := C.2.2.2.2.2
def jE (C : jC) (cc : ByteArray) (nL : Nat) (Ts : List Cond) (own : String) (ret : Option FieldType) (rm : Room) : Prop :=
  (jp C).tables.exec = Jvm.exec ∧ (jc C).code = cc ∧ (jc C).maxLocals = nL ∧ (js C).vm.findClass own = some (jm C).cls ∧ (∀ w ∈ Ts, w.before (ja C) (js C) = true) ∧ va_K (jD C) vwCl (ptys (jcy C)) (js C) ∧ (∀ q, (jH C).size ≤ q → jA C q) ∧ (jme C).locks = false ∧ (jme C).sig.returnType = ret ∧ jH C = (js C).heap ∧ jR C = rm
def jW (C : jC) (nL pc : Nat) (lv : List (Nat × Value)) (st : List Value) (X : va_W) (M : pM) (kc ks : Nat) (Q : State → Prop) : Prop :=
  ∀ (H : Heap) (locs : List Loc) (ls : Array Slot), va_P (jD C) vwCl (pW (jcy C) X (jG C) M) H → va_D (jA C) (pW (jcy C) X (jG C) M) → va_S (jA C) (jH C) H locs → lv_has ls nL lv →
    W (jp C) (jl C) (je C) (jR C) (js C) (jm C) (ja C) (jb C) (jme C) (jc C) H locs kc ks Q (F0 (jm C) pc ls st)
theorem jl_in : ∀ {lv : List (Nat × Value)} {i : Nat} {v : Value}, lv.lookup i = some v → (i, v) ∈ lv
  | [], _, _, h => by simp at h
  | (j, u) :: t, i, v, h => by
    cases hb : (i == j) with
    | true =>
      simp [List.lookup, hb] at h
      have e : i = j := by simpa using hb
      subst e; subst h
      exact List.mem_cons_self
    | false =>
      simp [List.lookup, hb] at h
      exact List.mem_cons_of_mem _ (jl_in h)
def jset (lv : List (Nat × Value)) (i : Nat) (v : Value) : List (Nat × Value) := (i, v) :: lv.filter (fun q => !(q.1 == i) && !(q.1 + 1 == i && q.2.category == 2))
def jpick (lv : List (Nat × Value)) (is : List Nat) : List (Nat × Value) := is.filterMap (fun i => (lv.lookup i).map (fun v => (i, v)))
section J
variable {C : jC} {cc : ByteArray} {nL : Nat} {Ts : List Cond} {own : String} {ret : Option FieldType} {rm : Room} {pc : Nat} {lv : List (Nat × Value)} {st : List Value} {X : va_W} {M : pM} {kc ks : Nat} {Q : State → Prop}
theorem j_lv (is : List Nat) {lv' : List (Nat × Value)} (h : jpick lv is = lv') (k : jW C nL pc lv' st X M kc ks Q) : jW C nL pc lv st X M kc ks Q := fun H locs ls hP hD hS hl => k H locs ls hP hD hS ⟨hl.1, hl.2.1, fun q hq => by
  rw [← h] at hq
  obtain ⟨i, -, hi⟩ := List.mem_filterMap.mp hq
  cases hv : lv.lookup i with
  | none => rw [hv] at hi; cases hi
  | some v => rw [hv] at hi; cases hi; exact hl.2.2 _ (jl_in hv)⟩
theorem j_M {M' : pM} (h : M = M') (k : jW C nL pc lv st X M' kc ks Q) : jW C nL pc lv st X M kc ks Q := h ▸ k
theorem j_st {st' : List Value} (h : st = st') (k : jW C nL pc lv st' X M kc ks Q) : jW C nL pc lv st X M kc ks Q := h ▸ k
theorem j_iconst (E : jE C cc nL Ts own ret rm) {n : Int} {v : Int32} (hd : decode cc pc = .ok (.iconst n, 1)) (hv : Int32.ofInt n = v) (k : jW C nL (pc + 1) lv (.int v :: st) X M kc ks Q) : jW C nL pc lv (st) X M kc ks Q := fun H locs ls hP hD hS hl => lv_iconst E.1 E.2.1 hd hv (k H locs ls hP hD hS hl)
theorem j_bipush (E : jE C cc nL Ts own ret rm) {n : Int} {v : Int32} (hd : decode cc pc = .ok (.bipush n, 2)) (hv : (Int8.ofInt n).toInt32 = v) (k : jW C nL (pc + 2) lv (.int v :: st) X M kc ks Q) : jW C nL pc lv (st) X M kc ks Q := fun H locs ls hP hD hS hl => lv_bipush E.1 E.2.1 hd hv (k H locs ls hP hD hS hl)
theorem j_sipush (E : jE C cc nL Ts own ret rm) {n : Int} {v : Int32} (hd : decode cc pc = .ok (.sipush n, 3)) (hv : (Int16.ofInt n).toInt32 = v) (k : jW C nL (pc + 3) lv (.int v :: st) X M kc ks Q) : jW C nL pc lv (st) X M kc ks Q := fun H locs ls hP hD hS hl => lv_sipush E.1 E.2.1 hd hv (k H locs ls hP hD hS hl)
theorem j_iadd (E : jE C cc nL Ts own ret rm) {x y : Int32} (hd : decode cc pc = .ok (.iadd, 1)) (k : jW C nL (pc + 1) lv (.int (x + y) :: st) X M kc ks Q) : jW C nL pc lv (.int y :: .int x :: st) X M kc ks Q := fun H locs ls hP hD hS hl => lv_iadd E.1 E.2.1 hd (k H locs ls hP hD hS hl)
theorem j_isub (E : jE C cc nL Ts own ret rm) {x y : Int32} (hd : decode cc pc = .ok (.isub, 1)) (k : jW C nL (pc + 1) lv (.int (x - y) :: st) X M kc ks Q) : jW C nL pc lv (.int y :: .int x :: st) X M kc ks Q := fun H locs ls hP hD hS hl => lv_isub E.1 E.2.1 hd (k H locs ls hP hD hS hl)
theorem j_imul (E : jE C cc nL Ts own ret rm) {x y : Int32} (hd : decode cc pc = .ok (.imul, 1)) (k : jW C nL (pc + 1) lv (.int (x * y) :: st) X M kc ks Q) : jW C nL pc lv (.int y :: .int x :: st) X M kc ks Q := fun H locs ls hP hD hS hl => lv_imul E.1 E.2.1 hd (k H locs ls hP hD hS hl)
theorem j_iand (E : jE C cc nL Ts own ret rm) {x y : Int32} (hd : decode cc pc = .ok (.iand, 1)) (k : jW C nL (pc + 1) lv (.int (x &&& y) :: st) X M kc ks Q) : jW C nL pc lv (.int y :: .int x :: st) X M kc ks Q := fun H locs ls hP hD hS hl => lv_iand E.1 E.2.1 hd (k H locs ls hP hD hS hl)
theorem j_ior (E : jE C cc nL Ts own ret rm) {x y : Int32} (hd : decode cc pc = .ok (.ior, 1)) (k : jW C nL (pc + 1) lv (.int (x ||| y) :: st) X M kc ks Q) : jW C nL pc lv (.int y :: .int x :: st) X M kc ks Q := fun H locs ls hP hD hS hl => lv_ior E.1 E.2.1 hd (k H locs ls hP hD hS hl)
theorem j_ixor (E : jE C cc nL Ts own ret rm) {x y : Int32} (hd : decode cc pc = .ok (.ixor, 1)) (k : jW C nL (pc + 1) lv (.int (x ^^^ y) :: st) X M kc ks Q) : jW C nL pc lv (.int y :: .int x :: st) X M kc ks Q := fun H locs ls hP hD hS hl => lv_ixor E.1 E.2.1 hd (k H locs ls hP hD hS hl)
theorem j_ishl (E : jE C cc nL Ts own ret rm) {x y : Int32} (hd : decode cc pc = .ok (.ishl, 1)) (k : jW C nL (pc + 1) lv (.int (x <<< (y &&& 31)) :: st) X M kc ks Q) : jW C nL pc lv (.int y :: .int x :: st) X M kc ks Q := fun H locs ls hP hD hS hl => lv_ishl E.1 E.2.1 hd (k H locs ls hP hD hS hl)
theorem j_ishr (E : jE C cc nL Ts own ret rm) {x y : Int32} (hd : decode cc pc = .ok (.ishr, 1)) (k : jW C nL (pc + 1) lv (.int (x >>> (y &&& 31)) :: st) X M kc ks Q) : jW C nL pc lv (.int y :: .int x :: st) X M kc ks Q := fun H locs ls hP hD hS hl => lv_ishr E.1 E.2.1 hd (k H locs ls hP hD hS hl)
theorem j_fadd (E : jE C cc nL Ts own ret rm) {x y : UInt32} (hd : decode cc pc = .ok (.fadd, 1)) (hne : vf_n32 (FP.fadd x y)) (k : jW C nL (pc + 1) lv (.float (FP.fadd x y) :: st) X M kc ks Q) : jW C nL pc lv (.float y :: .float x :: st) X M kc ks Q := fun H locs ls hP hD hS hl => lv_fadd E.1 E.2.1 hd hne (k H locs ls hP hD hS hl)
theorem j_fsub (E : jE C cc nL Ts own ret rm) {x y : UInt32} (hd : decode cc pc = .ok (.fsub, 1)) (hne : vf_n32 (FP.fsub x y)) (k : jW C nL (pc + 1) lv (.float (FP.fsub x y) :: st) X M kc ks Q) : jW C nL pc lv (.float y :: .float x :: st) X M kc ks Q := fun H locs ls hP hD hS hl => lv_fsub E.1 E.2.1 hd hne (k H locs ls hP hD hS hl)
theorem j_fmul (E : jE C cc nL Ts own ret rm) {x y : UInt32} (hd : decode cc pc = .ok (.fmul, 1)) (hne : vf_n32 (FP.fmul x y)) (k : jW C nL (pc + 1) lv (.float (FP.fmul x y) :: st) X M kc ks Q) : jW C nL pc lv (.float y :: .float x :: st) X M kc ks Q := fun H locs ls hP hD hS hl => lv_fmul E.1 E.2.1 hd hne (k H locs ls hP hD hS hl)
theorem j_fcmp (E : jE C cc nL Ts own ret rm) {x y : UInt32} {op : CmpOp} (hd : decode cc pc = .ok (.fcmp op, 1)) (k : jW C nL (pc + 1) lv (.int (Op.cmpValue (FP.fcmp x y) op) :: st) X M kc ks Q) : jW C nL pc lv (.float y :: .float x :: st) X M kc ks Q := fun H locs ls hP hD hS hl => lv_fcmp E.1 E.2.1 hd (k H locs ls hP hD hS hl)
theorem j_dcmp (E : jE C cc nL Ts own ret rm) {x y : UInt64} {op : CmpOp} (hd : decode cc pc = .ok (.dcmp op, 1)) (k : jW C nL (pc + 1) lv (.int (Op.cmpValue (FP.dcmp x y) op) :: st) X M kc ks Q) : jW C nL pc lv (.double y :: .double x :: st) X M kc ks Q := fun H locs ls hP hD hS hl => lv_dcmp E.1 E.2.1 hd (k H locs ls hP hD hS hl)
theorem j_fconst0 (E : jE C cc nL Ts own ret rm) (hd : decode cc pc = .ok (.fconst 0, 1)) (k : jW C nL (pc + 1) lv (.float FP.fconst0 :: st) X M kc ks Q) : jW C nL pc lv (st) X M kc ks Q := fun H locs ls hP hD hS hl => lv_fconst0 E.1 E.2.1 hd (k H locs ls hP hD hS hl)
theorem j_fconst1 (E : jE C cc nL Ts own ret rm) (hd : decode cc pc = .ok (.fconst 1, 1)) (k : jW C nL (pc + 1) lv (.float FP.fconst1 :: st) X M kc ks Q) : jW C nL pc lv (st) X M kc ks Q := fun H locs ls hP hD hS hl => lv_fconst1 E.1 E.2.1 hd (k H locs ls hP hD hS hl)
theorem j_fconst2 (E : jE C cc nL Ts own ret rm) (hd : decode cc pc = .ok (.fconst 2, 1)) (k : jW C nL (pc + 1) lv (.float FP.fconst2 :: st) X M kc ks Q) : jW C nL pc lv (st) X M kc ks Q := fun H locs ls hP hD hS hl => lv_fconst2 E.1 E.2.1 hd (k H locs ls hP hD hS hl)
theorem j_i2f (E : jE C cc nL Ts own ret rm) {x : Int32} (hd : decode cc pc = .ok (.i2f, 1)) (k : jW C nL (pc + 1) lv (.float (FP.i2f x) :: st) X M kc ks Q) : jW C nL pc lv (.int x :: st) X M kc ks Q := fun H locs ls hP hD hS hl => lv_i2f E.1 E.2.1 hd (k H locs ls hP hD hS hl)
theorem j_f2d (E : jE C cc nL Ts own ret rm) {x : UInt32} (hd : decode cc pc = .ok (.f2d, 1)) (hne : vf_n64 (FP.f2d x)) (k : jW C nL (pc + 1) lv (.double (FP.f2d x) :: st) X M kc ks Q) : jW C nL pc lv (.float x :: st) X M kc ks Q := fun H locs ls hP hD hS hl => lv_f2d E.1 E.2.1 hd hne (k H locs ls hP hD hS hl)
theorem j_i2l (E : jE C cc nL Ts own ret rm) {x : Int32} (hd : decode cc pc = .ok (.i2l, 1)) (k : jW C nL (pc + 1) lv (.long x.toInt64 :: st) X M kc ks Q) : jW C nL pc lv (.int x :: st) X M kc ks Q := fun H locs ls hP hD hS hl => lv_i2l E.1 E.2.1 hd rfl (k H locs ls hP hD hS hl)
theorem j_i2c (E : jE C cc nL Ts own ret rm) {x v : Int32} (hd : decode cc pc = .ok (.i2c, 1)) (hv : (x.toUInt32 % 65536).toInt32 = v) (k : jW C nL (pc + 1) lv (.int v :: st) X M kc ks Q) : jW C nL pc lv (.int x :: st) X M kc ks Q := fun H locs ls hP hD hS hl => lv_i2c E.1 E.2.1 hd hv (k H locs ls hP hD hS hl)
theorem j_dup (E : jE C cc nL Ts own ret rm) {va : Value} (hd : decode cc pc = .ok (.dup, 1)) (hva : va.category = 1) (k : jW C nL (pc + 1) lv (va :: va :: st) X M kc ks Q) : jW C nL pc lv (va :: st) X M kc ks Q := fun H locs ls hP hD hS hl => lv_dup E.1 E.2.1 hd hva (k H locs ls hP hD hS hl)
theorem j_pop (E : jE C cc nL Ts own ret rm) {va : Value} (hd : decode cc pc = .ok (.pop, 1)) (hva : va.category = 1) (k : jW C nL (pc + 1) lv (st) X M kc ks Q) : jW C nL pc lv (va :: st) X M kc ks Q := fun H locs ls hP hD hS hl => lv_pop E.1 E.2.1 hd hva (k H locs ls hP hD hS hl)
theorem j_dup2_11 (E : jE C cc nL Ts own ret rm) {va vb : Value} (hd : decode cc pc = .ok (.dup2, 1)) (hva : va.category = 1) (hvb : vb.category = 1) (k : jW C nL (pc + 1) lv (va :: vb :: va :: vb :: st) X M kc ks Q) : jW C nL pc lv (va :: vb :: st) X M kc ks Q := fun H locs ls hP hD hS hl => lv_dup2_11 E.1 E.2.1 hd hva hvb (k H locs ls hP hD hS hl)
theorem j_iload_n (E : jE C cc nL Ts own ret rm) {k : Fin 4} {i : Nat} {x : Int32} (hd : decode cc pc = .ok (.iload_n k, 1)) (hi : (k : Nat) = i) (hv : lv.lookup i = some (.int x)) (kk : jW C nL (pc + 1) lv (.int x :: st) X M kc ks Q) : jW C nL pc lv st X M kc ks Q := fun H locs ls hP hD hS hl => lv_iload_n E.1 E.2.1 hd hi (hl.2.2 _ (jl_in hv)) (kk H locs ls hP hD hS hl)
theorem j_iload (E : jE C cc nL Ts own ret rm) {i : Nat} {x : Int32} (hd : decode cc pc = .ok (.iload i, 2)) (hv : lv.lookup i = some (.int x)) (kk : jW C nL (pc + 2) lv (.int x :: st) X M kc ks Q) : jW C nL pc lv st X M kc ks Q := fun H locs ls hP hD hS hl => lv_iload E.1 E.2.1 hd (hl.2.2 _ (jl_in hv)) (kk H locs ls hP hD hS hl)
theorem j_istore_n (E : jE C cc nL Ts own ret rm) {k : Fin 4} {i : Nat} {x : Int32} (hd : decode cc pc = .ok (.istore_n k, 1)) (hi : (k : Nat) = i) (hn : i < nL) (kk : jW C nL (pc + 1) (jset lv i (.int x)) st X M kc ks Q) : jW C nL pc lv (.int x :: st) X M kc ks Q := fun H locs ls hP hD hS hl => lv_istore_n E.1 E.2.1 hd hi hl hn rfl (fun ls hl => kk H locs ls hP hD hS hl)
theorem j_istore (E : jE C cc nL Ts own ret rm) {i : Nat} {x : Int32} (hd : decode cc pc = .ok (.istore i, 2)) (hn : i < nL) (kk : jW C nL (pc + 2) (jset lv i (.int x)) st X M kc ks Q) : jW C nL pc lv (.int x :: st) X M kc ks Q := fun H locs ls hP hD hS hl => lv_istore E.1 E.2.1 hd hl hn rfl (fun ls hl => kk H locs ls hP hD hS hl)
theorem j_aload_n (E : jE C cc nL Ts own ret rm) {k : Fin 4} {i : Nat} {x : Nat} (hd : decode cc pc = .ok (.aload_n k, 1)) (hi : (k : Nat) = i) (hv : lv.lookup i = some (.ref x)) (kk : jW C nL (pc + 1) lv (.ref x :: st) X M kc ks Q) : jW C nL pc lv st X M kc ks Q := fun H locs ls hP hD hS hl => lv_aload_n E.1 E.2.1 hd hi (hl.2.2 _ (jl_in hv)) (kk H locs ls hP hD hS hl)
theorem j_aload (E : jE C cc nL Ts own ret rm) {i : Nat} {x : Nat} (hd : decode cc pc = .ok (.aload i, 2)) (hv : lv.lookup i = some (.ref x)) (kk : jW C nL (pc + 2) lv (.ref x :: st) X M kc ks Q) : jW C nL pc lv st X M kc ks Q := fun H locs ls hP hD hS hl => lv_aload E.1 E.2.1 hd (hl.2.2 _ (jl_in hv)) (kk H locs ls hP hD hS hl)
theorem j_astore_n (E : jE C cc nL Ts own ret rm) {k : Fin 4} {i : Nat} {x : Nat} (hd : decode cc pc = .ok (.astore_n k, 1)) (hi : (k : Nat) = i) (hn : i < nL) (kk : jW C nL (pc + 1) (jset lv i (.ref x)) st X M kc ks Q) : jW C nL pc lv (.ref x :: st) X M kc ks Q := fun H locs ls hP hD hS hl => lv_astore_n E.1 E.2.1 hd hi hl hn rfl (fun ls hl => kk H locs ls hP hD hS hl)
theorem j_astore (E : jE C cc nL Ts own ret rm) {i : Nat} {x : Nat} (hd : decode cc pc = .ok (.astore i, 2)) (hn : i < nL) (kk : jW C nL (pc + 2) (jset lv i (.ref x)) st X M kc ks Q) : jW C nL pc lv (.ref x :: st) X M kc ks Q := fun H locs ls hP hD hS hl => lv_astore E.1 E.2.1 hd hl hn rfl (fun ls hl => kk H locs ls hP hD hS hl)
theorem j_fload_n (E : jE C cc nL Ts own ret rm) {k : Fin 4} {i : Nat} {x : UInt32} (hd : decode cc pc = .ok (.fload_n k, 1)) (hi : (k : Nat) = i) (hv : lv.lookup i = some (.float x)) (kk : jW C nL (pc + 1) lv (.float x :: st) X M kc ks Q) : jW C nL pc lv st X M kc ks Q := fun H locs ls hP hD hS hl => lv_fload_n E.1 E.2.1 hd hi (hl.2.2 _ (jl_in hv)) (kk H locs ls hP hD hS hl)
theorem j_fload (E : jE C cc nL Ts own ret rm) {i : Nat} {x : UInt32} (hd : decode cc pc = .ok (.fload i, 2)) (hv : lv.lookup i = some (.float x)) (kk : jW C nL (pc + 2) lv (.float x :: st) X M kc ks Q) : jW C nL pc lv st X M kc ks Q := fun H locs ls hP hD hS hl => lv_fload E.1 E.2.1 hd (hl.2.2 _ (jl_in hv)) (kk H locs ls hP hD hS hl)
theorem j_fstore_n (E : jE C cc nL Ts own ret rm) {k : Fin 4} {i : Nat} {x : UInt32} (hd : decode cc pc = .ok (.fstore_n k, 1)) (hi : (k : Nat) = i) (hn : i < nL) (kk : jW C nL (pc + 1) (jset lv i (.float x)) st X M kc ks Q) : jW C nL pc lv (.float x :: st) X M kc ks Q := fun H locs ls hP hD hS hl => lv_fstore_n E.1 E.2.1 hd hi hl hn rfl (fun ls hl => kk H locs ls hP hD hS hl)
theorem j_fstore (E : jE C cc nL Ts own ret rm) {i : Nat} {x : UInt32} (hd : decode cc pc = .ok (.fstore i, 2)) (hn : i < nL) (kk : jW C nL (pc + 2) (jset lv i (.float x)) st X M kc ks Q) : jW C nL pc lv (.float x :: st) X M kc ks Q := fun H locs ls hP hD hS hl => lv_fstore E.1 E.2.1 hd hl hn rfl (fun ls hl => kk H locs ls hP hD hS hl)
theorem j_iinc (E : jE C cc nL Ts own ret rm) {i : Nat} {n : Int} {x : Int32} (hd : decode cc pc = .ok (.iinc i n, 3)) (hv : lv.lookup i = some (.int x)) (hn : i < nL) (kk : jW C nL (pc + 3) (jset lv i (.int (x + Int32.ofInt n))) st X M kc ks Q) : jW C nL pc lv st X M kc ks Q := fun H locs ls hP hD hS hl => by
  obtain ⟨k, hk⟩ := List.mem_iff_getElem?.mp (jl_in hv)
  exact lv_iinc E.1 E.2.1 hd hl hk rfl hn rfl (fun ls hl => kk H locs ls hP hD hS hl)
theorem j_if_eq (E : jE C cc nL Ts own ret rm) {x : Int32} {off : Int} {tgt : Nat} (hd : decode cc pc = .ok (.ifCond .eq off, 3)) (ht : (pc : Int) + off = (tgt : Int)) (kt : x = 0 → jW C nL tgt lv st X M kc ks Q) (kf : ¬ x = 0 → jW C nL (pc + 3) lv st X M kc ks Q) : jW C nL pc lv (.int x :: st) X M kc ks Q := fun H locs ls hP hD hS hl => lv_if_eq E.1 E.2.1 hd ht (fun h => kt h H locs ls hP hD hS hl) (fun h => kf h H locs ls hP hD hS hl)
theorem j_if_ne (E : jE C cc nL Ts own ret rm) {x : Int32} {off : Int} {tgt : Nat} (hd : decode cc pc = .ok (.ifCond .ne off, 3)) (ht : (pc : Int) + off = (tgt : Int)) (kt : ¬ x = 0 → jW C nL tgt lv st X M kc ks Q) (kf : x = 0 → jW C nL (pc + 3) lv st X M kc ks Q) : jW C nL pc lv (.int x :: st) X M kc ks Q := fun H locs ls hP hD hS hl => lv_if_ne E.1 E.2.1 hd ht (fun h => kt h H locs ls hP hD hS hl) (fun h => kf h H locs ls hP hD hS hl)
theorem j_if_lt (E : jE C cc nL Ts own ret rm) {x : Int32} {off : Int} {tgt : Nat} (hd : decode cc pc = .ok (.ifCond .lt off, 3)) (ht : (pc : Int) + off = (tgt : Int)) (kt : x < 0 → jW C nL tgt lv st X M kc ks Q) (kf : ¬ x < 0 → jW C nL (pc + 3) lv st X M kc ks Q) : jW C nL pc lv (.int x :: st) X M kc ks Q := fun H locs ls hP hD hS hl => lv_if_lt E.1 E.2.1 hd ht (fun h => kt h H locs ls hP hD hS hl) (fun h => kf h H locs ls hP hD hS hl)
theorem j_if_ge (E : jE C cc nL Ts own ret rm) {x : Int32} {off : Int} {tgt : Nat} (hd : decode cc pc = .ok (.ifCond .ge off, 3)) (ht : (pc : Int) + off = (tgt : Int)) (kt : 0 ≤ x → jW C nL tgt lv st X M kc ks Q) (kf : ¬ 0 ≤ x → jW C nL (pc + 3) lv st X M kc ks Q) : jW C nL pc lv (.int x :: st) X M kc ks Q := fun H locs ls hP hD hS hl => lv_if_ge E.1 E.2.1 hd ht (fun h => kt h H locs ls hP hD hS hl) (fun h => kf h H locs ls hP hD hS hl)
theorem j_if_gt (E : jE C cc nL Ts own ret rm) {x : Int32} {off : Int} {tgt : Nat} (hd : decode cc pc = .ok (.ifCond .gt off, 3)) (ht : (pc : Int) + off = (tgt : Int)) (kt : 0 < x → jW C nL tgt lv st X M kc ks Q) (kf : ¬ 0 < x → jW C nL (pc + 3) lv st X M kc ks Q) : jW C nL pc lv (.int x :: st) X M kc ks Q := fun H locs ls hP hD hS hl => lv_if_gt E.1 E.2.1 hd ht (fun h => kt h H locs ls hP hD hS hl) (fun h => kf h H locs ls hP hD hS hl)
theorem j_if_le (E : jE C cc nL Ts own ret rm) {x : Int32} {off : Int} {tgt : Nat} (hd : decode cc pc = .ok (.ifCond .le off, 3)) (ht : (pc : Int) + off = (tgt : Int)) (kt : x ≤ 0 → jW C nL tgt lv st X M kc ks Q) (kf : ¬ x ≤ 0 → jW C nL (pc + 3) lv st X M kc ks Q) : jW C nL pc lv (.int x :: st) X M kc ks Q := fun H locs ls hP hD hS hl => lv_if_le E.1 E.2.1 hd ht (fun h => kt h H locs ls hP hD hS hl) (fun h => kf h H locs ls hP hD hS hl)
theorem j_icmp_eq (E : jE C cc nL Ts own ret rm) {x y : Int32} {off : Int} {tgt : Nat} (hd : decode cc pc = .ok (.if_icmp .eq off, 3)) (ht : (pc : Int) + off = (tgt : Int)) (kt : x = y → jW C nL tgt lv st X M kc ks Q) (kf : ¬ x = y → jW C nL (pc + 3) lv st X M kc ks Q) : jW C nL pc lv (.int y :: .int x :: st) X M kc ks Q := fun H locs ls hP hD hS hl => lv_icmp_eq E.1 E.2.1 hd ht (fun h => kt h H locs ls hP hD hS hl) (fun h => kf h H locs ls hP hD hS hl)
theorem j_icmp_ne (E : jE C cc nL Ts own ret rm) {x y : Int32} {off : Int} {tgt : Nat} (hd : decode cc pc = .ok (.if_icmp .ne off, 3)) (ht : (pc : Int) + off = (tgt : Int)) (kt : ¬ x = y → jW C nL tgt lv st X M kc ks Q) (kf : x = y → jW C nL (pc + 3) lv st X M kc ks Q) : jW C nL pc lv (.int y :: .int x :: st) X M kc ks Q := fun H locs ls hP hD hS hl => lv_icmp_ne E.1 E.2.1 hd ht (fun h => kt h H locs ls hP hD hS hl) (fun h => kf h H locs ls hP hD hS hl)
theorem j_icmp_lt (E : jE C cc nL Ts own ret rm) {x y : Int32} {off : Int} {tgt : Nat} (hd : decode cc pc = .ok (.if_icmp .lt off, 3)) (ht : (pc : Int) + off = (tgt : Int)) (kt : x < y → jW C nL tgt lv st X M kc ks Q) (kf : ¬ x < y → jW C nL (pc + 3) lv st X M kc ks Q) : jW C nL pc lv (.int y :: .int x :: st) X M kc ks Q := fun H locs ls hP hD hS hl => lv_icmp_lt E.1 E.2.1 hd ht (fun h => kt h H locs ls hP hD hS hl) (fun h => kf h H locs ls hP hD hS hl)
theorem j_icmp_ge (E : jE C cc nL Ts own ret rm) {x y : Int32} {off : Int} {tgt : Nat} (hd : decode cc pc = .ok (.if_icmp .ge off, 3)) (ht : (pc : Int) + off = (tgt : Int)) (kt : y ≤ x → jW C nL tgt lv st X M kc ks Q) (kf : ¬ y ≤ x → jW C nL (pc + 3) lv st X M kc ks Q) : jW C nL pc lv (.int y :: .int x :: st) X M kc ks Q := fun H locs ls hP hD hS hl => lv_icmp_ge E.1 E.2.1 hd ht (fun h => kt h H locs ls hP hD hS hl) (fun h => kf h H locs ls hP hD hS hl)
theorem j_icmp_gt (E : jE C cc nL Ts own ret rm) {x y : Int32} {off : Int} {tgt : Nat} (hd : decode cc pc = .ok (.if_icmp .gt off, 3)) (ht : (pc : Int) + off = (tgt : Int)) (kt : y < x → jW C nL tgt lv st X M kc ks Q) (kf : ¬ y < x → jW C nL (pc + 3) lv st X M kc ks Q) : jW C nL pc lv (.int y :: .int x :: st) X M kc ks Q := fun H locs ls hP hD hS hl => lv_icmp_gt E.1 E.2.1 hd ht (fun h => kt h H locs ls hP hD hS hl) (fun h => kf h H locs ls hP hD hS hl)
theorem j_icmp_le (E : jE C cc nL Ts own ret rm) {x y : Int32} {off : Int} {tgt : Nat} (hd : decode cc pc = .ok (.if_icmp .le off, 3)) (ht : (pc : Int) + off = (tgt : Int)) (kt : x ≤ y → jW C nL tgt lv st X M kc ks Q) (kf : ¬ x ≤ y → jW C nL (pc + 3) lv st X M kc ks Q) : jW C nL pc lv (.int y :: .int x :: st) X M kc ks Q := fun H locs ls hP hD hS hl => lv_icmp_le E.1 E.2.1 hd ht (fun h => kt h H locs ls hP hD hS hl) (fun h => kf h H locs ls hP hD hS hl)
theorem j_goto (E : jE C cc nL Ts own ret rm) {off : Int} {tgt : Nat} (hd : decode cc pc = .ok (.goto off, 3)) (ht : (pc : Int) + off = (tgt : Int)) (k : jW C nL tgt lv st X M kc ks Q) : jW C nL pc lv st X M kc ks Q := fun H locs ls hP hD hS hl => lv_goto E.1 E.2.1 hd ht (k H locs ls hP hD hS hl)
theorem j_ldcf (E : jE C cc nL Ts own ret rm) {index : Nat} {v : UInt32} (hc : Jvm.Cond.constantFloat own index v ∈ Ts) (hd : decode cc pc = .ok (.ldc index, 2)) (k : jW C nL (pc + 2) lv (.float v :: st) X M kc ks Q) : jW C nL pc lv st X M kc ks Q := fun H locs ls hP hD hS hl => lv_ldcf E.1 E.2.1 E.2.2.2.1 (E.2.2.2.2.1 _ hc) hd (k H locs ls hP hD hS hl)
theorem j_ldc (E : jE C cc nL Ts own ret rm) {index : Nat} {v : Int32} (hc : Jvm.Cond.constant own index v ∈ Ts) (hd : decode cc pc = .ok (.ldc index, 2)) (k : jW C nL (pc + 2) lv (.int v :: st) X M kc ks Q) : jW C nL pc lv st X M kc ks Q := fun H locs ls hP hD hS hl => lv_ldc E.1 E.2.1 E.2.2.2.1 (E.2.2.2.2.1 _ hc) hd (k H locs ls hP hD hS hl)
theorem j_tabIn (E : jE C cc nL Ts own ret rm) {dflt lo hi : Int} {offs : Array Int} {len : Nat} {x : Int32} {off : Int} {tgt : Nat} (hd : decode cc pc = .ok (.tableswitch dflt lo hi offs, len)) (h1 : ¬ x.toInt < lo) (h2 : ¬ hi < x.toInt) (ho : offs[(x.toInt - lo).toNat]? = some off) (ht : (pc : Int) + off = (tgt : Int)) (k : jW C nL tgt lv st X M kc ks Q) : jW C nL pc lv (.int x :: st) X M kc ks Q := fun H locs ls hP hD hS hl => lv_tableIn E.1 E.2.1 hd h1 h2 ho ht (k H locs ls hP hD hS hl)
theorem j_tabOut (E : jE C cc nL Ts own ret rm) {dflt lo hi : Int} {offs : Array Int} {len : Nat} {x : Int32} {tgt : Nat} (hd : decode cc pc = .ok (.tableswitch dflt lo hi offs, len)) (h : x.toInt < lo ∨ hi < x.toInt) (ht : (pc : Int) + dflt = (tgt : Int)) (k : jW C nL tgt lv st X M kc ks Q) : jW C nL pc lv (.int x :: st) X M kc ks Q := fun H locs ls hP hD hS hl => lv_tableOut E.1 E.2.1 hd h ht (k H locs ls hP hD hS hl)
theorem i_tab (x : Int32) (lo hi : Nat) (hh : hi < 2 ^ 31) : (x.toInt < (lo : Int) ∨ (hi : Int) < x.toInt) ∨ ∃ k : Nat, lo ≤ k ∧ k ≤ hi ∧ x = nI k := by
  by_cases h1 : x.toInt < (lo : Int)
  · exact Or.inl (Or.inl h1)
  · by_cases h2 : (hi : Int) < x.toInt
    · exact Or.inl (Or.inr h2)
    · refine Or.inr ⟨x.toInt.toNat, by omega, by omega, ?_⟩
      have h3 : ((x.toInt.toNat : Nat) : Int) = x.toInt := Int.toNat_of_nonneg (by omega)
      apply Int32.toInt_inj.mp
      rw [nI_toInt (by omega), h3]
theorem j_table (E : jE C cc nL Ts own ret rm) {dflt : Int} {lo hi : Nat} {offs : Array Int} {len : Nat} {x : Int32} {tgt : Nat} (hd : decode cc pc = .ok (.tableswitch dflt (lo : Int) (hi : Int) offs, len)) (hh : hi < 2 ^ 31) (ht : (pc : Int) + dflt = (tgt : Int)) (kout : (x.toInt < (lo : Int) ∨ (hi : Int) < x.toInt) → jW C nL tgt lv st X M kc ks Q) (kin : ∀ k : Nat, lo ≤ k → k ≤ hi → x = nI k → jW C nL pc lv (.int x :: st) X M kc ks Q) : jW C nL pc lv (.int x :: st) X M kc ks Q := by
  rcases i_tab x lo hi hh with h | ⟨k, h1, h2, h3⟩
  · exact j_tabOut E hd h ht (kout h)
  · exact kin k h1 h2 h3
theorem j_getI (E : jE C cc nL Ts own ret rm) {a ci k N index : Nat} {Cn : String} {T : u_T} (hd : decode cc pc = .ok (.getfield index, 3)) (hL : a ∈ (jG C).1) (hK : (jG C).2.1 a = ci) (hcl : vwCl[ci]? = some (Cn, T, N)) (hk : k < N) (hin : ∀ w ∈ u_ws Cn T N, w ∈ Ts) (hlk : Cond.fieldLink own index (T k).1 (T k).2.1 (T k).2.2.1 ∈ Ts) (ht : (pty ci)[k]? = some 0) (kk : jW C nL (pc + 3) lv (.int (M.1 a k) :: st) X M kc ks Q) : jW C nL pc lv (.ref a :: st) X M kc ks Q := fun H locs ls hP hD hS hl => by
  obtain ⟨q, hq⟩ := pW_get (jcy C) X (jG C) M hL
  rw [pcell_o (jcy C) (jG C) M hK (List.getElem?_eq_some_iff.mp hcl).1] at hq
  exact va_get (D := jD C) (ci := ci) (C := Cn) (T := T) (N := N) E.1 E.2.1 E.2.2.2.2.1 hin E.2.2.2.1 E.2.2.2.2.2.1 hP q hq hcl k hk (E.2.2.2.2.1 _ hlk) (fun _ h => h) (by rw [pfl_get M (jG C).2.2.2 a (pty ci) 0 k 0 ht]; simp [pval]) hd (kk H locs ls hP hD hS hl)
theorem j_getF (E : jE C cc nL Ts own ret rm) {a ci k N index : Nat} {Cn : String} {T : u_T} (hd : decode cc pc = .ok (.getfield index, 3)) (hL : a ∈ (jG C).1) (hK : (jG C).2.1 a = ci) (hcl : vwCl[ci]? = some (Cn, T, N)) (hk : k < N) (hin : ∀ w ∈ u_ws Cn T N, w ∈ Ts) (hlk : Cond.fieldLink own index (T k).1 (T k).2.1 (T k).2.2.1 ∈ Ts) (ht : (pty ci)[k]? = some 1) (kk : jW C nL (pc + 3) lv (.float (M.2 a k) :: st) X M kc ks Q) : jW C nL pc lv (.ref a :: st) X M kc ks Q := fun H locs ls hP hD hS hl => by
  obtain ⟨q, hq⟩ := pW_get (jcy C) X (jG C) M hL
  rw [pcell_o (jcy C) (jG C) M hK (List.getElem?_eq_some_iff.mp hcl).1] at hq
  exact va_get (D := jD C) (ci := ci) (C := Cn) (T := T) (N := N) E.1 E.2.1 E.2.2.2.2.1 hin E.2.2.2.1 E.2.2.2.2.2.1 hP q hq hcl k hk (E.2.2.2.2.1 _ hlk) (fun _ h => h) (by rw [pfl_get M (jG C).2.2.2 a (pty ci) 0 k 1 ht]; simp [pval]) hd (kk H locs ls hP hD hS hl)
theorem j_getP (E : jE C cc nL Ts own ret rm) {a ci k N index : Nat} {Cn : String} {T : u_T} (hd : decode cc pc = .ok (.getfield index, 3)) (hL : a ∈ (jG C).1) (hK : (jG C).2.1 a = ci) (hcl : vwCl[ci]? = some (Cn, T, N)) (hk : k < N) (hin : ∀ w ∈ u_ws Cn T N, w ∈ Ts) (hlk : Cond.fieldLink own index (T k).1 (T k).2.1 (T k).2.2.1 ∈ Ts) (ht : (pty ci)[k]? = some 2) {b : Nat} (hp : (jG C).2.2.2 a k = some b) (kk : jW C nL (pc + 3) lv (.ref b :: st) X M kc ks Q) : jW C nL pc lv (.ref a :: st) X M kc ks Q := fun H locs ls hP hD hS hl => by
  obtain ⟨q, hq⟩ := pW_get (jcy C) X (jG C) M hL
  rw [pcell_o (jcy C) (jG C) M hK (List.getElem?_eq_some_iff.mp hcl).1] at hq
  exact va_get (D := jD C) (ci := ci) (C := Cn) (T := T) (N := N) E.1 E.2.1 E.2.2.2.2.1 hin E.2.2.2.1 E.2.2.2.2.2.1 hP q hq hcl k hk (E.2.2.2.2.1 _ hlk) (fun _ h => h) (by rw [pfl_get M (jG C).2.2.2 a (pty ci) 0 k 2 ht]; simp [pval, va_rf, hp]) hd (kk H locs ls hP hD hS hl)
theorem j_putI (E : jE C cc nL Ts own ret rm) {a ci k N index : Nat} {Cn : String} {T : u_T} {v : Int32} {ty : FieldType} (hd : decode cc pc = .ok (.putfield index, 3)) (hL : a ∈ (jG C).1) (hK : (jG C).2.1 a = ci) (hcl : vwCl[ci]? = some (Cn, T, N)) (hk : k < N) (hin : ∀ w ∈ u_ws Cn T N, w ∈ Ts) (hlk : Cond.fieldLink own index (T k).1 (T k).2.1 (T k).2.2.1 ∈ Ts) (ht : (pty ci)[k]? = some 0) (ty0 : Nat → FieldType) (hty : ∀ k, k < N → parseFieldDescriptor (T k).2.2.1 = some (ty0 k)) (hnm : ∀ a, a < N → ∀ b, b < N → a ≠ b → (T a).2.1 ≠ (T b).2.1) (hfin : (T k).2.2.2 = false) (hty1 : ty0 k = ty) (hn : narrow ty (.int v) = .int v) (hfit : fits ty (.int v) = true) (kk : jW C nL (pc + 3) lv st X (pI M a k v) kc ks Q) : jW C nL pc lv (.int v :: .ref a :: st) X M kc ks Q := fun H locs ls hP hD hS hl => by
  obtain ⟨q, hq⟩ := pW_get (jcy C) X (jG C) M hL
  have hc8 : ci < 8 := (List.getElem?_eq_some_iff.mp hcl).1
  have hq2 := hq
  rw [pcell_o (jcy C) (jG C) M hK hc8] at hq2
  have hset : (pW (jcy C) X (jG C) M).set q (a, .inr (ci, (pfl M (jG C).2.2.2 a (pty ci) 0).set k (.int v))) = pW (jcy C) X (jG C) (pI M a k v) := by
    refine pW_set hD hL hq ?_ (fun b hb => ?_)
    · rw [pcell_o (jcy C) (jG C) _ hK hc8]
      rw [pfl_set (M' := pI M a k v) (jG C).2.2.2 (pty ci) ht (by simp [pval, pI, va_up]) (fun i hi => by simp [pI, va_up, hi])]
    · simp [pI, va_up, hb]
  refine va_put (D := jD C) (ci := ci) (C := Cn) (T := T) (N := N) E.1 E.2.1 E.2.2.2.2.1 hin ty0 hty hnm E.2.2.2.1 E.2.2.2.2.2.1 hP hD hS q hq2 hcl k hk (E.2.2.2.2.1 _ hlk) (fun _ h => h) hfin (hty1 ▸ hty k hk) hn hfit (by rw [pfl_len]; exact (List.getElem?_eq_some_iff.mp ht).1) hd (fun H locs hP hD hS => ?_)
  rw [hset] at hP hD
  exact kk H locs ls hP hD hS hl
theorem j_putF (E : jE C cc nL Ts own ret rm) {a ci k N index : Nat} {Cn : String} {T : u_T} {v : UInt32} {ty : FieldType} (hd : decode cc pc = .ok (.putfield index, 3)) (hL : a ∈ (jG C).1) (hK : (jG C).2.1 a = ci) (hcl : vwCl[ci]? = some (Cn, T, N)) (hk : k < N) (hin : ∀ w ∈ u_ws Cn T N, w ∈ Ts) (hlk : Cond.fieldLink own index (T k).1 (T k).2.1 (T k).2.2.1 ∈ Ts) (ht : (pty ci)[k]? = some 1) (ty0 : Nat → FieldType) (hty : ∀ k, k < N → parseFieldDescriptor (T k).2.2.1 = some (ty0 k)) (hnm : ∀ a, a < N → ∀ b, b < N → a ≠ b → (T a).2.1 ≠ (T b).2.1) (hfin : (T k).2.2.2 = false) (hty1 : ty0 k = ty) (hn : narrow ty (.float v) = .float v) (hfit : fits ty (.float v) = true) (kk : jW C nL (pc + 3) lv st X (pF M a k v) kc ks Q) : jW C nL pc lv (.float v :: .ref a :: st) X M kc ks Q := fun H locs ls hP hD hS hl => by
  obtain ⟨q, hq⟩ := pW_get (jcy C) X (jG C) M hL
  have hc8 : ci < 8 := (List.getElem?_eq_some_iff.mp hcl).1
  have hq2 := hq
  rw [pcell_o (jcy C) (jG C) M hK hc8] at hq2
  have hset : (pW (jcy C) X (jG C) M).set q (a, .inr (ci, (pfl M (jG C).2.2.2 a (pty ci) 0).set k (.float v))) = pW (jcy C) X (jG C) (pF M a k v) := by
    refine pW_set hD hL hq ?_ (fun b hb => ?_)
    · rw [pcell_o (jcy C) (jG C) _ hK hc8]
      rw [pfl_set (M' := pF M a k v) (jG C).2.2.2 (pty ci) ht (by simp [pval, pF, va_up]) (fun i hi => by simp [pF, va_up, hi])]
    · simp [pF, va_up, hb]
  refine va_put (D := jD C) (ci := ci) (C := Cn) (T := T) (N := N) E.1 E.2.1 E.2.2.2.2.1 hin ty0 hty hnm E.2.2.2.1 E.2.2.2.2.2.1 hP hD hS q hq2 hcl k hk (E.2.2.2.2.1 _ hlk) (fun _ h => h) hfin (hty1 ▸ hty k hk) hn hfit (by rw [pfl_len]; exact (List.getElem?_eq_some_iff.mp ht).1) hd (fun H locs hP hD hS => ?_)
  rw [hset] at hP hD
  exact kk H locs ls hP hD hS hl
theorem j_iald (E : jE C cc nL Ts own ret rm) (hd : decode cc pc = .ok (.iaload, 1)) {a N j : Nat} {i : Int32} (hL : a ∈ (jG C).1) (hlen : (jG C).2.2.1 a = N) (hi : i = nI j) (hj : j < N) (hN : N < 2 ^ 31) (hK : (jG C).2.1 a = 10) (kk : jW C nL (pc + 1) lv (.int (M.1 a j) :: st) X M kc ks Q) : jW C nL pc lv (.int i :: .ref a :: st) X M kc ks Q := fun H locs ls hP hD hS hl => by
  obtain ⟨q, hq⟩ := pW_get (jcy C) X (jG C) M hL
  rw [pcell_I (jcy C) (jG C) M hK] at hq
  subst hi
  have h := kk H locs ls hP hD hS hl
  rw [show j = (nI j).toNatClampNeg from (nI_clamp (by omega)).symm] at h
  exact va_iald (D := jD C) E.1 E.2.1 E.2.2.2.2.2.1 hP q 2 hq rfl (by rw [hlen]; exact vp_in_nI hj hN) hd (by rw [nI_clamp (by omega)] at h ⊢; exact h)
theorem j_zald (E : jE C cc nL Ts own ret rm) (hd : decode cc pc = .ok (.baload, 1)) {a N j : Nat} {i : Int32} (hL : a ∈ (jG C).1) (hlen : (jG C).2.2.1 a = N) (hi : i = nI j) (hj : j < N) (hN : N < 2 ^ 31) (hK : (jG C).2.1 a = 11) (kk : jW C nL (pc + 1) lv (.int (M.1 a j) :: st) X M kc ks Q) : jW C nL pc lv (.int i :: .ref a :: st) X M kc ks Q := fun H locs ls hP hD hS hl => by
  obtain ⟨q, hq⟩ := pW_get (jcy C) X (jG C) M hL
  rw [pcell_Z (jcy C) (jG C) M hK] at hq
  subst hi
  have h := kk H locs ls hP hD hS hl
  rw [show j = (nI j).toNatClampNeg from (nI_clamp (by omega)).symm] at h
  exact va_zald (D := jD C) E.1 E.2.1 E.2.2.2.2.2.1 hP q 3 hq rfl (by rw [hlen]; exact vp_in_nI hj hN) hd (by rw [nI_clamp (by omega)] at h ⊢; exact h)
theorem j_cald (E : jE C cc nL Ts own ret rm) (hd : decode cc pc = .ok (.caload, 1)) {a N j : Nat} {i : Int32} (hL : a ∈ (jG C).1) (hlen : (jG C).2.2.1 a = N) (hi : i = nI j) (hj : j < N) (hN : N < 2 ^ 31) (hK : (jG C).2.1 a = 8) (kk : jW C nL (pc + 1) lv (.int (M.1 a j) :: st) X M kc ks Q) : jW C nL pc lv (.int i :: .ref a :: st) X M kc ks Q := fun H locs ls hP hD hS hl => by
  obtain ⟨q, hq⟩ := pW_get (jcy C) X (jG C) M hL
  rw [pcell_C (jcy C) (jG C) M hK] at hq
  subst hi
  have h := kk H locs ls hP hD hS hl
  rw [show j = (nI j).toNatClampNeg from (nI_clamp (by omega)).symm] at h
  exact va_cald (D := jD C) E.1 E.2.1 E.2.2.2.2.2.1 hP q 0 hq rfl (by rw [hlen]; exact vp_in_nI hj hN) hd (by rw [nI_clamp (by omega)] at h ⊢; exact h)
theorem j_fald (E : jE C cc nL Ts own ret rm) (hd : decode cc pc = .ok (.faload, 1)) {a N j : Nat} {i : Int32} (hL : a ∈ (jG C).1) (hlen : (jG C).2.2.1 a = N) (hi : i = nI j) (hj : j < N) (hN : N < 2 ^ 31) (hK : (jG C).2.1 a = 9) (kk : jW C nL (pc + 1) lv (.float (M.2 a j) :: st) X M kc ks Q) : jW C nL pc lv (.int i :: .ref a :: st) X M kc ks Q := fun H locs ls hP hD hS hl => by
  obtain ⟨q, hq⟩ := pW_get (jcy C) X (jG C) M hL
  rw [pcell_F (jcy C) (jG C) M hK] at hq
  subst hi
  have h := kk H locs ls hP hD hS hl
  rw [show j = (nI j).toNatClampNeg from (nI_clamp (by omega)).symm] at h
  exact va_fald (D := jD C) E.1 E.2.1 E.2.2.2.2.2.1 hP q 1 hq rfl (by rw [hlen]; exact vp_in_nI hj hN) hd (by rw [nI_clamp (by omega)] at h ⊢; exact h)
theorem j_iast (E : jE C cc nL Ts own ret rm) {v : Int32} (hd : decode cc pc = .ok (.iastore, 1)) {a N j : Nat} {i : Int32} (hL : a ∈ (jG C).1) (hlen : (jG C).2.2.1 a = N) (hi : i = nI j) (hj : j < N) (hN : N < 2 ^ 31) (hK : (jG C).2.1 a = 10) (kk : jW C nL (pc + 1) lv st X (pI M a j v) kc ks Q) : jW C nL pc lv (.int v :: .int i :: .ref a :: st) X M kc ks Q := fun H locs ls hP hD hS hl => by
  obtain ⟨q, hq⟩ := pW_get (jcy C) X (jG C) M hL
  have hq2 := hq
  rw [pcell_I (jcy C) (jG C) M hK] at hq2
  subst hi
  have hset : (pW (jcy C) X (jG C) M).set q (a, .inl (jcy C 2, (jG C).2.2.1 a, .inl (upd (M.1 a) j v))) = pW (jcy C) X (jG C) (pI M a j v) := by
    refine pW_set hD hL hq ?_ (fun b hb => ?_)
    · rw [pcell_I (jcy C) (jG C) _ hK]
      simp only [pI, va_up, if_true]
      rfl
    · simp [pI, va_up, hb]
  refine va_iast (D := jD C) E.1 E.2.1 E.2.2.2.2.2.1 hP hD hS q 2 hq2 rfl (by rw [hlen]; exact vp_in_nI hj hN) hd (fun H locs hP hD hS => ?_)
  rw [nI_clamp (by omega), hset] at hP hD
  exact kk H locs ls hP hD hS hl
theorem j_zast (E : jE C cc nL Ts own ret rm) {v : Int32} (hd : decode cc pc = .ok (.bastore, 1)) {a N j : Nat} {i : Int32} (hL : a ∈ (jG C).1) (hlen : (jG C).2.2.1 a = N) (hi : i = nI j) (hj : j < N) (hN : N < 2 ^ 31) (hK : (jG C).2.1 a = 11) (hnar : vp_nar .boolean v = v) (kk : jW C nL (pc + 1) lv st X (pI M a j v) kc ks Q) : jW C nL pc lv (.int v :: .int i :: .ref a :: st) X M kc ks Q := fun H locs ls hP hD hS hl => by
  obtain ⟨q, hq⟩ := pW_get (jcy C) X (jG C) M hL
  have hq2 := hq
  rw [pcell_Z (jcy C) (jG C) M hK] at hq2
  subst hi
  have hset : (pW (jcy C) X (jG C) M).set q (a, .inl (jcy C 3, (jG C).2.2.1 a, .inl (upd (M.1 a) j v))) = pW (jcy C) X (jG C) (pI M a j v) := by
    refine pW_set hD hL hq ?_ (fun b hb => ?_)
    · rw [pcell_Z (jcy C) (jG C) _ hK]
      simp only [pI, va_up, if_true]
      rfl
    · simp [pI, va_up, hb]
  refine va_zast (D := jD C) E.1 E.2.1 E.2.2.2.2.2.1 hP hD hS q 3 hq2 rfl (by rw [hlen]; exact vp_in_nI hj hN) hd (fun H locs hP hD hS => ?_)
  rw [hnar, nI_clamp (by omega), hset] at hP hD
  exact kk H locs ls hP hD hS hl
theorem j_cast (E : jE C cc nL Ts own ret rm) {v : Int32} (hd : decode cc pc = .ok (.castore, 1)) {a N j : Nat} {i : Int32} (hL : a ∈ (jG C).1) (hlen : (jG C).2.2.1 a = N) (hi : i = nI j) (hj : j < N) (hN : N < 2 ^ 31) (hK : (jG C).2.1 a = 8) (hnar : vp_nar .char v = v) (kk : jW C nL (pc + 1) lv st X (pI M a j v) kc ks Q) : jW C nL pc lv (.int v :: .int i :: .ref a :: st) X M kc ks Q := fun H locs ls hP hD hS hl => by
  obtain ⟨q, hq⟩ := pW_get (jcy C) X (jG C) M hL
  have hq2 := hq
  rw [pcell_C (jcy C) (jG C) M hK] at hq2
  subst hi
  have hset : (pW (jcy C) X (jG C) M).set q (a, .inl (jcy C 0, (jG C).2.2.1 a, .inl (upd (M.1 a) j v))) = pW (jcy C) X (jG C) (pI M a j v) := by
    refine pW_set hD hL hq ?_ (fun b hb => ?_)
    · rw [pcell_C (jcy C) (jG C) _ hK]
      simp only [pI, va_up, if_true]
      rfl
    · simp [pI, va_up, hb]
  refine va_cast (D := jD C) E.1 E.2.1 E.2.2.2.2.2.1 hP hD hS q 0 hq2 rfl (by rw [hlen]; exact vp_in_nI hj hN) hd (fun H locs hP hD hS => ?_)
  rw [hnar, nI_clamp (by omega), hset] at hP hD
  exact kk H locs ls hP hD hS hl
theorem j_fast (E : jE C cc nL Ts own ret rm) {v : UInt32} (hd : decode cc pc = .ok (.fastore, 1)) {a N j : Nat} {i : Int32} (hL : a ∈ (jG C).1) (hlen : (jG C).2.2.1 a = N) (hi : i = nI j) (hj : j < N) (hN : N < 2 ^ 31) (hK : (jG C).2.1 a = 9) (kk : jW C nL (pc + 1) lv st X (pF M a j v) kc ks Q) : jW C nL pc lv (.float v :: .int i :: .ref a :: st) X M kc ks Q := fun H locs ls hP hD hS hl => by
  obtain ⟨q, hq⟩ := pW_get (jcy C) X (jG C) M hL
  have hq2 := hq
  rw [pcell_F (jcy C) (jG C) M hK] at hq2
  subst hi
  have hset : (pW (jcy C) X (jG C) M).set q (a, .inl (jcy C 1, (jG C).2.2.1 a, .inr (.inr (.inl (vf_upd (M.2 a) j v))))) = pW (jcy C) X (jG C) (pF M a j v) := by
    refine pW_set hD hL hq ?_ (fun b hb => ?_)
    · rw [pcell_F (jcy C) (jG C) _ hK]
      simp only [pF, va_up, if_true]
      rfl
    · simp [pF, va_up, hb]
  refine va_fast (D := jD C) E.1 E.2.1 E.2.2.2.2.2.1 hP hD hS q 1 hq2 rfl (by rw [hlen]; exact vp_in_nI hj hN) hd (fun H locs hP hD hS => ?_)
  rw [nI_clamp (by omega), hset] at hP hD
  exact kk H locs ls hP hD hS hl
theorem j_aldP (E : jE C cc nL Ts own ret rm) {b : Nat} (hd : decode cc pc = .ok (.aaload, 1)) {a N j : Nat} {i : Int32} (hL : a ∈ (jG C).1) (hlen : (jG C).2.2.1 a = N) (hi : i = nI j) (hj : j < N) (hN : N < 2 ^ 31) (hK : (jG C).2.1 a = 12) (hp : (jG C).2.2.2 a j = some b) (kk : jW C nL (pc + 1) lv (.ref b :: st) X M kc ks Q) : jW C nL pc lv (.int i :: .ref a :: st) X M kc ks Q := fun H locs ls hP hD hS hl => by
  obtain ⟨q, hq⟩ := pW_get (jcy C) X (jG C) M hL
  rw [pcell_P (jcy C) (jG C) M hK (by decide)] at hq
  subst hi
  refine va_aldq (D := jD C) (C := RX2) E.1 E.2.1 E.2.2.2.2.2.1 hP q 4 hq rfl (by rw [hlen]; exact vp_in_nI hj hN) hd ?_
  rw [nI_clamp (by omega), hp]
  exact kk H locs ls hP hD hS hl
theorem j_lenP (E : jE C cc nL Ts own ret rm) {a N : Nat} {v : Int32} (hd : decode cc pc = .ok (.arraylength, 1)) (hL : a ∈ (jG C).1) (hlen : (jG C).2.2.1 a = N) (hK : (jG C).2.1 a = 12) (hv : nI N = v) (kk : jW C nL (pc + 1) lv (.int v :: st) X M kc ks Q) : jW C nL pc lv (.ref a :: st) X M kc ks Q := fun H locs ls hP hD hS hl => by
  obtain ⟨q, hq⟩ := pW_get (jcy C) X (jG C) M hL
  rw [pcell_P (jcy C) (jG C) M hK (by decide)] at hq
  exact va_alen (D := jD C) (ty := .object RX2) E.1 E.2.1 E.2.2.2.2.2.1 hP q 4 hq rfl (by rw [← hv, ← hlen]; rfl) hd (kk H locs ls hP hD hS hl)
theorem j_aldR (E : jE C cc nL Ts own ret rm) {b : Nat} (hd : decode cc pc = .ok (.aaload, 1)) {a N j : Nat} {i : Int32} (hL : a ∈ (jG C).1) (hlen : (jG C).2.2.1 a = N) (hi : i = nI j) (hj : j < N) (hN : N < 2 ^ 31) (hK : (jG C).2.1 a = 13) (hp : (jG C).2.2.2 a j = some b) (kk : jW C nL (pc + 1) lv (.ref b :: st) X M kc ks Q) : jW C nL pc lv (.int i :: .ref a :: st) X M kc ks Q := fun H locs ls hP hD hS hl => by
  obtain ⟨q, hq⟩ := pW_get (jcy C) X (jG C) M hL
  rw [pcell_P (jcy C) (jG C) M hK (by decide)] at hq
  subst hi
  refine va_aldq (D := jD C) (C := RX4) E.1 E.2.1 E.2.2.2.2.2.1 hP q 5 hq rfl (by rw [hlen]; exact vp_in_nI hj hN) hd ?_
  rw [nI_clamp (by omega), hp]
  exact kk H locs ls hP hD hS hl
theorem j_lenR (E : jE C cc nL Ts own ret rm) {a N : Nat} {v : Int32} (hd : decode cc pc = .ok (.arraylength, 1)) (hL : a ∈ (jG C).1) (hlen : (jG C).2.2.1 a = N) (hK : (jG C).2.1 a = 13) (hv : nI N = v) (kk : jW C nL (pc + 1) lv (.int v :: st) X M kc ks Q) : jW C nL pc lv (.ref a :: st) X M kc ks Q := fun H locs ls hP hD hS hl => by
  obtain ⟨q, hq⟩ := pW_get (jcy C) X (jG C) M hL
  rw [pcell_P (jcy C) (jG C) M hK (by decide)] at hq
  exact va_alen (D := jD C) (ty := .object RX4) E.1 E.2.1 E.2.2.2.2.2.1 hP q 5 hq rfl (by rw [← hv, ← hlen]; rfl) hd (kk H locs ls hP hD hS hl)
theorem j_aldZ (E : jE C cc nL Ts own ret rm) {b : Nat} (hd : decode cc pc = .ok (.aaload, 1)) {a N j : Nat} {i : Int32} (hL : a ∈ (jG C).1) (hlen : (jG C).2.2.1 a = N) (hi : i = nI j) (hj : j < N) (hN : N < 2 ^ 31) (hK : (jG C).2.1 a = 14) (hp : (jG C).2.2.2 a j = some b) (kk : jW C nL (pc + 1) lv (.ref b :: st) X M kc ks Q) : jW C nL pc lv (.int i :: .ref a :: st) X M kc ks Q := fun H locs ls hP hD hS hl => by
  obtain ⟨q, hq⟩ := pW_get (jcy C) X (jG C) M hL
  rw [pcell_P (jcy C) (jG C) M hK (by decide)] at hq
  subst hi
  refine va_aldq (D := jD C) (C := RX5) E.1 E.2.1 E.2.2.2.2.2.1 hP q 6 hq rfl (by rw [hlen]; exact vp_in_nI hj hN) hd ?_
  rw [nI_clamp (by omega), hp]
  exact kk H locs ls hP hD hS hl
theorem j_lenZ (E : jE C cc nL Ts own ret rm) {a N : Nat} {v : Int32} (hd : decode cc pc = .ok (.arraylength, 1)) (hL : a ∈ (jG C).1) (hlen : (jG C).2.2.1 a = N) (hK : (jG C).2.1 a = 14) (hv : nI N = v) (kk : jW C nL (pc + 1) lv (.int v :: st) X M kc ks Q) : jW C nL pc lv (.ref a :: st) X M kc ks Q := fun H locs ls hP hD hS hl => by
  obtain ⟨q, hq⟩ := pW_get (jcy C) X (jG C) M hL
  rw [pcell_P (jcy C) (jG C) M hK (by decide)] at hq
  exact va_alen (D := jD C) (ty := .object RX5) E.1 E.2.1 E.2.2.2.2.2.1 hP q 6 hq rfl (by rw [← hv, ← hlen]; rfl) hd (kk H locs ls hP hD hS hl)
theorem j_min (E : jE C cc nL Ts own ret rm) {index : Nat} {x y : Int32} (hd : decode cc pc = .ok (.invokestatic index, 3)) (h1 : Cond.methodLink own index Lib.Math.min.name ∈ Ts) (h2 : Cond.static Lib.Math.min.name ∈ Ts) (h3 : Cond.initialized "java/lang/Math" ∈ Ts) (h4 : Cond.code Lib.Math.min.name Lib.Math.min.code 2 (some .int) ∈ Ts) (hf : 1 ≤ rm.frames) (hlo : (st.map fun v => v.category).sum + 13 ≤ rm.locals) (hkc : kc ≤ rm.cells) (hks : ks ≤ rm.slots) (kk : jW C nL (pc + 3) lv (.int (if y < x then y else x) :: st) X M kc ks Q) : jW C nL pc lv (.int y :: .int x :: st) X M kc ks Q := fun H locs ls hP hD hS hl => by
  have hR := E.2.2.2.2.2.2.2.2.2.2
  refine va_mmin E.1 E.2.1 (E.2.2.1.trans hl.1.symm) E.2.2.2.1 (E.2.2.2.2.1 _ h1) (E.2.2.2.2.1 _ h2) (E.2.2.2.2.1 _ h3) (E.2.2.2.2.1 _ h4) (by rw [hR]; exact hf) (by rw [hR]; exact hlo) (by rw [hR]; exact hkc) (by rw [hR]; exact hks) hd (kk H locs ls hP hD hS hl)
theorem j_copyI (E : jE C cc nL Ts own ret rm) {index : Nat} {sp dp n : Int32} {a N spN dpN nN : Nat} (hd : decode cc pc = .ok (.invokestatic index, 3)) (h1 : Cond.methodLink own index arraycopyName ∈ Ts) (h2 : Cond.native arraycopyName ∈ Ts) (h3 : Cond.static arraycopyName ∈ Ts) (h4 : Cond.initialized "java/lang/System" ∈ Ts) (hf : 1 ≤ rm.frames) (hlo : (st.map fun v => v.category).sum + (nativeFrameWords "java/lang/System" "arraycopy" 5 + 11) ≤ rm.locals)
    (hL : a ∈ (jG C).1) (hlen : (jG C).2.2.1 a = N) (hK : (jG C).2.1 a = 10) (hsp : sp = nI spN) (hdp : dp = nI dpN) (hn : n = nI nN) (hb : spN + nN ≤ N ∧ dpN + nN ≤ N ∧ N < 2 ^ 31) (kk : jW C nL (pc + 3) lv st X (pR M a (va_cpy (M.1 a) (M.1 a) spN dpN nN)) kc ks Q) : jW C nL pc lv (.int n :: .int dp :: .ref a :: .int sp :: .ref a :: st) X M kc ks Q := fun H locs ls hP hD hS hl => by
  have hR := E.2.2.2.2.2.2.2.2.2.2
  obtain ⟨q, hq⟩ := pW_get (jcy C) X (jG C) M hL
  have hq2 := hq
  rw [pcell_I (jcy C) (jG C) M hK] at hq2
  subst hsp; subst hdp; subst hn
  have c1 : (nI spN).toNatClampNeg = spN := nI_clamp (by omega)
  have c2 : (nI dpN).toNatClampNeg = dpN := nI_clamp (by omega)
  have c3 : (nI nN).toNatClampNeg = nN := nI_clamp (by omega)
  have hset : (pW (jcy C) X (jG C) M).set q (a, .inl (jcy C 2, (jG C).2.2.1 a, .inl (va_cpy (M.1 a) (M.1 a) spN dpN nN))) = pW (jcy C) X (jG C) (pR M a (va_cpy (M.1 a) (M.1 a) spN dpN nN)) := by
    refine pW_set hD hL hq ?_ (fun b hb => ?_)
    · rw [pcell_I (jcy C) (jG C) _ hK]
      simp only [pR, va_up, if_true]
    · simp [pR, va_up, hb]
  refine va_copyi (D := jD C) (ty := .int) E.1 E.2.1 (E.2.2.1.trans hl.1.symm) E.2.2.2.1 (E.2.2.2.2.1 _ h1) (E.2.2.2.2.1 _ h2) (E.2.2.2.2.1 _ h3) (E.2.2.2.2.1 _ h4) E.2.2.2.2.2.1 hP hD hS q q 2 2 hq2 hq2 rfl rfl rfl (nI_pos (by omega)) (nI_pos (by omega)) (nI_pos (by omega)) (by rw [c1, c3, hlen]; omega) (by rw [c2, c3, hlen]; omega) (fun i _ => rfl) (by rw [hR]; exact hf) (by rw [hR]; exact hlo) hd (fun H locs hP hD hS => ?_)
  rw [c1, c2, c3, hset] at hP hD
  exact kk H locs ls hP hD hS hl
end J
/-! CONTRACTS: a method y with the arguments av, in the world X and the pool (G, M), returns r, and the pool's memory is M2, the world X2; nothing else has changed, nothing is new. -/
def jQ (D : va_G) (cy : Nat → ClassId) (X : va_W) (G : pG) (M : pM) (A : Nat → Prop) (r : Option Value) : Array Value → State → Outcome → State → Prop := fun _ st oc t =>
  (oc = .returned r ∧ va_P D vwCl (pW cy X G M) t.heap ∧ va_K D vwCl (ptys cy) t ∧ va_D A (pW cy X G M)) ∧ va_F A st t
def jPre (D : va_G) (cy : Nat → ClassId) (X : va_W) (G : pG) (M : pM) (sz : Nat) (U : State) : Prop := U.heap.size = sz ∧ va_P D vwCl (pW cy X G M) U.heap ∧ va_K D vwCl (ptys cy) U ∧ va_D (fun _ => True) (pW cy X G M)
def jK (l : Launch) (y : MethodName) (ws : List Cond) (rm : Room) (D : va_G) (cy : Nat → ClassId) (X : va_W) (G : pG) (M : pM) (av : List Value) (r : Option Value) (X2 : va_W) (M2 : pM) : Prop :=
  ∀ sz : Nat, Met l y ws rm (va_Pc av (jPre D cy X G M sz)) (jQ D cy X2 G M2 (va_A (pW cy X G M) sz) r) 0 0 (va_A (pW cy X G M) sz)
/-- what a method's end must show -/
def jZ (C : jC) (X : va_W) (M : pM) (r : Option Value) (kc ks : Nat) : State → Prop := MQ (jb C) (jQ (jD C) (jcy C) X (jG C) M (jA C) r) (ja C) (js C) kc ks (jA C)
theorem jPre_blind {D : va_G} {cy : Nat → ClassId} {X : va_W} {G : pG} {M : pM} {sz : Nat} {av : List Value} : FrameBlind (va_Pc av (jPre D cy X G M sz)) := fun a U g mk q => by
  obtain ⟨q0, q1, qP, qK, qD⟩ := q
  exact ⟨q0, q1, qP, va_K.moved (u := U) (U := U.calling g mk a) (Vm.Alike.refl U.vm) qK, qD⟩
theorem jK_of {l : Launch} {y : MethodName} {ws ws' : List Cond} {rm : Room} {D : va_G} {cy : Nat → ClassId} {X : va_W} {G : pG} {M : pM} {av : List Value} {r : Option Value} {X2 : va_W} {M2 : pM} {cc : ByteArray} {maxL : Nat} {ret : Option FieldType} {own : String}
    (hy : plainName y.cls = true) (ho : y.cls = own) (hw : ws = Cond.code y cc maxL ret :: ws') (hav : (lg_sl av).length ≤ maxL)
    (body : ∀ C : jC, jE C cc maxL ws own ret rm → jl C = l → jD C = D → jcy C = cy → jG C = G → jW C maxL 0 (lv_args 0 av) [] X M 0 0 (jZ C X2 M2 r 0 0)) : jK l y ws rm D cy X G M av r X2 M2 := by
  intro sz
  refine Met.ofW (cc := cc) (maxL := maxL) (ret := ret) hy hw ?_
  intro p e s m args below meth c s₁ B hml hv
  obtain ⟨rfl, hsz, hP, hK, hD0⟩ := hv
  have hts := atoms_spec (ws := ws) B.pre
  have hown : s.vm.findClass own = some m.cls := by rw [← ho]; exact findClass_of_methodNamed B.named
  subst hsz
  have hD := hD0.self (sz := s.heap.size)
  have hA : ∀ q : Nat, s.heap.size ≤ q → va_A (pW cy X G M) s.heap.size q := fun q h => Or.inr h
  have hl := lv_entry av (n := maxL) hav
  rw [lg_entry_eq]
  exact body ((p, l, e, (headSpec ws rm).room, s, m, av.toArray, below, meth, c), (D, cy, G, va_A (pW cy X G M) s.heap.size, s.heap)) ⟨B.exec, B.bytes, hml, hown, hts, hK, hA, B.notSynchronized, B.returns, rfl, rfl⟩ rfl rfl rfl rfl s.heap [] _ hP hD va_S.rf hl
section JR
variable {C : jC} {cc : ByteArray} {nL : Nat} {Ts : List Cond} {own : String} {ret : Option FieldType} {rm : Room} {pc : Nat} {lv : List (Nat × Value)} {X X2 : va_W} {M M2 : pM} {kc ks : Nat}
theorem j_iret (E : jE C cc nL Ts own (some .int) rm) {v v2 : Int32} (hd : decode cc pc = .ok (.ireturn, 1)) (hv : v = v2) (hX : X = X2) (hM : M = M2) : jW C nL pc lv [.int v] X M kc ks (jZ C X2 M2 (some (.int v2)) kc ks) := fun H locs ls hP hD hS hl => by
  subst hv; subst hX; subst hM
  have hb := E.2.2.2.2.2.2.2.1
  exact W.iret E.1 E.2.1 E.2.2.2.2.2.2.2.2.1 (fun t ht hW => ⟨⟨rfl, by rw [ht]; exact hP, va_K.moved hW.alike E.2.2.2.2.2.1, hD⟩, by have hS9 := hS; rw [E.2.2.2.2.2.2.2.2.2.1] at hS9; exact hS9.F ht⟩) hS.2.2 hd hb
theorem j_zret (E : jE C cc nL Ts own (some .boolean) rm) {v v2 : Int32} (hd : decode cc pc = .ok (.ireturn, 1)) (hn : narrow .boolean (.int v) = .int v) (hv : v = v2) (hX : X = X2) (hM : M = M2) : jW C nL pc lv [.int v] X M kc ks (jZ C X2 M2 (some (.int v2)) kc ks) := fun H locs ls hP hD hS hl => by
  subst hv; subst hX; subst hM
  have hb := E.2.2.2.2.2.2.2.1
  exact W.zret E.1 E.2.1 E.2.2.2.2.2.2.2.2.1 hn (fun t ht hW => ⟨⟨rfl, by rw [ht]; exact hP, va_K.moved hW.alike E.2.2.2.2.2.1, hD⟩, by have hS9 := hS; rw [E.2.2.2.2.2.2.2.2.2.1] at hS9; exact hS9.F ht⟩) hS.2.2 hd hb
theorem j_cret (E : jE C cc nL Ts own (some .char) rm) {v v2 : Int32} (hd : decode cc pc = .ok (.ireturn, 1)) (hn : narrow .char (.int v) = .int v) (hv : v = v2) (hX : X = X2) (hM : M = M2) : jW C nL pc lv [.int v] X M kc ks (jZ C X2 M2 (some (.int v2)) kc ks) := fun H locs ls hP hD hS hl => by
  subst hv; subst hX; subst hM
  have hb := E.2.2.2.2.2.2.2.1
  exact W.zret E.1 E.2.1 E.2.2.2.2.2.2.2.2.1 hn (fun t ht hW => ⟨⟨rfl, by rw [ht]; exact hP, va_K.moved hW.alike E.2.2.2.2.2.1, hD⟩, by have hS9 := hS; rw [E.2.2.2.2.2.2.2.2.2.1] at hS9; exact hS9.F ht⟩) hS.2.2 hd hb
theorem j_fret (E : jE C cc nL Ts own (some .float) rm) {v v2 : UInt32} (hd : decode cc pc = .ok (.freturn, 1)) (hv : v = v2) (hX : X = X2) (hM : M = M2) : jW C nL pc lv [.float v] X M kc ks (jZ C X2 M2 (some (.float v2)) kc ks) := fun H locs ls hP hD hS hl => by
  subst hv; subst hX; subst hM
  have hb := E.2.2.2.2.2.2.2.1
  exact W.fret E.1 E.2.1 E.2.2.2.2.2.2.2.2.1 (fun t ht hW => ⟨⟨rfl, by rw [ht]; exact hP, va_K.moved hW.alike E.2.2.2.2.2.1, hD⟩, by have hS9 := hS; rw [E.2.2.2.2.2.2.2.2.2.1] at hS9; exact hS9.F ht⟩) hS.2.2 hd hb
theorem j_vret (E : jE C cc nL Ts own none rm) (hd : decode cc pc = .ok (.return_, 1)) (hX : X = X2) (hM : M = M2) : jW C nL pc lv [] X M kc ks (jZ C X2 M2 none kc ks) := fun H locs ls hP hD hS hl => by
  subst hX; subst hM
  have hb := E.2.2.2.2.2.2.2.1
  exact W.vret E.1 E.2.1 E.2.2.2.2.2.2.2.2.1 (fun t ht hW => ⟨⟨rfl, by rw [ht]; exact hP, va_K.moved hW.alike E.2.2.2.2.2.1, hD⟩, by have hS9 := hS; rw [E.2.2.2.2.2.2.2.2.2.1] at hS9; exact hS9.F ht⟩) hS.2.2 hd hb
end JR
section JCall
variable {p : Program} {l : Launch} {e : Env} {R : Room} {s : State} {m : MethodId} {args : Array Value} {below : List Frame} {meth : Method} {c : Code} {H H0 : Heap} {locs : List Loc} {cells slots pc : Nat} {ls : Array Slot} {rest st0 : List Value} {Q : State → Prop} {a : Array Value} {free : Addr → Prop} {A0 A1 : Nat → Prop} {D : va_G} {cy : Nat → ClassId} {X : va_W} {G : pG} {M : pM} {r : Option Value}
theorem jx_call (hr : va_Run p l e R s m args below meth c H locs cells slots 0 0 (F0 m pc ls st0) rest (jQ D cy X G M A1 r a) free) (hS : va_S A0 H0 H locs) (hA : ∀ q, q < H.size → A1 q → A0 q) (hf : ∀ q, free q → A0 q)
    (kk : ∀ (H1 : Heap) (locs1 : List Loc), va_P D vwCl (pW cy X G M) H1 → va_S A0 H0 H1 locs1 → W p l e R s m args below meth c H1 locs1 cells slots Q (F0 m (pc + 3) ls (r.toList ++ rest))) : W p l e R s m args below meth c H locs cells slots Q (F0 m pc ls st0) := by
  intro T hT X0
  obtain ⟨v, st₀, t, T', L, h0, X', hL, e1, e2, ⟨⟨hv, hP, hK, hD⟩, hz, hk⟩, st⟩ := hr T hT X0
  cases hv
  rw [h0] at hz hk
  obtain ⟨t2, a1, b1⟩ := kk T'.heap (locs ++ L) (by rw [e1]; exact hP)
    ⟨Nat.le_trans hS.1 (by rw [e1]; exact hz), fun q h1 h2 => by rw [e1, hk q (Nat.lt_of_lt_of_le h1 hS.1) (fun z => h2 (hA q (Nat.lt_of_lt_of_le h1 hS.1) z))]; exact hS.2.1 q h1 h2, fun q hq => by
      rcases List.mem_append.mp hq with h | h
      · exact hS.2.2 q h
      · exact hf _ (hL q h)⟩ T' rfl X'
  exact ⟨t2, st t2 a1, b1⟩
end JCall
section JC2
variable {C : jC} {cc : ByteArray} {nL : Nat} {Ts : List Cond} {own : String} {ret : Option FieldType} {rm : Room} {pc : Nat} {lv : List (Nat × Value)} {st rest : List Value} {X X2 : va_W} {M M2 : pM} {kc ks : Nat} {Q : State → Prop}
theorem jA_sub {A0 : Nat → Prop} {ws : va_W} {H0 H : Heap} {locs : List Loc} (hD : va_D A0 ws) (hS : va_S A0 H0 H locs) (hA : ∀ q, H0.size ≤ q → A0 q) : ∀ q, va_A ws H.size q → A0 q := by
  intro q hq
  rcases hq with ⟨k, e, hk⟩ | hq
  · exact hD.2 k _ hk
  · exact hA q (Nat.le_trans hS.1 hq)
theorem jD_addr {A : Nat → Prop} {ws ws' : va_W} (hD : va_D A ws) (h : ws.map Prod.fst = ws'.map Prod.fst) : va_D A ws' := by
  have key : ∀ (k : Nat) (q : Nat × va_E), ws'[k]? = some q → ∃ e, ws[k]? = some (q.1, e) := by
    intro k q hq
    have h1 : (ws'.map Prod.fst)[k]? = some q.1 := by rw [List.getElem?_map, hq]; rfl
    rw [← h, List.getElem?_map] at h1
    cases h2 : ws[k]? with
    | none => rw [h2] at h1; cases h1
    | some z =>
      rw [h2] at h1
      have h3 : z.1 = q.1 := by simpa using h1
      exact ⟨z.2, by rw [← h3]⟩
  constructor
  · intro i j p q hi hj h
    obtain ⟨e1, h1⟩ := key i p hi
    obtain ⟨e2, h2⟩ := key j q hj
    exact hD.1 i j _ _ h1 h2 h
  · intro k q hq
    obtain ⟨e1, h1⟩ := key k q hq
    exact hD.2 k (q.1, e1) h1
theorem pW_addr {cy : Nat → ClassId} {X X2 : va_W} {G : pG} {M M2 : pM} (hX : X.map Prod.fst = X2.map Prod.fst) : (pW cy X G M).map Prod.fst = (pW cy X2 G M2).map Prod.fst := by
  simp [pW, va_pl, hX, Function.comp_def]
/-- a call of an instance method, by its contract -/
theorem j_callV (E : jE C cc nL Ts own ret rm) {y : MethodName} {bytes : ByteArray} {maxL n index ci N b : Nat} {retY : Option FieldType} {wsY wsY' : List Cond} {rmY : Room} {Cn : String} {T : u_T} {As : List Value} {r : Option Value} (hM : jK (jl C) y wsY rmY (jD C) (jcy C) X (jG C) M (.ref b :: As) r X2 M2)
    (hd : decode cc pc = .ok (.invokevirtual index, 3)) (hg : GoodIn Ts (wsV own index Cn y wsY)) (hw : wsY = Cond.code y bytes maxL retY :: wsY') (hy : y.cls = Cn ∧ y.cls ≠ "java/lang/invoke/MethodHandle" ∧ y.cls ≠ "java/lang/invoke/VarHandle" ∧ (parseMethodDescriptor y.desc).map (fun d => d.parameters.length) = some n)
    (hrm : rmY.cells = 0 ∧ rmY.slots = 0 ∧ rmY.frames + 1 ≤ rm.frames ∧ 8 + (maxL + 11) + rmY.locals ≤ rm.locals) (hk : kc ≤ rm.cells ∧ ks ≤ rm.slots) (hL : b ∈ (jG C).1) (hK : (jG C).2.1 b = ci) (hcl : vwCl[ci]? = some (Cn, T, N)) (hn : As.length = n) (hst : st = As.reverse ++ .ref b :: rest) (hrest : (rest.map fun v => v.category).sum ≤ 8) (hX : X.map Prod.fst = X2.map Prod.fst)
    (kk : jW C nL (pc + 3) lv (r.toList ++ rest) X2 M2 kc ks Q) : jW C nL pc lv st X M kc ks Q := fun H locs ls hP hD hS hl => by
  have hR := E.2.2.2.2.2.2.2.2.2.2
  obtain ⟨q, hq⟩ := pW_get (jcy C) X (jG C) M hL
  rw [pcell_o (jcy C) (jG C) M hK (List.getElem?_eq_some_iff.mp hcl).1] at hq
  subst hst
  have hFc := jA_sub hD hS E.2.2.2.2.2.2.1
  refine jx_call (A0 := jA C) (H0 := jH C) (va_runV (As := As) (rest := rest) (n := n) (C := Cn) ⟨E.1, E.2.1, E.2.2.1, E.2.2.2.1, E.2.2.2.2.1⟩ (hM H.size) (cwV n E.2.2.2.2.1 hg hw hrm.1 hrm.2.1 hy ⟨by rw [hR]; exact hrm.2.2.1, by rw [hR]; exact hrm.2.2.2⟩) ⟨jPre_blind, va_recv E.2.2.2.2.2.1 hP hcl hq, fun U hU hW => ⟨rfl, by rw [hU], by rw [hU]; exact hP, va_K.moved hW.alike E.2.2.2.2.2.1, hD.weaken (fun _ _ _ _ => trivial)⟩⟩ rfl hn hl.1 rfl (lv_room hrest) hd ⟨by rw [hR]; exact hk.1, by rw [hR]; exact hk.2⟩) hS (fun q _ h => hFc q h) hFc (fun H1 locs1 hP1 hS1 => ?_)
  exact kk H1 locs1 ls hP1 (jD_addr hD (pW_addr hX)) hS1 hl
/-- a call of a static method, by its contract -/
theorem j_callS (E : jE C cc nL Ts own ret rm) {y : MethodName} {bytes : ByteArray} {maxL n index : Nat} {retY : Option FieldType} {wsY wsY' : List Cond} {rmY : Room} {As : List Value} {r : Option Value} (hM : jK (jl C) y wsY rmY (jD C) (jcy C) X (jG C) M As r X2 M2)
    (hd : decode cc pc = .ok (.invokestatic index, 3)) (hg : GoodIn Ts (va_wsS own index y wsY)) (hw : wsY = Cond.code y bytes maxL retY :: wsY') (hy : y.cls ≠ "java/lang/invoke/MethodHandle" ∧ y.cls ≠ "java/lang/invoke/VarHandle" ∧ (parseMethodDescriptor y.desc).map (fun d => d.parameters.length) = some n)
    (hrm : rmY.cells = 0 ∧ rmY.slots = 0 ∧ rmY.frames + 1 ≤ rm.frames ∧ 8 + (maxL + 11) + rmY.locals ≤ rm.locals) (hk : kc ≤ rm.cells ∧ ks ≤ rm.slots) (hn : As.length = n) (hst : st = As.reverse ++ rest) (hrest : (rest.map fun v => v.category).sum ≤ 8) (hX : X.map Prod.fst = X2.map Prod.fst)
    (kk : jW C nL (pc + 3) lv (r.toList ++ rest) X2 M2 kc ks Q) : jW C nL pc lv st X M kc ks Q := fun H locs ls hP hD hS hl => by
  have hR := E.2.2.2.2.2.2.2.2.2.2
  subst hst
  have hFc := jA_sub hD hS E.2.2.2.2.2.2.1
  refine jx_call (A0 := jA C) (H0 := jH C) (va_runS (As := As) (rest := rest) (n := n) ⟨E.1, E.2.1, E.2.2.1, E.2.2.2.1, E.2.2.2.2.1⟩ (hM H.size) (va_cwS n E.2.2.2.2.1 hg hw hrm.1 hrm.2.1 hy ⟨by rw [hR]; exact hrm.2.2.1, by rw [hR]; exact hrm.2.2.2⟩) ⟨jPre_blind, fun U hU hW => ⟨rfl, by rw [hU], by rw [hU]; exact hP, va_K.moved hW.alike E.2.2.2.2.2.1, hD.weaken (fun _ _ _ _ => trivial)⟩⟩ rfl hn hl.1 rfl (lv_room hrest) hd ⟨by rw [hR]; exact hk.1, by rw [hR]; exact hk.2⟩) hS (fun q _ h => hFc q h) hFc (fun H1 locs1 hP1 hS1 => ?_)
  exact kk H1 locs1 ls hP1 (jD_addr hD (pW_addr hX)) hS1 hl
theorem j_callV0 (E : jE C cc nL Ts own ret rm) {y : MethodName} {bytes : ByteArray} {maxL n index ci N b : Nat} {retY : Option FieldType} {wsY wsY' : List Cond} {rmY : Room} {Cn : String} {T : u_T} {As : List Value} (hM : jK (jl C) y wsY rmY (jD C) (jcy C) X (jG C) M (.ref b :: As) none X2 M2)
    (hd : decode cc pc = .ok (.invokevirtual index, 3)) (hg : GoodIn Ts (wsV own index Cn y wsY)) (hw : wsY = Cond.code y bytes maxL retY :: wsY') (hy : y.cls = Cn ∧ y.cls ≠ "java/lang/invoke/MethodHandle" ∧ y.cls ≠ "java/lang/invoke/VarHandle" ∧ (parseMethodDescriptor y.desc).map (fun d => d.parameters.length) = some n)
    (hrm : rmY.cells = 0 ∧ rmY.slots = 0 ∧ rmY.frames + 1 ≤ rm.frames ∧ 8 + (maxL + 11) + rmY.locals ≤ rm.locals) (hk : kc ≤ rm.cells ∧ ks ≤ rm.slots) (hL : b ∈ (jG C).1) (hK : (jG C).2.1 b = ci) (hcl : vwCl[ci]? = some (Cn, T, N)) (hn : As.length = n) (hst : st = As.reverse ++ .ref b :: rest) (hrest : (rest.map fun v => v.category).sum ≤ 8) (hX : X.map Prod.fst = X2.map Prod.fst)
    (kk : jW C nL (pc + 3) lv rest X2 M2 kc ks Q) : jW C nL pc lv st X M kc ks Q := j_callV E hM hd hg hw hy hrm hk hL hK hcl hn hst hrest hX kk
theorem j_callV1 (E : jE C cc nL Ts own ret rm) {y : MethodName} {bytes : ByteArray} {maxL n index ci N b : Nat} {retY : Option FieldType} {wsY wsY' : List Cond} {rmY : Room} {Cn : String} {T : u_T} {As : List Value} {v : Value} (hM : jK (jl C) y wsY rmY (jD C) (jcy C) X (jG C) M (.ref b :: As) (some v) X2 M2)
    (hd : decode cc pc = .ok (.invokevirtual index, 3)) (hg : GoodIn Ts (wsV own index Cn y wsY)) (hw : wsY = Cond.code y bytes maxL retY :: wsY') (hy : y.cls = Cn ∧ y.cls ≠ "java/lang/invoke/MethodHandle" ∧ y.cls ≠ "java/lang/invoke/VarHandle" ∧ (parseMethodDescriptor y.desc).map (fun d => d.parameters.length) = some n)
    (hrm : rmY.cells = 0 ∧ rmY.slots = 0 ∧ rmY.frames + 1 ≤ rm.frames ∧ 8 + (maxL + 11) + rmY.locals ≤ rm.locals) (hk : kc ≤ rm.cells ∧ ks ≤ rm.slots) (hL : b ∈ (jG C).1) (hK : (jG C).2.1 b = ci) (hcl : vwCl[ci]? = some (Cn, T, N)) (hn : As.length = n) (hst : st = As.reverse ++ .ref b :: rest) (hrest : (rest.map fun v => v.category).sum ≤ 8) (hX : X.map Prod.fst = X2.map Prod.fst)
    (kk : jW C nL (pc + 3) lv (v :: rest) X2 M2 kc ks Q) : jW C nL pc lv st X M kc ks Q := j_callV E hM hd hg hw hy hrm hk hL hK hcl hn hst hrest hX kk
theorem j_callS0 (E : jE C cc nL Ts own ret rm) {y : MethodName} {bytes : ByteArray} {maxL n index : Nat} {retY : Option FieldType} {wsY wsY' : List Cond} {rmY : Room} {As : List Value} (hM : jK (jl C) y wsY rmY (jD C) (jcy C) X (jG C) M As none X2 M2)
    (hd : decode cc pc = .ok (.invokestatic index, 3)) (hg : GoodIn Ts (va_wsS own index y wsY)) (hw : wsY = Cond.code y bytes maxL retY :: wsY') (hy : y.cls ≠ "java/lang/invoke/MethodHandle" ∧ y.cls ≠ "java/lang/invoke/VarHandle" ∧ (parseMethodDescriptor y.desc).map (fun d => d.parameters.length) = some n)
    (hrm : rmY.cells = 0 ∧ rmY.slots = 0 ∧ rmY.frames + 1 ≤ rm.frames ∧ 8 + (maxL + 11) + rmY.locals ≤ rm.locals) (hk : kc ≤ rm.cells ∧ ks ≤ rm.slots) (hn : As.length = n) (hst : st = As.reverse ++ rest) (hrest : (rest.map fun v => v.category).sum ≤ 8) (hX : X.map Prod.fst = X2.map Prod.fst)
    (kk : jW C nL (pc + 3) lv rest X2 M2 kc ks Q) : jW C nL pc lv st X M kc ks Q := j_callS E hM hd hg hw hy hrm hk hn hst hrest hX kk
theorem j_callS1 (E : jE C cc nL Ts own ret rm) {y : MethodName} {bytes : ByteArray} {maxL n index : Nat} {retY : Option FieldType} {wsY wsY' : List Cond} {rmY : Room} {As : List Value} {v : Value} (hM : jK (jl C) y wsY rmY (jD C) (jcy C) X (jG C) M As (some v) X2 M2)
    (hd : decode cc pc = .ok (.invokestatic index, 3)) (hg : GoodIn Ts (va_wsS own index y wsY)) (hw : wsY = Cond.code y bytes maxL retY :: wsY') (hy : y.cls ≠ "java/lang/invoke/MethodHandle" ∧ y.cls ≠ "java/lang/invoke/VarHandle" ∧ (parseMethodDescriptor y.desc).map (fun d => d.parameters.length) = some n)
    (hrm : rmY.cells = 0 ∧ rmY.slots = 0 ∧ rmY.frames + 1 ≤ rm.frames ∧ 8 + (maxL + 11) + rmY.locals ≤ rm.locals) (hk : kc ≤ rm.cells ∧ ks ≤ rm.slots) (hn : As.length = n) (hst : st = As.reverse ++ rest) (hrest : (rest.map fun v => v.category).sum ≤ 8) (hX : X.map Prod.fst = X2.map Prod.fst)
    (kk : jW C nL (pc + 3) lv (v :: rest) X2 M2 kc ks Q) : jW C nL pc lv st X M kc ks Q := j_callS E hM hd hg hw hy hrm hk hn hst hrest hX kk
end JC2
end
section
/-! FirePanel$Place. Slots: 0 kind, 1 zone, 2 threshold, 3 reading, 4 base, 5 level, 6 over, 7 inAlarm, 8 missed, 9 atFault, 10 isOff. -/
def xBegin (M : pM) (p : Nat) (k z : Int32) (t : UInt32) : pM := pI (pI (pI (pI (pF (pF (pF (pI (pI M p 0 k) p 1 z) p 2 t) p 4 FP.fconst0) p 5 FP.fconst0) p 6 0) p 7 0) p 8 0) p 9 0
def xSens (M : pM) (p : Nat) : Int32 := if M.1 p 0 < 1 then 0 else if 3 < M.1 p 0 then 0 else 1
def xWat (M : pM) (p : Nat) (z : Int32) : Int32 := if xSens M p = 0 then 0 else if M.1 p 1 = z then (if M.1 p 10 = 0 then 1 else 0) else 0
def xWarn (M : pM) (p : Nat) : Int32 := if M.1 p 7 = 0 then (if M.1 p 0 = 1 then (if Op.cmpValue (FP.fcmp (M.2 p 5) (FP.fmul (M.2 p 2) 1061158912)) .l < 0 then 0 else 1) else 0) else 1
def xCalm (M : pM) (p : Nat) : pM := pI (pI M p 7 0) p 6 0
def xCount (M : pM) (p : Nat) : pM := if Op.cmpValue (FP.fcmp (M.2 p 5) (M.2 p 2)) .l < 0 then pI M p 6 0 else pI M p 6 (M.1 p 6 + 1)
theorem xCount_2 (M : pM) (p : Nat) : (xCount M p).2 = M.2 := by unfold xCount; split <;> rfl
abbrev xD (M : pM) (p : Nat) : UInt32 := FP.fsub (M.2 p 3) (M.2 p 4)
abbrev xSmL (M : pM) (p : Nat) : UInt32 := FP.fadd (M.2 p 5) (FP.fmul (FP.fsub (xD M p) (M.2 p 5)) 1056964608)
abbrev xSmB (M : pM) (p : Nat) : UInt32 := FP.fadd (M.2 p 4) (FP.fmul (xD M p) 1031798784)
abbrev xHtL (M : pM) (p : Nat) : UInt32 := FP.fadd (FP.fmul (xD M p) 1082130432) (FP.fmul (M.2 p 3) 1048576000)
def xSmoke (M : pM) (p : Nat) : pM := if (xCount (pF M p 5 (xSmL M p)) p).1 p 6 = 0 then pF (xCount (pF M p 5 (xSmL M p)) p) p 4 (xSmB M p) else xCount (pF M p 5 (xSmL M p)) p
def xHeat (M : pM) (p : Nat) : pM := xCount (pF (pF M p 5 (xHtL M p)) p 4 (M.2 p 3)) p
def xBut (M : pM) (p : Nat) : pM := if Op.cmpValue (FP.fcmp (M.2 p 3) FP.fconst0) .l ≤ 0 then pF M p 5 (M.2 p 3) else pF (pI M p 6 3) p 5 (M.2 p 3)
def xSn1 (M : pM) (p : Nat) : pM := if M.1 p 0 = 1 then xSmoke M p else if M.1 p 0 = 2 then xHeat M p else xBut M p
def xSense (M : pM) (p : Nat) : pM := if (xSn1 M p).1 p 6 < 3 then xSn1 M p else pI (xSn1 M p) p 7 1
/-- no NaN comes up -/
def okSmoke (M : pM) (p : Nat) : Prop := vf_n32 (xD M p) ∧ vf_n32 (FP.fsub (xD M p) (M.2 p 5)) ∧ vf_n32 (FP.fmul (FP.fsub (xD M p) (M.2 p 5)) 1056964608) ∧ vf_n32 (xSmL M p) ∧ vf_n32 (FP.fmul (xD M p) 1031798784) ∧ vf_n32 (xSmB M p)
def okHeat (M : pM) (p : Nat) : Prop := vf_n32 (xD M p) ∧ vf_n32 (FP.fmul (xD M p) 1082130432) ∧ vf_n32 (FP.fmul (M.2 p 3) 1048576000) ∧ vf_n32 (xHtL M p)

set_option maxHeartbeats 4000000 in
set_option maxRecDepth 100000 in
theorem k_X2_begin {l : Launch} {D : va_G} {cy : Nat → ClassId} {X : va_W} {G : pG} {M : pM} {p : Nat} {k z : Int32} {t : UInt32} (hL : p ∈ G.1) (hK : G.2.1 p = 2) : jK l yX2_begin wsX2_begin ({ frames := 0, cells := 0, slots := 0, locals := 0 } : Room) D cy X G M [.ref p, .int k, .int z, .float t] none X (xBegin M p k z t) := by
  refine jK_of (own := RX2) (by decide) rfl rfl (Nat.le_of_ble_eq_true rfl) (fun C E hl hD hcy hG => ?_)
  subst hl; subst hD; subst hcy; subst hG
  have hinX2 : ∀ w ∈ u_ws RX2 TX2 11, w ∈ wsX2_begin := by decide +kernel
  refine j_aload_n E dX2_begin_0 rfl rfl ?_
  refine j_iload_n E dX2_begin_1 rfl rfl ?_
  refine j_putI (ci := 2) (k := 0) (Cn := RX2) (T := TX2) (N := 11) E dX2_begin_2 (by assumption) (by assumption) rfl (by decide) hinX2 (by decide +kernel) rfl tyX2 tyX2_ok nmX2 rfl rfl rfl rfl ?_
  refine j_aload_n E dX2_begin_5 rfl rfl ?_
  refine j_iload_n E dX2_begin_6 rfl rfl ?_
  refine j_putI (ci := 2) (k := 1) (Cn := RX2) (T := TX2) (N := 11) E dX2_begin_7 (by assumption) (by assumption) rfl (by decide) hinX2 (by decide +kernel) rfl tyX2 tyX2_ok nmX2 rfl rfl rfl rfl ?_
  refine j_aload_n E dX2_begin_10 rfl rfl ?_
  refine j_fload_n E dX2_begin_11 rfl rfl ?_
  refine j_putF (ci := 2) (k := 2) (Cn := RX2) (T := TX2) (N := 11) E dX2_begin_12 (by assumption) (by assumption) rfl (by decide) hinX2 (by decide +kernel) rfl tyX2 tyX2_ok nmX2 rfl rfl rfl rfl ?_
  refine j_aload_n E dX2_begin_15 rfl rfl ?_
  refine j_fconst0 E dX2_begin_16 ?_
  refine j_putF (ci := 2) (k := 4) (Cn := RX2) (T := TX2) (N := 11) E dX2_begin_17 (by assumption) (by assumption) rfl (by decide) hinX2 (by decide +kernel) rfl tyX2 tyX2_ok nmX2 rfl rfl rfl rfl ?_
  refine j_aload_n E dX2_begin_20 rfl rfl ?_
  refine j_fconst0 E dX2_begin_21 ?_
  refine j_putF (ci := 2) (k := 5) (Cn := RX2) (T := TX2) (N := 11) E dX2_begin_22 (by assumption) (by assumption) rfl (by decide) hinX2 (by decide +kernel) rfl tyX2 tyX2_ok nmX2 rfl rfl rfl rfl ?_
  refine j_aload_n E dX2_begin_25 rfl rfl ?_
  refine j_iconst (v := 0) E dX2_begin_26 (by decide) ?_
  refine j_putI (ci := 2) (k := 6) (Cn := RX2) (T := TX2) (N := 11) E dX2_begin_27 (by assumption) (by assumption) rfl (by decide) hinX2 (by decide +kernel) rfl tyX2 tyX2_ok nmX2 rfl rfl rfl rfl ?_
  refine j_aload_n E dX2_begin_30 rfl rfl ?_
  refine j_iconst (v := 0) E dX2_begin_31 (by decide) ?_
  refine j_putI (ci := 2) (k := 7) (Cn := RX2) (T := TX2) (N := 11) E dX2_begin_32 (by assumption) (by assumption) rfl (by decide) hinX2 (by decide +kernel) rfl tyX2 tyX2_ok nmX2 rfl rfl rfl rfl ?_
  refine j_aload_n E dX2_begin_35 rfl rfl ?_
  refine j_iconst (v := 0) E dX2_begin_36 (by decide) ?_
  refine j_putI (ci := 2) (k := 8) (Cn := RX2) (T := TX2) (N := 11) E dX2_begin_37 (by assumption) (by assumption) rfl (by decide) hinX2 (by decide +kernel) rfl tyX2 tyX2_ok nmX2 rfl rfl rfl rfl ?_
  refine j_aload_n E dX2_begin_40 rfl rfl ?_
  refine j_iconst (v := 0) E dX2_begin_41 (by decide) ?_
  refine j_putI (ci := 2) (k := 9) (Cn := RX2) (T := TX2) (N := 11) E dX2_begin_42 (by assumption) (by assumption) rfl (by decide) hinX2 (by decide +kernel) rfl tyX2 tyX2_ok nmX2 rfl rfl rfl rfl ?_
  exact j_vret E dX2_begin_45 rfl (by rfl)

set_option maxHeartbeats 4000000 in
set_option maxRecDepth 100000 in
theorem k_X2_isSensor {l : Launch} {D : va_G} {cy : Nat → ClassId} {X : va_W} {G : pG} {M : pM} {p : Nat} (hL : p ∈ G.1) (hK : G.2.1 p = 2) : jK l yX2_isSensor wsX2_isSensor ({ frames := 0, cells := 0, slots := 0, locals := 0 } : Room) D cy X G M [.ref p] (some (.int (xSens M p))) X M := by
  refine jK_of (own := RX2) (by decide) rfl rfl (Nat.le_of_ble_eq_true rfl) (fun C E hl hD hcy hG => ?_)
  subst hl; subst hD; subst hcy; subst hG
  have hinX2 : ∀ w ∈ u_ws RX2 TX2 11, w ∈ wsX2_isSensor := by decide +kernel
  refine j_aload_n E dX2_isSensor_0 rfl rfl ?_
  refine j_getI (ci := 2) (k := 0) (Cn := RX2) (T := TX2) (N := 11) E dX2_isSensor_1 (by assumption) (by assumption) rfl (by decide) hinX2 (by decide +kernel) rfl ?_
  refine j_iconst (v := 1) E dX2_isSensor_4 (by decide) ?_
  refine j_icmp_lt (tgt := 20) E dX2_isSensor_5 (by decide) (fun h5 => ?_) (fun h5 => ?_)
  · refine j_iconst (v := 0) E dX2_isSensor_20 (by decide) ?_
    exact j_zret E dX2_isSensor_21 rfl (by first | rfl | (simp [xSens, h5]; done)) rfl (by first | rfl | (simp [xSens, h5]; done))
  · refine j_aload_n E dX2_isSensor_8 rfl rfl ?_
    refine j_getI (ci := 2) (k := 0) (Cn := RX2) (T := TX2) (N := 11) E dX2_isSensor_9 (by assumption) (by assumption) rfl (by decide) hinX2 (by decide +kernel) rfl ?_
    refine j_iconst (v := 3) E dX2_isSensor_12 (by decide) ?_
    refine j_icmp_gt (tgt := 20) E dX2_isSensor_13 (by decide) (fun h13 => ?_) (fun h13 => ?_)
    · refine j_iconst (v := 0) E dX2_isSensor_20 (by decide) ?_
      exact j_zret E dX2_isSensor_21 rfl (by first | rfl | (simp [xSens, h5, h13]; done)) rfl (by first | rfl | (simp [xSens, h5, h13]; done))
    · refine j_iconst (v := 1) E dX2_isSensor_16 (by decide) ?_
      refine j_goto (tgt := 21) E dX2_isSensor_17 (by decide) ?_
      exact j_zret E dX2_isSensor_21 rfl (by first | rfl | (simp [xSens, h5, h13]; done)) rfl (by first | rfl | (simp [xSens, h5, h13]; done))

set_option maxHeartbeats 4000000 in
set_option maxRecDepth 100000 in
theorem k_X2_watches {l : Launch} {D : va_G} {cy : Nat → ClassId} {X : va_W} {G : pG} {M : pM} {p : Nat} {z : Int32} (hL : p ∈ G.1) (hK : G.2.1 p = 2) : jK l yX2_watches wsX2_watches ({ frames := 1, cells := 0, slots := 0, locals := 20 } : Room) D cy X G M [.ref p, .int z] (some (.int (xWat M p z))) X M := by
  refine jK_of (own := RX2) (by decide) rfl rfl (Nat.le_of_ble_eq_true rfl) (fun C E hl hD hcy hG => ?_)
  subst hl; subst hD; subst hcy; subst hG
  have hinX2 : ∀ w ∈ u_ws RX2 TX2 11, w ∈ wsX2_watches := by decide +kernel
  refine j_aload_n E dX2_watches_0 rfl rfl ?_
  refine j_callV1 (ci := 2) (n := 0) E (k_X2_isSensor (by assumption) (by assumption)) dX2_watches_1 gX2_watches_X2_isSensor rfl (by decide +kernel) ⟨rfl, rfl, by decide, by decide⟩ ⟨Nat.zero_le _, Nat.zero_le _⟩ (by assumption) (by assumption) rfl rfl rfl (Nat.le_of_ble_eq_true rfl) rfl ?_
  refine j_if_eq (tgt := 26) E dX2_watches_4 (by decide) (fun h4 => ?_) (fun h4 => ?_)
  · refine j_iconst (v := 0) E dX2_watches_26 (by decide) ?_
    exact j_zret E dX2_watches_27 rfl (by first | rfl | (simp [xWat, h4]; done)) rfl (by first | rfl | (simp [xWat, h4]; done))
  · refine j_aload_n E dX2_watches_7 rfl rfl ?_
    refine j_getI (ci := 2) (k := 1) (Cn := RX2) (T := TX2) (N := 11) E dX2_watches_8 (by assumption) (by assumption) rfl (by decide) hinX2 (by decide +kernel) rfl ?_
    refine j_iload_n E dX2_watches_11 rfl rfl ?_
    refine j_icmp_ne (tgt := 26) E dX2_watches_12 (by decide) (fun h12 => ?_) (fun h12 => ?_)
    · refine j_iconst (v := 0) E dX2_watches_26 (by decide) ?_
      exact j_zret E dX2_watches_27 rfl (by first | rfl | (simp [xWat, h4, h12]; done)) rfl (by first | rfl | (simp [xWat, h4, h12]; done))
    · refine j_aload_n E dX2_watches_15 rfl rfl ?_
      refine j_getI (ci := 2) (k := 10) (Cn := RX2) (T := TX2) (N := 11) E dX2_watches_16 (by assumption) (by assumption) rfl (by decide) hinX2 (by decide +kernel) rfl ?_
      refine j_if_ne (tgt := 26) E dX2_watches_19 (by decide) (fun h19 => ?_) (fun h19 => ?_)
      · refine j_iconst (v := 0) E dX2_watches_26 (by decide) ?_
        exact j_zret E dX2_watches_27 rfl (by first | rfl | (simp [xWat, h4, h12, h19]; done)) rfl (by first | rfl | (simp [xWat, h4, h12, h19]; done))
      · refine j_iconst (v := 1) E dX2_watches_22 (by decide) ?_
        refine j_goto (tgt := 27) E dX2_watches_23 (by decide) ?_
        exact j_zret E dX2_watches_27 rfl (by first | rfl | (simp [xWat, h4, h12, h19]; done)) rfl (by first | rfl | (simp [xWat, h4, h12, h19]; done))

set_option maxHeartbeats 4000000 in
set_option maxRecDepth 100000 in
theorem k_X2_warns {l : Launch} {D : va_G} {cy : Nat → ClassId} {X : va_W} {G : pG} {M : pM} {p : Nat} (hL : p ∈ G.1) (hK : G.2.1 p = 2) (hf : vf_n32 (FP.fmul (M.2 p 2) 1061158912)) : jK l yX2_warns wsX2_warns ({ frames := 0, cells := 0, slots := 0, locals := 0 } : Room) D cy X G M [.ref p] (some (.int (xWarn M p))) X M := by
  refine jK_of (own := RX2) (by decide) rfl rfl (Nat.le_of_ble_eq_true rfl) (fun C E hl hD hcy hG => ?_)
  subst hl; subst hD; subst hcy; subst hG
  have hinX2 : ∀ w ∈ u_ws RX2 TX2 11, w ∈ wsX2_warns := by decide +kernel
  refine j_aload_n E dX2_warns_0 rfl rfl ?_
  refine j_getI (ci := 2) (k := 7) (Cn := RX2) (T := TX2) (N := 11) E dX2_warns_1 (by assumption) (by assumption) rfl (by decide) hinX2 (by decide +kernel) rfl ?_
  refine j_if_ne (tgt := 30) E dX2_warns_4 (by decide) (fun h4 => ?_) (fun h4 => ?_)
  · refine j_iconst (v := 1) E dX2_warns_30 (by decide) ?_
    refine j_goto (tgt := 35) E dX2_warns_31 (by decide) ?_
    exact j_zret E dX2_warns_35 rfl (by first | rfl | (simp [xWarn, h4]; done)) rfl (by first | rfl | (simp [xWarn, h4]; done))
  · refine j_aload_n E dX2_warns_7 rfl rfl ?_
    refine j_getI (ci := 2) (k := 0) (Cn := RX2) (T := TX2) (N := 11) E dX2_warns_8 (by assumption) (by assumption) rfl (by decide) hinX2 (by decide +kernel) rfl ?_
    refine j_iconst (v := 1) E dX2_warns_11 (by decide) ?_
    refine j_icmp_ne (tgt := 34) E dX2_warns_12 (by decide) (fun h12 => ?_) (fun h12 => ?_)
    · refine j_iconst (v := 0) E dX2_warns_34 (by decide) ?_
      exact j_zret E dX2_warns_35 rfl (by first | rfl | (simp [xWarn, h4, h12]; done)) rfl (by first | rfl | (simp [xWarn, h4, h12]; done))
    · refine j_aload_n E dX2_warns_15 rfl rfl ?_
      refine j_getF (ci := 2) (k := 5) (Cn := RX2) (T := TX2) (N := 11) E dX2_warns_16 (by assumption) (by assumption) rfl (by decide) hinX2 (by decide +kernel) rfl ?_
      refine j_aload_n E dX2_warns_19 rfl rfl ?_
      refine j_getF (ci := 2) (k := 2) (Cn := RX2) (T := TX2) (N := 11) E dX2_warns_20 (by assumption) (by assumption) rfl (by decide) hinX2 (by decide +kernel) rfl ?_
      refine j_ldcf (v := 1061158912) E (by decide +kernel) dX2_warns_23 ?_
      refine j_fmul E dX2_warns_25 (by assumption) ?_
      refine j_fcmp E dX2_warns_26 ?_
      refine j_if_lt (tgt := 34) E dX2_warns_27 (by decide) (fun h27 => ?_) (fun h27 => ?_)
      · refine j_iconst (v := 0) E dX2_warns_34 (by decide) ?_
        exact j_zret E dX2_warns_35 rfl (by first | rfl | (simp [xWarn, h4, h12, h27]; done)) rfl (by first | rfl | (simp [xWarn, h4, h12, h27]; done))
      · refine j_iconst (v := 1) E dX2_warns_30 (by decide) ?_
        refine j_goto (tgt := 35) E dX2_warns_31 (by decide) ?_
        exact j_zret E dX2_warns_35 rfl (by first | rfl | (simp [xWarn, h4, h12, h27]; done)) rfl (by first | rfl | (simp [xWarn, h4, h12, h27]; done))

set_option maxHeartbeats 4000000 in
set_option maxRecDepth 100000 in
theorem k_X2_calmDown {l : Launch} {D : va_G} {cy : Nat → ClassId} {X : va_W} {G : pG} {M : pM} {p : Nat} (hL : p ∈ G.1) (hK : G.2.1 p = 2) : jK l yX2_calmDown wsX2_calmDown ({ frames := 0, cells := 0, slots := 0, locals := 0 } : Room) D cy X G M [.ref p] none X (xCalm M p) := by
  refine jK_of (own := RX2) (by decide) rfl rfl (Nat.le_of_ble_eq_true rfl) (fun C E hl hD hcy hG => ?_)
  subst hl; subst hD; subst hcy; subst hG
  have hinX2 : ∀ w ∈ u_ws RX2 TX2 11, w ∈ wsX2_calmDown := by decide +kernel
  refine j_aload_n E dX2_calmDown_0 rfl rfl ?_
  refine j_iconst (v := 0) E dX2_calmDown_1 (by decide) ?_
  refine j_putI (ci := 2) (k := 7) (Cn := RX2) (T := TX2) (N := 11) E dX2_calmDown_2 (by assumption) (by assumption) rfl (by decide) hinX2 (by decide +kernel) rfl tyX2 tyX2_ok nmX2 rfl rfl rfl rfl ?_
  refine j_aload_n E dX2_calmDown_5 rfl rfl ?_
  refine j_iconst (v := 0) E dX2_calmDown_6 (by decide) ?_
  refine j_putI (ci := 2) (k := 6) (Cn := RX2) (T := TX2) (N := 11) E dX2_calmDown_7 (by assumption) (by assumption) rfl (by decide) hinX2 (by decide +kernel) rfl tyX2 tyX2_ok nmX2 rfl rfl rfl rfl ?_
  exact j_vret E dX2_calmDown_10 rfl (by rfl)

set_option maxHeartbeats 4000000 in
set_option maxRecDepth 100000 in
theorem k_X2_countOver {l : Launch} {D : va_G} {cy : Nat → ClassId} {X : va_W} {G : pG} {M : pM} {p : Nat} (hL : p ∈ G.1) (hK : G.2.1 p = 2) : jK l yX2_countOver wsX2_countOver ({ frames := 0, cells := 0, slots := 0, locals := 0 } : Room) D cy X G M [.ref p] none X (xCount M p) := by
  refine jK_of (own := RX2) (by decide) rfl rfl (Nat.le_of_ble_eq_true rfl) (fun C E hl hD hcy hG => ?_)
  subst hl; subst hD; subst hcy; subst hG
  have hinX2 : ∀ w ∈ u_ws RX2 TX2 11, w ∈ wsX2_countOver := by decide +kernel
  refine j_aload_n E dX2_countOver_0 rfl rfl ?_
  refine j_aload_n E dX2_countOver_1 rfl rfl ?_
  refine j_getF (ci := 2) (k := 5) (Cn := RX2) (T := TX2) (N := 11) E dX2_countOver_2 (by assumption) (by assumption) rfl (by decide) hinX2 (by decide +kernel) rfl ?_
  refine j_aload_n E dX2_countOver_5 rfl rfl ?_
  refine j_getF (ci := 2) (k := 2) (Cn := RX2) (T := TX2) (N := 11) E dX2_countOver_6 (by assumption) (by assumption) rfl (by decide) hinX2 (by decide +kernel) rfl ?_
  refine j_fcmp E dX2_countOver_9 ?_
  refine j_if_lt (tgt := 22) E dX2_countOver_10 (by decide) (fun h10 => ?_) (fun h10 => ?_)
  · refine j_iconst (v := 0) E dX2_countOver_22 (by decide) ?_
    refine j_putI (ci := 2) (k := 6) (Cn := RX2) (T := TX2) (N := 11) E dX2_countOver_23 (by assumption) (by assumption) rfl (by decide) hinX2 (by decide +kernel) rfl tyX2 tyX2_ok nmX2 rfl rfl rfl rfl ?_
    exact j_vret E dX2_countOver_26 rfl (by first | rfl | (simp [xCount, h10]; done))
  · refine j_aload_n E dX2_countOver_13 rfl rfl ?_
    refine j_getI (ci := 2) (k := 6) (Cn := RX2) (T := TX2) (N := 11) E dX2_countOver_14 (by assumption) (by assumption) rfl (by decide) hinX2 (by decide +kernel) rfl ?_
    refine j_iconst (v := 1) E dX2_countOver_17 (by decide) ?_
    refine j_iadd E dX2_countOver_18 ?_
    refine j_goto (tgt := 23) E dX2_countOver_19 (by decide) ?_
    refine j_putI (ci := 2) (k := 6) (Cn := RX2) (T := TX2) (N := 11) E dX2_countOver_23 (by assumption) (by assumption) rfl (by decide) hinX2 (by decide +kernel) rfl tyX2 tyX2_ok nmX2 rfl rfl rfl rfl ?_
    exact j_vret E dX2_countOver_26 rfl (by first | rfl | (simp [xCount, h10]; done))

set_option maxHeartbeats 4000000 in
set_option maxRecDepth 100000 in
theorem k_X2_senseSmoke {l : Launch} {D : va_G} {cy : Nat → ClassId} {X : va_W} {G : pG} {M : pM} {p : Nat} (hL : p ∈ G.1) (hK : G.2.1 p = 2) (hok : okSmoke M p) : jK l yX2_senseSmoke wsX2_senseSmoke ({ frames := 1, cells := 0, slots := 0, locals := 20 } : Room) D cy X G M [.ref p] none X (xSmoke M p) := by
  refine jK_of (own := RX2) (by decide) rfl rfl (Nat.le_of_ble_eq_true rfl) (fun C E hl hD hcy hG => ?_)
  subst hl; subst hD; subst hcy; subst hG
  have hinX2 : ∀ w ∈ u_ws RX2 TX2 11, w ∈ wsX2_senseSmoke := by decide +kernel
  obtain ⟨f1, f2, f3, f4, f5, f6⟩ := hok
  refine j_aload_n E dX2_senseSmoke_0 rfl rfl ?_
  refine j_getF (ci := 2) (k := 3) (Cn := RX2) (T := TX2) (N := 11) E dX2_senseSmoke_1 (by assumption) (by assumption) rfl (by decide) hinX2 (by decide +kernel) rfl ?_
  refine j_aload_n E dX2_senseSmoke_4 rfl rfl ?_
  refine j_getF (ci := 2) (k := 4) (Cn := RX2) (T := TX2) (N := 11) E dX2_senseSmoke_5 (by assumption) (by assumption) rfl (by decide) hinX2 (by decide +kernel) rfl ?_
  refine j_fsub E dX2_senseSmoke_8 (by assumption) ?_
  refine j_fstore_n E dX2_senseSmoke_9 rfl (by decide) ?_
  refine j_aload_n E dX2_senseSmoke_10 rfl rfl ?_
  refine j_aload_n E dX2_senseSmoke_11 rfl rfl ?_
  refine j_getF (ci := 2) (k := 5) (Cn := RX2) (T := TX2) (N := 11) E dX2_senseSmoke_12 (by assumption) (by assumption) rfl (by decide) hinX2 (by decide +kernel) rfl ?_
  refine j_fload_n E dX2_senseSmoke_15 rfl rfl ?_
  refine j_aload_n E dX2_senseSmoke_16 rfl rfl ?_
  refine j_getF (ci := 2) (k := 5) (Cn := RX2) (T := TX2) (N := 11) E dX2_senseSmoke_17 (by assumption) (by assumption) rfl (by decide) hinX2 (by decide +kernel) rfl ?_
  refine j_fsub E dX2_senseSmoke_20 (by assumption) ?_
  refine j_ldcf (v := 1056964608) E (by decide +kernel) dX2_senseSmoke_21 ?_
  refine j_fmul E dX2_senseSmoke_23 (by assumption) ?_
  refine j_fadd E dX2_senseSmoke_24 (by assumption) ?_
  refine j_putF (ci := 2) (k := 5) (Cn := RX2) (T := TX2) (N := 11) E dX2_senseSmoke_25 (by assumption) (by assumption) rfl (by decide) hinX2 (by decide +kernel) rfl tyX2 tyX2_ok nmX2 rfl rfl rfl rfl ?_
  refine j_aload_n E dX2_senseSmoke_28 rfl rfl ?_
  refine j_callV0 (ci := 2) (n := 0) E (k_X2_countOver (by assumption) (by assumption)) dX2_senseSmoke_29 gX2_senseSmoke_X2_countOver rfl (by decide +kernel) ⟨rfl, rfl, by decide, by decide⟩ ⟨Nat.zero_le _, Nat.zero_le _⟩ (by assumption) (by assumption) rfl rfl rfl (Nat.le_of_ble_eq_true rfl) rfl ?_
  refine j_aload_n E dX2_senseSmoke_32 rfl rfl ?_
  refine j_getI (ci := 2) (k := 6) (Cn := RX2) (T := TX2) (N := 11) E dX2_senseSmoke_33 (by assumption) (by assumption) rfl (by decide) hinX2 (by decide +kernel) rfl ?_
  try simp only [pI_rd, pF_rd, pR_rd, pI_2, pF_1, pR_2, Nat.reduceEqDiff, ↓reduceIte, xCount_2]
  refine j_if_ne (tgt := 52) E dX2_senseSmoke_36 (by decide) (fun h36 => ?_) (fun h36 => ?_)
  · exact j_vret E dX2_senseSmoke_52 rfl (by first | rfl | (simp [xSmoke, h36]; done))
  · refine j_aload_n E dX2_senseSmoke_39 rfl rfl ?_
    refine j_aload_n E dX2_senseSmoke_40 rfl rfl ?_
    refine j_getF (ci := 2) (k := 4) (Cn := RX2) (T := TX2) (N := 11) E dX2_senseSmoke_41 (by assumption) (by assumption) rfl (by decide) hinX2 (by decide +kernel) rfl ?_
    try simp only [pI_rd, pF_rd, pR_rd, pI_2, pF_1, pR_2, Nat.reduceEqDiff, ↓reduceIte, xCount_2]
    refine j_fload_n E dX2_senseSmoke_44 rfl rfl ?_
    refine j_ldcf (v := 1031798784) E (by decide +kernel) dX2_senseSmoke_45 ?_
    refine j_fmul E dX2_senseSmoke_47 (by assumption) ?_
    refine j_fadd E dX2_senseSmoke_48 (by assumption) ?_
    refine j_putF (ci := 2) (k := 4) (Cn := RX2) (T := TX2) (N := 11) E dX2_senseSmoke_49 (by assumption) (by assumption) rfl (by decide) hinX2 (by decide +kernel) rfl tyX2 tyX2_ok nmX2 rfl rfl rfl rfl ?_
    exact j_vret E dX2_senseSmoke_52 rfl (by first | rfl | (simp [xSmoke, h36]; done))

set_option maxHeartbeats 4000000 in
set_option maxRecDepth 100000 in
theorem k_X2_senseHeat {l : Launch} {D : va_G} {cy : Nat → ClassId} {X : va_W} {G : pG} {M : pM} {p : Nat} (hL : p ∈ G.1) (hK : G.2.1 p = 2) (hok : okHeat M p) : jK l yX2_senseHeat wsX2_senseHeat ({ frames := 1, cells := 0, slots := 0, locals := 20 } : Room) D cy X G M [.ref p] none X (xHeat M p) := by
  refine jK_of (own := RX2) (by decide) rfl rfl (Nat.le_of_ble_eq_true rfl) (fun C E hl hD hcy hG => ?_)
  subst hl; subst hD; subst hcy; subst hG
  have hinX2 : ∀ w ∈ u_ws RX2 TX2 11, w ∈ wsX2_senseHeat := by decide +kernel
  obtain ⟨f1, f2, f3, f4⟩ := hok
  refine j_aload_n E dX2_senseHeat_0 rfl rfl ?_
  refine j_aload_n E dX2_senseHeat_1 rfl rfl ?_
  refine j_getF (ci := 2) (k := 3) (Cn := RX2) (T := TX2) (N := 11) E dX2_senseHeat_2 (by assumption) (by assumption) rfl (by decide) hinX2 (by decide +kernel) rfl ?_
  refine j_aload_n E dX2_senseHeat_5 rfl rfl ?_
  refine j_getF (ci := 2) (k := 4) (Cn := RX2) (T := TX2) (N := 11) E dX2_senseHeat_6 (by assumption) (by assumption) rfl (by decide) hinX2 (by decide +kernel) rfl ?_
  refine j_fsub E dX2_senseHeat_9 (by assumption) ?_
  refine j_ldcf (v := 1082130432) E (by decide +kernel) dX2_senseHeat_10 ?_
  refine j_fmul E dX2_senseHeat_12 (by assumption) ?_
  refine j_aload_n E dX2_senseHeat_13 rfl rfl ?_
  refine j_getF (ci := 2) (k := 3) (Cn := RX2) (T := TX2) (N := 11) E dX2_senseHeat_14 (by assumption) (by assumption) rfl (by decide) hinX2 (by decide +kernel) rfl ?_
  refine j_ldcf (v := 1048576000) E (by decide +kernel) dX2_senseHeat_17 ?_
  refine j_fmul E dX2_senseHeat_19 (by assumption) ?_
  refine j_fadd E dX2_senseHeat_20 (by assumption) ?_
  refine j_putF (ci := 2) (k := 5) (Cn := RX2) (T := TX2) (N := 11) E dX2_senseHeat_21 (by assumption) (by assumption) rfl (by decide) hinX2 (by decide +kernel) rfl tyX2 tyX2_ok nmX2 rfl rfl rfl rfl ?_
  refine j_aload_n E dX2_senseHeat_24 rfl rfl ?_
  refine j_aload_n E dX2_senseHeat_25 rfl rfl ?_
  refine j_getF (ci := 2) (k := 3) (Cn := RX2) (T := TX2) (N := 11) E dX2_senseHeat_26 (by assumption) (by assumption) rfl (by decide) hinX2 (by decide +kernel) rfl ?_
  try simp only [pI_rd, pF_rd, pR_rd, pI_2, pF_1, pR_2, Nat.reduceEqDiff, ↓reduceIte]
  refine j_putF (ci := 2) (k := 4) (Cn := RX2) (T := TX2) (N := 11) E dX2_senseHeat_29 (by assumption) (by assumption) rfl (by decide) hinX2 (by decide +kernel) rfl tyX2 tyX2_ok nmX2 rfl rfl rfl rfl ?_
  refine j_aload_n E dX2_senseHeat_32 rfl rfl ?_
  refine j_callV0 (ci := 2) (n := 0) E (k_X2_countOver (by assumption) (by assumption)) dX2_senseHeat_33 gX2_senseHeat_X2_countOver rfl (by decide +kernel) ⟨rfl, rfl, by decide, by decide⟩ ⟨Nat.zero_le _, Nat.zero_le _⟩ (by assumption) (by assumption) rfl rfl rfl (Nat.le_of_ble_eq_true rfl) rfl ?_
  exact j_vret E dX2_senseHeat_36 rfl (by rfl)

set_option maxHeartbeats 4000000 in
set_option maxRecDepth 100000 in
theorem k_X2_senseButton {l : Launch} {D : va_G} {cy : Nat → ClassId} {X : va_W} {G : pG} {M : pM} {p : Nat} (hL : p ∈ G.1) (hK : G.2.1 p = 2) : jK l yX2_senseButton wsX2_senseButton ({ frames := 0, cells := 0, slots := 0, locals := 0 } : Room) D cy X G M [.ref p] none X (xBut M p) := by
  refine jK_of (own := RX2) (by decide) rfl rfl (Nat.le_of_ble_eq_true rfl) (fun C E hl hD hcy hG => ?_)
  subst hl; subst hD; subst hcy; subst hG
  have hinX2 : ∀ w ∈ u_ws RX2 TX2 11, w ∈ wsX2_senseButton := by decide +kernel
  refine j_aload_n E dX2_senseButton_0 rfl rfl ?_
  refine j_getF (ci := 2) (k := 3) (Cn := RX2) (T := TX2) (N := 11) E dX2_senseButton_1 (by assumption) (by assumption) rfl (by decide) hinX2 (by decide +kernel) rfl ?_
  refine j_fconst0 E dX2_senseButton_4 ?_
  refine j_fcmp E dX2_senseButton_5 ?_
  refine j_if_le (tgt := 14) E dX2_senseButton_6 (by decide) (fun h6 => ?_) (fun h6 => ?_)
  · refine j_aload_n E dX2_senseButton_14 rfl rfl ?_
    refine j_aload_n E dX2_senseButton_15 rfl rfl ?_
    refine j_getF (ci := 2) (k := 3) (Cn := RX2) (T := TX2) (N := 11) E dX2_senseButton_16 (by assumption) (by assumption) rfl (by decide) hinX2 (by decide +kernel) rfl ?_
    refine j_putF (ci := 2) (k := 5) (Cn := RX2) (T := TX2) (N := 11) E dX2_senseButton_19 (by assumption) (by assumption) rfl (by decide) hinX2 (by decide +kernel) rfl tyX2 tyX2_ok nmX2 rfl rfl rfl rfl ?_
    exact j_vret E dX2_senseButton_22 rfl (by first | rfl | (simp [xBut, h6]; done))
  · refine j_aload_n E dX2_senseButton_9 rfl rfl ?_
    refine j_iconst (v := 3) E dX2_senseButton_10 (by decide) ?_
    refine j_putI (ci := 2) (k := 6) (Cn := RX2) (T := TX2) (N := 11) E dX2_senseButton_11 (by assumption) (by assumption) rfl (by decide) hinX2 (by decide +kernel) rfl tyX2 tyX2_ok nmX2 rfl rfl rfl rfl ?_
    refine j_aload_n E dX2_senseButton_14 rfl rfl ?_
    refine j_aload_n E dX2_senseButton_15 rfl rfl ?_
    refine j_getF (ci := 2) (k := 3) (Cn := RX2) (T := TX2) (N := 11) E dX2_senseButton_16 (by assumption) (by assumption) rfl (by decide) hinX2 (by decide +kernel) rfl ?_
    try simp only [pI_rd, pF_rd, pR_rd, pI_2, pF_1, pR_2, Nat.reduceEqDiff, ↓reduceIte]
    refine j_putF (ci := 2) (k := 5) (Cn := RX2) (T := TX2) (N := 11) E dX2_senseButton_19 (by assumption) (by assumption) rfl (by decide) hinX2 (by decide +kernel) rfl tyX2 tyX2_ok nmX2 rfl rfl rfl rfl ?_
    exact j_vret E dX2_senseButton_22 rfl (by first | rfl | (simp [xBut, h6]; done))

set_option maxHeartbeats 4000000 in
set_option maxRecDepth 100000 in
theorem k_X2_sense {l : Launch} {D : va_G} {cy : Nat → ClassId} {X : va_W} {G : pG} {M : pM} {p : Nat} (hL : p ∈ G.1) (hK : G.2.1 p = 2) (hs : M.1 p 0 = 1 → okSmoke M p) (hh : M.1 p 0 = 2 → okHeat M p) : jK l yX2_sense wsX2_sense ({ frames := 2, cells := 0, slots := 0, locals := 41 } : Room) D cy X G M [.ref p] none X (xSense M p) := by
  refine jK_of (own := RX2) (by decide) rfl rfl (Nat.le_of_ble_eq_true rfl) (fun C E hl hD hcy hG => ?_)
  subst hl; subst hD; subst hcy; subst hG
  have hinX2 : ∀ w ∈ u_ws RX2 TX2 11, w ∈ wsX2_sense := by decide +kernel
  refine j_aload_n E dX2_sense_0 rfl rfl ?_
  refine j_getI (ci := 2) (k := 0) (Cn := RX2) (T := TX2) (N := 11) E dX2_sense_1 (by assumption) (by assumption) rfl (by decide) hinX2 (by decide +kernel) rfl ?_
  refine j_iconst (v := 1) E dX2_sense_4 (by decide) ?_
  refine j_icmp_ne (tgt := 15) E dX2_sense_5 (by decide) (fun h5 => ?_) (fun h5 => ?_)
  · refine j_aload_n E dX2_sense_15 rfl rfl ?_
    refine j_getI (ci := 2) (k := 0) (Cn := RX2) (T := TX2) (N := 11) E dX2_sense_16 (by assumption) (by assumption) rfl (by decide) hinX2 (by decide +kernel) rfl ?_
    refine j_iconst (v := 2) E dX2_sense_19 (by decide) ?_
    refine j_icmp_ne (tgt := 30) E dX2_sense_20 (by decide) (fun h20 => ?_) (fun h20 => ?_)
    · refine j_aload_n E dX2_sense_30 rfl rfl ?_
      refine j_callV0 (ci := 2) (n := 0) E (k_X2_senseButton (by assumption) (by assumption)) dX2_sense_31 gX2_sense_X2_senseButton rfl (by decide +kernel) ⟨rfl, rfl, by decide, by decide⟩ ⟨Nat.zero_le _, Nat.zero_le _⟩ (by assumption) (by assumption) rfl rfl rfl (Nat.le_of_ble_eq_true rfl) rfl ?_
      refine j_aload_n E dX2_sense_34 rfl rfl ?_
      refine j_getI (ci := 2) (k := 6) (Cn := RX2) (T := TX2) (N := 11) E dX2_sense_35 (by assumption) (by assumption) rfl (by decide) hinX2 (by decide +kernel) rfl ?_
      refine j_iconst (v := 3) E dX2_sense_38 (by decide) ?_
      refine j_icmp_lt (tgt := 47) E dX2_sense_39 (by decide) (fun h39 => ?_) (fun h39 => ?_)
      · exact j_vret E dX2_sense_47 rfl (by simp [xSense, xSn1, *])
      · refine j_aload_n E dX2_sense_42 rfl rfl ?_
        refine j_iconst (v := 1) E dX2_sense_43 (by decide) ?_
        refine j_putI (ci := 2) (k := 7) (Cn := RX2) (T := TX2) (N := 11) E dX2_sense_44 (by assumption) (by assumption) rfl (by decide) hinX2 (by decide +kernel) rfl tyX2 tyX2_ok nmX2 rfl rfl rfl rfl ?_
        exact j_vret E dX2_sense_47 rfl (by simp [xSense, xSn1, *])
    · refine j_aload_n E dX2_sense_23 rfl rfl ?_
      refine j_callV0 (ci := 2) (n := 0) E (k_X2_senseHeat (by assumption) (by assumption) (hh h20)) dX2_sense_24 gX2_sense_X2_senseHeat rfl (by decide +kernel) ⟨rfl, rfl, by decide, by decide⟩ ⟨Nat.zero_le _, Nat.zero_le _⟩ (by assumption) (by assumption) rfl rfl rfl (Nat.le_of_ble_eq_true rfl) rfl ?_
      refine j_goto (tgt := 34) E dX2_sense_27 (by decide) ?_
      refine j_aload_n E dX2_sense_34 rfl rfl ?_
      refine j_getI (ci := 2) (k := 6) (Cn := RX2) (T := TX2) (N := 11) E dX2_sense_35 (by assumption) (by assumption) rfl (by decide) hinX2 (by decide +kernel) rfl ?_
      refine j_iconst (v := 3) E dX2_sense_38 (by decide) ?_
      refine j_icmp_lt (tgt := 47) E dX2_sense_39 (by decide) (fun h39 => ?_) (fun h39 => ?_)
      · exact j_vret E dX2_sense_47 rfl (by simp [xSense, xSn1, *])
      · refine j_aload_n E dX2_sense_42 rfl rfl ?_
        refine j_iconst (v := 1) E dX2_sense_43 (by decide) ?_
        refine j_putI (ci := 2) (k := 7) (Cn := RX2) (T := TX2) (N := 11) E dX2_sense_44 (by assumption) (by assumption) rfl (by decide) hinX2 (by decide +kernel) rfl tyX2 tyX2_ok nmX2 rfl rfl rfl rfl ?_
        exact j_vret E dX2_sense_47 rfl (by simp [xSense, xSn1, *])
  · refine j_aload_n E dX2_sense_8 rfl rfl ?_
    refine j_callV0 (ci := 2) (n := 0) E (k_X2_senseSmoke (by assumption) (by assumption) (hs h5)) dX2_sense_9 gX2_sense_X2_senseSmoke rfl (by decide +kernel) ⟨rfl, rfl, by decide, by decide⟩ ⟨Nat.zero_le _, Nat.zero_le _⟩ (by assumption) (by assumption) rfl rfl rfl (Nat.le_of_ble_eq_true rfl) rfl ?_
    refine j_goto (tgt := 34) E dX2_sense_12 (by decide) ?_
    refine j_aload_n E dX2_sense_34 rfl rfl ?_
    refine j_getI (ci := 2) (k := 6) (Cn := RX2) (T := TX2) (N := 11) E dX2_sense_35 (by assumption) (by assumption) rfl (by decide) hinX2 (by decide +kernel) rfl ?_
    refine j_iconst (v := 3) E dX2_sense_38 (by decide) ?_
    refine j_icmp_lt (tgt := 47) E dX2_sense_39 (by decide) (fun h39 => ?_) (fun h39 => ?_)
    · exact j_vret E dX2_sense_47 rfl (by simp [xSense, xSn1, *])
    · refine j_aload_n E dX2_sense_42 rfl rfl ?_
      refine j_iconst (v := 1) E dX2_sense_43 (by decide) ?_
      refine j_putI (ci := 2) (k := 7) (Cn := RX2) (T := TX2) (N := 11) E dX2_sense_44 (by assumption) (by assumption) rfl (by decide) hinX2 (by decide +kernel) rfl tyX2 tyX2_ok nmX2 rfl rfl rfl rfl ?_
      exact j_vret E dX2_sense_47 rfl (by simp [xSense, xSn1, *])
end
section
/-! FirePanel$Log (0 words, 1 size) and FirePanel$Rule (0 steps, 1 stepCount, 2 output, 3 delay, 4 held). -/
theorem ne_kind {G : pG} {a b i j : Nat} (h1 : G.2.1 a = i) (h2 : G.2.1 b = j) (h : i ≠ j) : a ≠ b := fun e => h (by rw [← h1, ← h2, e])
def xAdd (M : pM) (g w : Nat) (a b c : Int32) : pM := pI (pI (pI (pI (pR M w (va_cpy (M.1 w) (M.1 w) 0 3 45)) w 0 a) w 1 b) w 2 c) g 1 (if 16 < M.1 g 1 + 1 then 16 else M.1 g 1 + 1)
def wLog (G : pG) (g w : Nat) : Prop := g ∈ G.1 ∧ G.2.1 g = 0 ∧ G.2.2.2 g 0 = some w ∧ w ∈ G.1 ∧ G.2.1 w = 10 ∧ G.2.2.1 w = 48
def xClear (M : pM) (r : Nat) : pM := pI (pI (pI (pI M r 1 0) r 2 0) r 3 0) r 4 0
def wRule (G : pG) (r s : Nat) : Prop := r ∈ G.1 ∧ G.2.1 r = 4 ∧ G.2.2.2 r 0 = some s ∧ s ∈ G.1 ∧ G.2.1 s = 10 ∧ G.2.2.1 s = 20
def xStep (M : pM) (r s : Nat) (v : Int32) : pM := if M.1 r 1 < 0 then M else if 20 ≤ M.1 r 1 then M else pI (pI M s (M.1 r 1).toNatClampNeg v) r 1 (M.1 r 1 + 1)
def xWork (s t f : Int32) : Int32 := if s = 9 then t ^^^ 1 else if s = 10 then (t >>> ((1 : Int32) &&& 31)) &&& (-2 ||| (t &&& 1)) else if s = 11 then (t >>> ((1 : Int32) &&& 31)) ||| (t &&& 1) else (t <<< ((1 : Int32) &&& 31)) ||| ((f >>> (s &&& 31)) &&& 1)
def xTr (st : Nat → Int32) (cnt f : Int32) : Nat → Nat → Int32 → Int32
  | 0, _, t => t
  | n + 1, j, t => if cnt ≤ nI j then t else if 20 ≤ nI j then t else xTr st cnt f n (j + 1) (xWork (st j) t f)
def xTrue (M : pM) (r s : Nat) (f : Int32) : Int32 := if xTr (M.1 s) (M.1 r 1) f 21 0 0 &&& 1 = 0 then 0 else 1
theorem nI_inc (j : Nat) : nI j + Int32.ofInt 1 = nI (j + 1) := nI_1 j

set_option maxHeartbeats 4000000 in
set_option maxRecDepth 100000 in
theorem k_X0_add {l : Launch} {D : va_G} {cy : Nat → ClassId} {X : va_W} {G : pG} {M : pM} {g w : Nat} {a b c : Int32} (hW : wLog G g w) : jK l yX0_add wsX0_add ({ frames := 1, cells := 0, slots := 0, locals := 60 } : Room) D cy X G M [.ref g, .int a, .int b, .int c] none X (xAdd M g w a b c) := by
  refine jK_of (own := RX0) (by decide) rfl rfl (Nat.le_of_ble_eq_true rfl) (fun C E hl hD hcy hG => ?_)
  subst hl; subst hD; subst hcy; subst hG
  have hinX0 : ∀ w ∈ u_ws RX0 TX0 2, w ∈ wsX0_add := by decide +kernel
  obtain ⟨h1, h2, h3, h4, h5, h6⟩ := hW
  have hgw : g ≠ w := ne_kind h2 h5 (by decide)
  refine j_aload_n E dX0_add_0 rfl rfl ?_
  refine j_getP (ci := 0) (k := 0) (Cn := RX0) (T := TX0) (N := 2) E dX0_add_1 (by assumption) (by assumption) rfl (by decide) hinX0 (by decide +kernel) rfl (by assumption) ?_
  refine j_iconst (v := 0) E dX0_add_4 (by decide) ?_
  refine j_aload_n E dX0_add_5 rfl rfl ?_
  refine j_getP (ci := 0) (k := 0) (Cn := RX0) (T := TX0) (N := 2) E dX0_add_6 (by assumption) (by assumption) rfl (by decide) hinX0 (by decide +kernel) rfl (by assumption) ?_
  refine j_iconst (v := 3) E dX0_add_9 (by decide) ?_
  refine j_bipush (v := 45) E dX0_add_10 (by decide) ?_
  refine j_copyI (N := 48) (spN := 0) (dpN := 3) (nN := 45) E dX0_add_12 (by decide +kernel) (by decide +kernel) (by decide +kernel) (by decide +kernel) (by decide) (Nat.le_of_ble_eq_true rfl) (by assumption) (by assumption) (by assumption) rfl rfl rfl (by decide) ?_
  refine j_aload_n E dX0_add_15 rfl rfl ?_
  refine j_getP (ci := 0) (k := 0) (Cn := RX0) (T := TX0) (N := 2) E dX0_add_16 (by assumption) (by assumption) rfl (by decide) hinX0 (by decide +kernel) rfl (by assumption) ?_
  refine j_iconst (v := 0) E dX0_add_19 (by decide) ?_
  refine j_iload_n E dX0_add_20 rfl rfl ?_
  refine j_iast E dX0_add_21 (by assumption) (by assumption) (j := 0) rfl (by decide) (by decide) (by assumption) ?_
  refine j_aload_n E dX0_add_22 rfl rfl ?_
  refine j_getP (ci := 0) (k := 0) (Cn := RX0) (T := TX0) (N := 2) E dX0_add_23 (by assumption) (by assumption) rfl (by decide) hinX0 (by decide +kernel) rfl (by assumption) ?_
  refine j_iconst (v := 1) E dX0_add_26 (by decide) ?_
  refine j_iload_n E dX0_add_27 rfl rfl ?_
  refine j_iast E dX0_add_28 (by assumption) (by assumption) (j := 1) rfl (by decide) (by decide) (by assumption) ?_
  refine j_aload_n E dX0_add_29 rfl rfl ?_
  refine j_getP (ci := 0) (k := 0) (Cn := RX0) (T := TX0) (N := 2) E dX0_add_30 (by assumption) (by assumption) rfl (by decide) hinX0 (by decide +kernel) rfl (by assumption) ?_
  refine j_iconst (v := 2) E dX0_add_33 (by decide) ?_
  refine j_iload_n E dX0_add_34 rfl rfl ?_
  refine j_iast E dX0_add_35 (by assumption) (by assumption) (j := 2) rfl (by decide) (by decide) (by assumption) ?_
  refine j_aload_n E dX0_add_36 rfl rfl ?_
  refine j_aload_n E dX0_add_37 rfl rfl ?_
  refine j_getI (ci := 0) (k := 1) (Cn := RX0) (T := TX0) (N := 2) E dX0_add_38 (by assumption) (by assumption) rfl (by decide) hinX0 (by decide +kernel) rfl ?_
  try simp only [pI_rd, pF_rd, pR_rd, pI_2, pF_1, pR_2, Nat.reduceEqDiff, ↓reduceIte, (fun M k v => pI_1n M k v hgw), (fun M f => pR_1n M f hgw)]
  refine j_iconst (v := 1) E dX0_add_41 (by decide) ?_
  refine j_iadd E dX0_add_42 ?_
  refine j_bipush (v := 16) E dX0_add_43 (by decide) ?_
  refine j_min E dX0_add_45 (by decide +kernel) (by decide +kernel) (by decide +kernel) (by decide +kernel) (by decide) (Nat.le_of_ble_eq_true rfl) (Nat.zero_le _) (Nat.zero_le _) ?_
  refine j_putI (ci := 0) (k := 1) (Cn := RX0) (T := TX0) (N := 2) E dX0_add_48 (by assumption) (by assumption) rfl (by decide) hinX0 (by decide +kernel) rfl tyX0 tyX0_ok nmX0 rfl rfl rfl rfl ?_
  exact j_vret E dX0_add_51 rfl (by rfl)

set_option maxHeartbeats 4000000 in
set_option maxRecDepth 100000 in
theorem k_X4_clear {l : Launch} {D : va_G} {cy : Nat → ClassId} {X : va_W} {G : pG} {M : pM} {r : Nat} (hL : r ∈ G.1) (hK : G.2.1 r = 4) : jK l yX4_clear wsX4_clear ({ frames := 0, cells := 0, slots := 0, locals := 0 } : Room) D cy X G M [.ref r] none X (xClear M r) := by
  refine jK_of (own := RX4) (by decide) rfl rfl (Nat.le_of_ble_eq_true rfl) (fun C E hl hD hcy hG => ?_)
  subst hl; subst hD; subst hcy; subst hG
  have hinX4 : ∀ w ∈ u_ws RX4 TX4 5, w ∈ wsX4_clear := by decide +kernel
  refine j_aload_n E dX4_clear_0 rfl rfl ?_
  refine j_iconst (v := 0) E dX4_clear_1 (by decide) ?_
  refine j_putI (ci := 4) (k := 1) (Cn := RX4) (T := TX4) (N := 5) E dX4_clear_2 (by assumption) (by assumption) rfl (by decide) hinX4 (by decide +kernel) rfl tyX4 tyX4_ok nmX4 rfl rfl rfl rfl ?_
  refine j_aload_n E dX4_clear_5 rfl rfl ?_
  refine j_iconst (v := 0) E dX4_clear_6 (by decide) ?_
  refine j_putI (ci := 4) (k := 2) (Cn := RX4) (T := TX4) (N := 5) E dX4_clear_7 (by assumption) (by assumption) rfl (by decide) hinX4 (by decide +kernel) rfl tyX4 tyX4_ok nmX4 rfl rfl rfl rfl ?_
  refine j_aload_n E dX4_clear_10 rfl rfl ?_
  refine j_iconst (v := 0) E dX4_clear_11 (by decide) ?_
  refine j_putI (ci := 4) (k := 3) (Cn := RX4) (T := TX4) (N := 5) E dX4_clear_12 (by assumption) (by assumption) rfl (by decide) hinX4 (by decide +kernel) rfl tyX4 tyX4_ok nmX4 rfl rfl rfl rfl ?_
  refine j_aload_n E dX4_clear_15 rfl rfl ?_
  refine j_iconst (v := 0) E dX4_clear_16 (by decide) ?_
  refine j_putI (ci := 4) (k := 4) (Cn := RX4) (T := TX4) (N := 5) E dX4_clear_17 (by assumption) (by assumption) rfl (by decide) hinX4 (by decide +kernel) rfl tyX4 tyX4_ok nmX4 rfl rfl rfl rfl ?_
  exact j_vret E dX4_clear_20 rfl (by rfl)

set_option maxHeartbeats 4000000 in
set_option maxRecDepth 100000 in
theorem k_X4_addStep {l : Launch} {D : va_G} {cy : Nat → ClassId} {X : va_W} {G : pG} {M : pM} {r s : Nat} {v : Int32} (hW : wRule G r s) : jK l yX4_addStep wsX4_addStep ({ frames := 0, cells := 0, slots := 0, locals := 0 } : Room) D cy X G M [.ref r, .int v] none X (xStep M r s v) := by
  refine jK_of (own := RX4) (by decide) rfl rfl (Nat.le_of_ble_eq_true rfl) (fun C E hl hD hcy hG => ?_)
  subst hl; subst hD; subst hcy; subst hG
  have hinX4 : ∀ w ∈ u_ws RX4 TX4 5, w ∈ wsX4_addStep := by decide +kernel
  obtain ⟨h1, h2, h3, h4, h5, h6⟩ := hW
  have hrs : r ≠ s := ne_kind h2 h5 (by decide)
  refine j_aload_n E dX4_addStep_0 rfl rfl ?_
  refine j_getI (ci := 4) (k := 1) (Cn := RX4) (T := TX4) (N := 5) E dX4_addStep_1 (by assumption) (by assumption) rfl (by decide) hinX4 (by decide +kernel) rfl ?_
  refine j_if_lt (tgt := 36) E dX4_addStep_4 (by decide) (fun h4 => ?_) (fun h4 => ?_)
  · exact j_vret E dX4_addStep_36 rfl (by first | (simp only [xStep, if_pos h4]; done) | (simp only [xStep, if_neg h4, if_pos h13]; done) | (simp only [xStep, if_neg h4, if_neg h13]; rw [ej, nI_clamp (by omega)]))
  · refine j_aload_n E dX4_addStep_7 rfl rfl ?_
    refine j_getI (ci := 4) (k := 1) (Cn := RX4) (T := TX4) (N := 5) E dX4_addStep_8 (by assumption) (by assumption) rfl (by decide) hinX4 (by decide +kernel) rfl ?_
    refine j_bipush (v := 20) E dX4_addStep_11 (by decide) ?_
    refine j_icmp_ge (tgt := 36) E dX4_addStep_13 (by decide) (fun h13 => ?_) (fun h13 => ?_)
    · exact j_vret E dX4_addStep_36 rfl (by first | (simp only [xStep, if_pos h4, h13]; done) | (simp only [xStep, if_neg h4, if_pos h13]; done) | (simp only [xStep, if_neg h4, if_neg h13]; rw [ej, nI_clamp (by omega)]))
    · obtain ⟨j, hj, ej⟩ : ∃ j : Nat, j < 20 ∧ M.1 r 1 = nI j := by
        rcases pk_ix (M.1 r 1) (n := 20) (by decide) with h | h | h
        · exact absurd h h4
        · exact absurd h h13
        · exact h
      refine j_aload_n E dX4_addStep_16 rfl rfl ?_
      refine j_getP (ci := 4) (k := 0) (Cn := RX4) (T := TX4) (N := 5) E dX4_addStep_17 (by assumption) (by assumption) rfl (by decide) hinX4 (by decide +kernel) rfl (by assumption) ?_
      refine j_aload_n E dX4_addStep_20 rfl rfl ?_
      refine j_getI (ci := 4) (k := 1) (Cn := RX4) (T := TX4) (N := 5) E dX4_addStep_21 (by assumption) (by assumption) rfl (by decide) hinX4 (by decide +kernel) rfl ?_
      refine j_iload_n E dX4_addStep_24 rfl rfl ?_
      refine j_iast E dX4_addStep_25 (by assumption) (by assumption) ej hj (by decide) (by assumption) ?_
      refine j_aload_n E dX4_addStep_26 rfl rfl ?_
      refine j_dup E dX4_addStep_27 rfl ?_
      refine j_getI (ci := 4) (k := 1) (Cn := RX4) (T := TX4) (N := 5) E dX4_addStep_28 (by assumption) (by assumption) rfl (by decide) hinX4 (by decide +kernel) rfl ?_
      try simp only [pI_rd, pF_rd, pR_rd, pI_2, pF_1, pR_2, Nat.reduceEqDiff, ↓reduceIte, (fun M k v => pI_1n M k v hrs)]
      refine j_iconst (v := 1) E dX4_addStep_31 (by decide) ?_
      refine j_iadd E dX4_addStep_32 ?_
      refine j_putI (ci := 4) (k := 1) (Cn := RX4) (T := TX4) (N := 5) E dX4_addStep_33 (by assumption) (by assumption) rfl (by decide) hinX4 (by decide +kernel) rfl tyX4 tyX4_ok nmX4 rfl rfl rfl rfl ?_
      exact j_vret E dX4_addStep_36 rfl (by first | (simp only [xStep, if_pos h4, h13]; done) | (simp only [xStep, if_neg h4, if_pos h13]; done) | (simp only [xStep, if_neg h4, if_neg h13]; rw [ej, nI_clamp (by omega)]))

set_option maxHeartbeats 4000000 in
set_option maxRecDepth 100000 in
theorem k_X4_workOff {l : Launch} {D : va_G} {cy : Nat → ClassId} {X : va_W} {G : pG} {M : pM} {s t f : Int32}  : jK l yX4_workOff wsX4_workOff ({ frames := 0, cells := 0, slots := 0, locals := 0 } : Room) D cy X G M [.int s, .int t, .int f] (some (.int (xWork s t f))) X M := by
  refine jK_of (own := RX4) (by decide) rfl rfl (Nat.le_of_ble_eq_true rfl) (fun C E hl hD hcy hG => ?_)
  subst hl; subst hD; subst hcy; subst hG

  refine j_iload_n E dX4_workOff_0 rfl rfl ?_
  refine j_iconst (v := 1) E dX4_workOff_1 (by decide) ?_
  refine j_iand E dX4_workOff_2 ?_
  refine j_istore_n E dX4_workOff_3 rfl (by decide) ?_
  refine j_iload_n E dX4_workOff_4 rfl rfl ?_
  refine j_iconst (v := 1) E dX4_workOff_5 (by decide) ?_
  refine j_ishr E dX4_workOff_6 ?_
  refine j_istore E dX4_workOff_7 (by decide) ?_
  refine j_iload_n E dX4_workOff_9 rfl rfl ?_
  refine j_table (lo := 9) (hi := 11) (tgt := 53) E dX4_workOff_10 (by decide) (by decide) (fun h => ?_) (fun k h1 h2 e => ?_)
  · have n9 : ¬ s = 9 := by rintro rfl; rcases h with h | h <;> exact absurd h (by decide)
    have n10 : ¬ s = 10 := by rintro rfl; rcases h with h | h <;> exact absurd h (by decide)
    have n11 : ¬ s = 11 := by rintro rfl; rcases h with h | h <;> exact absurd h (by decide)
    refine j_iload_n E dX4_workOff_53 rfl rfl ?_
    refine j_iconst (v := 1) E dX4_workOff_54 (by decide) ?_
    refine j_ishl E dX4_workOff_55 ?_
    refine j_iload_n E dX4_workOff_56 rfl rfl ?_
    refine j_iload_n E dX4_workOff_57 rfl rfl ?_
    refine j_ishr E dX4_workOff_58 ?_
    refine j_iconst (v := 1) E dX4_workOff_59 (by decide) ?_
    refine j_iand E dX4_workOff_60 ?_
    refine j_ior E dX4_workOff_61 ?_
    exact j_iret E dX4_workOff_62 (by first | rfl | (simp [xWork, n9, n10, n11]; done)) rfl (by first | rfl | (simp [xWork, n9, n10, n11]; done))
  · obtain rfl | rfl | rfl : k = 9 ∨ k = 10 ∨ k = 11 := by omega
    · refine j_tabIn (off := 26) (tgt := 36) E dX4_workOff_10 (by rw [e]; decide) (by rw [e]; decide) (by rw [e]; rfl) (by decide) ?_
      refine j_iload_n E dX4_workOff_36 rfl rfl ?_
      refine j_iconst (v := 1) E dX4_workOff_37 (by decide) ?_
      refine j_ixor E dX4_workOff_38 ?_
      exact j_iret E dX4_workOff_39 (by first | rfl | (subst e; rfl)) rfl (by first | rfl | (subst e; rfl))
    · refine j_tabIn (off := 30) (tgt := 40) E dX4_workOff_10 (by rw [e]; decide) (by rw [e]; decide) (by rw [e]; rfl) (by decide) ?_
      refine j_iload E dX4_workOff_40 rfl ?_
      refine j_bipush (v := -2) E dX4_workOff_42 (by decide) ?_
      refine j_iload_n E dX4_workOff_44 rfl rfl ?_
      refine j_ior E dX4_workOff_45 ?_
      refine j_iand E dX4_workOff_46 ?_
      exact j_iret E dX4_workOff_47 (by first | rfl | (subst e; rfl)) rfl (by first | rfl | (subst e; rfl))
    · refine j_tabIn (off := 38) (tgt := 48) E dX4_workOff_10 (by rw [e]; decide) (by rw [e]; decide) (by rw [e]; rfl) (by decide) ?_
      refine j_iload E dX4_workOff_48 rfl ?_
      refine j_iload_n E dX4_workOff_50 rfl rfl ?_
      refine j_ior E dX4_workOff_51 ?_
      exact j_iret E dX4_workOff_52 (by first | rfl | (subst e; rfl)) rfl (by first | rfl | (subst e; rfl))

set_option maxHeartbeats 4000000 in
set_option maxRecDepth 100000 in
theorem kl_X4_isTrue_4 {C : jC} (E : jE C cX4_isTrue 4 wsX4_isTrue RX4 (some .boolean) ({ frames := 1, cells := 0, slots := 0, locals := 24 } : Room)) {X : va_W} {M : pM} {r s : Nat} {f : Int32} (h1 : r ∈ (jG C).1) (h2 : (jG C).2.1 r = 4) (h3 : (jG C).2.2.2 r 0 = some s) (h4 : s ∈ (jG C).1) (h5 : (jG C).2.1 s = 10) (h6 : (jG C).2.2.1 s = 20) : ∀ (n j : Nat) (t : Int32), j ≤ 20 → j + n = 21 → jW C 4 4 [(0, .ref r), (1, .int f), (2, .int t), (3, .int (nI j))] [] X M 0 0 (jZ C X M (some (.int (if xTr (M.1 s) (M.1 r 1) f n j t &&& 1 = 0 then 0 else 1))) 0 0) := by
  have hinX4 : ∀ w ∈ u_ws RX4 TX4 5, w ∈ wsX4_isTrue := by decide +kernel
  intro n
  induction n with
  | zero => intro j t hj hn; omega
  | succ n ih =>
    intro j t hj hn
    refine j_iload_n E dX4_isTrue_4 rfl rfl ?_
    refine j_aload_n E dX4_isTrue_5 rfl rfl ?_
    refine j_getI (ci := 4) (k := 1) (Cn := RX4) (T := TX4) (N := 5) E dX4_isTrue_6 (by assumption) (by assumption) rfl (by decide) hinX4 (by decide +kernel) rfl ?_
    refine j_icmp_ge (tgt := 36) E dX4_isTrue_9 (by decide) (fun h9 => ?_) (fun h9 => ?_)
    · refine j_iload_n E dX4_isTrue_36 rfl rfl ?_
      refine j_iconst (v := 1) E dX4_isTrue_37 (by decide) ?_
      refine j_iand E dX4_isTrue_38 ?_
      refine j_if_eq (tgt := 46) E dX4_isTrue_39 (by decide) (fun h39 => ?_) (fun h39 => ?_)
      · refine j_iconst (v := 0) E dX4_isTrue_46 (by decide) ?_
        exact j_zret E dX4_isTrue_47 rfl (by first | rfl | (simp [xTr, h9, h39]; done)) rfl (by first | rfl | (simp [xTr, h9, h39]; done))
      · refine j_iconst (v := 1) E dX4_isTrue_42 (by decide) ?_
        refine j_goto (tgt := 47) E dX4_isTrue_43 (by decide) ?_
        exact j_zret E dX4_isTrue_47 rfl (by first | rfl | (simp [xTr, h9, h39]; done)) rfl (by first | rfl | (simp [xTr, h9, h39]; done))
    · refine j_iload_n E dX4_isTrue_12 rfl rfl ?_
      refine j_bipush (v := 20) E dX4_isTrue_13 (by decide) ?_
      refine j_icmp_ge (tgt := 36) E dX4_isTrue_15 (by decide) (fun h15 => ?_) (fun h15 => ?_)
      · refine j_iload_n E dX4_isTrue_36 rfl rfl ?_
        refine j_iconst (v := 1) E dX4_isTrue_37 (by decide) ?_
        refine j_iand E dX4_isTrue_38 ?_
        refine j_if_eq (tgt := 46) E dX4_isTrue_39 (by decide) (fun h39 => ?_) (fun h39 => ?_)
        · refine j_iconst (v := 0) E dX4_isTrue_46 (by decide) ?_
          exact j_zret E dX4_isTrue_47 rfl (by first | rfl | (simp [xTr, h9, h15, h39]; done)) rfl (by first | rfl | (simp [xTr, h9, h15, h39]; done))
        · refine j_iconst (v := 1) E dX4_isTrue_42 (by decide) ?_
          refine j_goto (tgt := 47) E dX4_isTrue_43 (by decide) ?_
          exact j_zret E dX4_isTrue_47 rfl (by first | rfl | (simp [xTr, h9, h15, h39]; done)) rfl (by first | rfl | (simp [xTr, h9, h15, h39]; done))
      · have hj20 : j < 20 := by
          rcases Nat.lt_or_ge j 20 with q | q
          · exact q
          · exact absurd (nI_le q (by omega)) h15
        refine j_aload_n E dX4_isTrue_18 rfl rfl ?_
        refine j_getP (ci := 4) (k := 0) (Cn := RX4) (T := TX4) (N := 5) E dX4_isTrue_19 (by assumption) (by assumption) rfl (by decide) hinX4 (by decide +kernel) rfl (by assumption) ?_
        refine j_iload_n E dX4_isTrue_22 rfl rfl ?_
        refine j_iald E dX4_isTrue_23 (by assumption) (by assumption) rfl hj20 (by decide) (by assumption) ?_
        refine j_iload_n E dX4_isTrue_24 rfl rfl ?_
        refine j_iload_n E dX4_isTrue_25 rfl rfl ?_
        refine j_callS1 (n := 3) E (k_X4_workOff ) dX4_isTrue_26 gX4_isTrue_X4_workOff rfl (by decide +kernel) ⟨rfl, rfl, by decide, by decide⟩ ⟨Nat.zero_le _, Nat.zero_le _⟩ rfl rfl (Nat.le_of_ble_eq_true rfl) rfl ?_
        refine j_istore_n E dX4_isTrue_29 rfl (by decide) ?_
        refine j_iinc E dX4_isTrue_30 rfl (by decide) ?_
        refine j_goto (tgt := 4) E dX4_isTrue_33 (by decide) ?_
        refine j_lv [0, 1, 2, 3] rfl ?_
        rw [nI_inc]
        have hx : xTr (M.1 s) (M.1 r 1) f (n + 1) j t = xTr (M.1 s) (M.1 r 1) f n (j + 1) (xWork (M.1 s j) t f) := by simp [xTr, h9, h15]
        rw [hx]
        exact ih (j + 1) (xWork (M.1 s j) t f) (by omega) (by omega)

set_option maxHeartbeats 4000000 in
set_option maxRecDepth 100000 in
theorem k_X4_isTrue {l : Launch} {D : va_G} {cy : Nat → ClassId} {X : va_W} {G : pG} {M : pM} {r s : Nat} {f : Int32} (hW : wRule G r s) : jK l yX4_isTrue wsX4_isTrue ({ frames := 1, cells := 0, slots := 0, locals := 24 } : Room) D cy X G M [.ref r, .int f] (some (.int (xTrue M r s f))) X M := by
  refine jK_of (own := RX4) (by decide) rfl rfl (Nat.le_of_ble_eq_true rfl) (fun C E hl hD hcy hG => ?_)
  subst hl; subst hD; subst hcy; subst hG

  obtain ⟨h1, h2, h3, h4, h5, h6⟩ := hW
  refine j_iconst (v := 0) E dX4_isTrue_0 (by decide) ?_
  refine j_istore_n E dX4_isTrue_1 rfl (by decide) ?_
  refine j_iconst (v := 0) E dX4_isTrue_2 (by decide) ?_
  refine j_istore_n E dX4_isTrue_3 rfl (by decide) ?_
  refine j_lv [0, 1, 2, 3] rfl ?_
  exact kl_X4_isTrue_4 E h1 h2 h3 h4 h5 h6 21 0 0 (by omega) (by omega)
end
section
/-! FirePanel$Ring: 0 places, 1 wires. -/
theorem j_r {C : jC} {nL pc kc ks kd kt : Nat} {lv : List (Nat × Value)} {st : List Value} {X X2 : va_W} {M M2 M3 : pM} {r r2 : Option Value} (h : r = r2) (hM : M2 = M3) (k : jW C nL pc lv st X M kc ks (jZ C X2 M3 r2 kd kt)) : jW C nL pc lv st X M kc ks (jZ C X2 M2 r kd kt) := by
  subst h; subst hM; exact k
def wRing (G : pG) (r pa wa : Nat) (pl : Nat → Nat) : Prop := (r ∈ G.1 ∧ G.2.1 r = 3 ∧ G.2.2.2 r 0 = some pa ∧ G.2.2.2 r 1 = some wa) ∧ (pa ∈ G.1 ∧ G.2.1 pa = 12 ∧ G.2.2.1 pa = 16) ∧ (wa ∈ G.1 ∧ G.2.1 wa = 10 ∧ G.2.2.1 wa = 17) ∧ ∀ i, i < 16 → G.2.2.2 pa i = some (pl i) ∧ pl i ∈ G.1 ∧ G.2.1 (pl i) = 2
def xEnds (M : pM) (pl : Nat → Nat) (k : Nat) : Int32 := if 16 ≤ nI k then 1 else if M.1 (pl k) 0 = 4 then 1 else 0
def xS1 (M : pM) (wa k : Nat) (s : Int32) : Int32 := if M.1 wa k = 0 then s ||| (1 <<< (nI k &&& 31)) else s
def xD1 (M : pM) (wa k : Nat) (d : Int32) : Int32 := if d = 0 then (if M.1 wa k = 2 then 1 else 0) else 1
def xPW (M : pM) (pl : Nat → Nat) (wa : Nat) : Nat → Nat → Int32 → Int32 → Int32 → Int32
  | 0, _, p, _, _ => p
  | n + 1, k, p, s, d => if xEnds M pl k = 0 then xPW M pl wa n (k + 1) p (xS1 M wa k s) (xD1 M wa k d) else xPW M pl wa n (k + 1) (p ||| (if xD1 M wa k d = 0 then xS1 M wa k s else 0)) 0 0
def xR1 (w : Int32) : Nat → Nat → Int32 → Int32
  | 0, _, r => r
  | n + 1, p, r => if 16 ≤ nI p then r else if (w >>> (nI p &&& 31)) &&& 1 = 0 then r else xR1 w n (p + 1) (r ||| (1 <<< (nI p &&& 31)))
def xR2 (w : Int32) : Nat → Int32 → Int32
  | 0, r => r
  | q + 1, r => if (w >>> ((nI q + 1) &&& 31)) &&& 1 = 0 then r else xR2 w q (r ||| (1 <<< (nI q &&& 31)))
def pmN : Nat → Int32
  | 0 => -1
  | q + 1 => nI q
theorem pmN_dec (q : Nat) : nI q + Int32.ofInt (-1) = pmN q := by
  cases q with
  | zero => rfl
  | succ q => exact pk_m1 q
def xReach (M : pM) (pl : Nat → Nat) (wa : Nat) : Int32 := xR2 (xPW M pl wa 17 0 0 0 0) 16 (xR1 (xPW M pl wa 17 0 0 0 0) 17 0 0)

set_option maxHeartbeats 4000000 in
set_option maxRecDepth 100000 in
theorem k_X3_endsStretch {l : Launch} {D : va_G} {cy : Nat → ClassId} {X : va_W} {G : pG} {M : pM} {r pa wa k : Nat} {pl : Nat → Nat} (hW : wRing G r pa wa pl) (hk : k < 17) : jK l yX3_endsStretch wsX3_endsStretch ({ frames := 0, cells := 0, slots := 0, locals := 0 } : Room) D cy X G M [.ref r, .int (nI k)] (some (.int (xEnds M pl k))) X M := by
  refine jK_of (own := RX3) (by decide) rfl rfl (Nat.le_of_ble_eq_true rfl) (fun C E hl hD hcy hG => ?_)
  subst hl; subst hD; subst hcy; subst hG
  have hinX2 : ∀ w ∈ u_ws RX2 TX2 11, w ∈ wsX3_endsStretch := by decide +kernel
  have hinX3 : ∀ w ∈ u_ws RX3 TX3 2, w ∈ wsX3_endsStretch := by decide +kernel
  obtain ⟨⟨hr1, hr2, hr3, hr4⟩, ⟨hp1, hp2, hp3⟩, ⟨hw1, hw2, hw3⟩, hpl⟩ := hW
  refine j_iload_n E dX3_endsStretch_0 rfl rfl ?_
  refine j_if_lt (tgt := 23) E dX3_endsStretch_1 (by decide) (fun h1 => ?_) (fun h1 => ?_)
  · exact absurd h1 (nI_pos (by omega))
  · refine j_iload_n E dX3_endsStretch_4 rfl rfl ?_
    refine j_bipush (v := 16) E dX3_endsStretch_5 (by decide) ?_
    refine j_icmp_ge (tgt := 23) E dX3_endsStretch_7 (by decide) (fun h7 => ?_) (fun h7 => ?_)
    · refine j_iconst (v := 1) E dX3_endsStretch_23 (by decide) ?_
      refine j_goto (tgt := 28) E dX3_endsStretch_24 (by decide) ?_
      exact j_zret E dX3_endsStretch_28 rfl (by first | rfl | (simp [xEnds, h1, h7]; done)) rfl (by first | rfl | (simp [xEnds, h1, h7]; done))
    · have hk16 : k < 16 := by
        rcases Nat.lt_or_ge k 16 with q | q
        · exact q
        · exact absurd (nI_le q (by omega)) h7
      obtain ⟨q1, q2, q3⟩ := hpl k hk16
      refine j_aload_n E dX3_endsStretch_10 rfl rfl ?_
      refine j_getP (ci := 3) (k := 0) (Cn := RX3) (T := TX3) (N := 2) E dX3_endsStretch_11 (by assumption) (by assumption) rfl (by decide) hinX3 (by decide +kernel) rfl (by assumption) ?_
      refine j_iload_n E dX3_endsStretch_14 rfl rfl ?_
      refine j_aldP E dX3_endsStretch_15 (by assumption) (by assumption) rfl hk16 (by decide) (by assumption) (by assumption) ?_
      refine j_getI (ci := 2) (k := 0) (Cn := RX2) (T := TX2) (N := 11) E dX3_endsStretch_16 (by assumption) (by assumption) rfl (by decide) hinX2 (by decide +kernel) rfl ?_
      refine j_iconst (v := 4) E dX3_endsStretch_19 (by decide) ?_
      refine j_icmp_ne (tgt := 27) E dX3_endsStretch_20 (by decide) (fun h20 => ?_) (fun h20 => ?_)
      · refine j_iconst (v := 0) E dX3_endsStretch_27 (by decide) ?_
        exact j_zret E dX3_endsStretch_28 rfl (by first | rfl | (simp [xEnds, h1, h7, h20]; done)) rfl (by first | rfl | (simp [xEnds, h1, h7, h20]; done))
      · refine j_iconst (v := 1) E dX3_endsStretch_23 (by decide) ?_
        refine j_goto (tgt := 28) E dX3_endsStretch_24 (by decide) ?_
        exact j_zret E dX3_endsStretch_28 rfl (by first | rfl | (simp [xEnds, h1, h7, h20]; done)) rfl (by first | rfl | (simp [xEnds, h1, h7, h20]; done))

set_option maxHeartbeats 4000000 in
set_option maxRecDepth 100000 in
theorem kl_X3_passableWires_9 {C : jC} (E : jE C cX3_passableWires 5 wsX3_passableWires RX3 (some .int) ({ frames := 1, cells := 0, slots := 0, locals := 21 } : Room)) {X : va_W} {M : pM} {r pa wa : Nat} {pl : Nat → Nat} (hW : wRing (jG C) r pa wa pl) : ∀ (n k : Nat) (p s d : Int32), k + n = 17 → jW C 5 9 [(0, .ref r), (1, .int p), (2, .int s), (3, .int d), (4, .int (nI k))] [] X M 0 0 (jZ C X M (some (.int (xPW M pl wa n k p s d))) 0 0) := by
  have hinX3 : ∀ w ∈ u_ws RX3 TX3 2, w ∈ wsX3_passableWires := by decide +kernel
  have hW0 := hW
  obtain ⟨⟨hr1, hr2, hr3, hr4⟩, ⟨hp1, hp2, hp3⟩, ⟨hw1, hw2, hw3⟩, hpl⟩ := hW
  intro n
  induction n with
  | zero =>
    intro k p s d hn
    obtain rfl : k = 17 := by omega
    refine j_iload E dX3_passableWires_9 rfl ?_
    refine j_bipush (v := 17) E dX3_passableWires_11 (by decide) ?_
    refine j_icmp_ge (tgt := 85) E dX3_passableWires_13 (by decide) (fun h => ?_) (fun h => absurd (by decide) h)
    refine j_iload_n E dX3_passableWires_85 rfl rfl ?_
    exact j_iret E dX3_passableWires_86 (by first | rfl | (simp [xPW, true_and]; done)) rfl (by first | rfl | (simp [xPW, true_and]; done))
  | succ n ih =>
    intro k p s d hn
    have hk : k < 17 := by omega
    refine j_iload E dX3_passableWires_9 rfl ?_
    refine j_bipush (v := 17) E dX3_passableWires_11 (by decide) ?_
    refine j_icmp_ge (tgt := 85) E dX3_passableWires_13 (by decide) (fun h13 => ?_) (fun h13 => ?_)
    · exact absurd h13 (nI_ge hk (by decide))
    · refine j_aload_n E dX3_passableWires_16 rfl rfl ?_
      refine j_getP (ci := 3) (k := 1) (Cn := RX3) (T := TX3) (N := 2) E dX3_passableWires_17 (by assumption) (by assumption) rfl (by decide) hinX3 (by decide +kernel) rfl (by assumption) ?_
      refine j_iload E dX3_passableWires_20 rfl ?_
      refine j_iald E dX3_passableWires_22 (by assumption) (by assumption) rfl hk (by decide) (by assumption) ?_
      refine j_if_ne (tgt := 33) E dX3_passableWires_23 (by decide) (fun h23 => ?_) (fun h23 => ?_)
      · refine j_iload_n E dX3_passableWires_33 rfl rfl ?_
        refine j_if_ne (tgt := 48) E dX3_passableWires_34 (by decide) (fun h34 => ?_) (fun h34 => ?_)
        · refine j_iconst (v := 1) E dX3_passableWires_48 (by decide) ?_
          refine j_goto (tgt := 53) E dX3_passableWires_49 (by decide) ?_
          refine j_istore_n E dX3_passableWires_53 rfl (by decide) ?_
          refine j_aload_n E dX3_passableWires_54 rfl rfl ?_
          refine j_iload E dX3_passableWires_55 rfl ?_
          refine j_callV1 (ci := 3) (n := 1) E (k_X3_endsStretch hW0 hk) dX3_passableWires_57 gX3_passableWires_X3_endsStretch rfl (by decide +kernel) ⟨rfl, rfl, by decide, by decide⟩ ⟨Nat.zero_le _, Nat.zero_le _⟩ (by assumption) (by assumption) rfl rfl rfl (Nat.le_of_ble_eq_true rfl) rfl ?_
          refine j_if_eq (tgt := 79) E dX3_passableWires_60 (by decide) (fun h60 => ?_) (fun h60 => ?_)
          · refine j_iinc E dX3_passableWires_79 rfl (by decide) ?_
            refine j_goto (tgt := 9) E dX3_passableWires_82 (by decide) ?_
            exact j_lv [0, 1, 2, 3, 4] rfl (by rw [nI_inc]; exact j_r (by first | (simp [xPW, xS1, xD1, *]; done) | (exfalso; simp_all; done)) rfl (ih (k + 1) _ _ _ (by omega)))
          · refine j_iload_n E dX3_passableWires_63 rfl rfl ?_
            refine j_iload_n E dX3_passableWires_64 rfl rfl ?_
            refine j_if_eq (tgt := 72) E dX3_passableWires_65 (by decide) (fun h65 => ?_) (fun h65 => ?_)
            · refine j_iload_n E dX3_passableWires_72 rfl rfl ?_
              refine j_ior E dX3_passableWires_73 ?_
              refine j_istore_n E dX3_passableWires_74 rfl (by decide) ?_
              refine j_iconst (v := 0) E dX3_passableWires_75 (by decide) ?_
              refine j_istore_n E dX3_passableWires_76 rfl (by decide) ?_
              refine j_iconst (v := 0) E dX3_passableWires_77 (by decide) ?_
              refine j_istore_n E dX3_passableWires_78 rfl (by decide) ?_
              refine j_iinc E dX3_passableWires_79 rfl (by decide) ?_
              refine j_goto (tgt := 9) E dX3_passableWires_82 (by decide) ?_
              exact j_lv [0, 1, 2, 3, 4] rfl (by rw [nI_inc]; exact j_r (by first | (simp [xPW, xS1, xD1, *]; done) | (exfalso; simp_all; done)) rfl (ih (k + 1) _ _ _ (by omega)))
            · refine j_iconst (v := 0) E dX3_passableWires_68 (by decide) ?_
              refine j_goto (tgt := 73) E dX3_passableWires_69 (by decide) ?_
              refine j_ior E dX3_passableWires_73 ?_
              refine j_istore_n E dX3_passableWires_74 rfl (by decide) ?_
              refine j_iconst (v := 0) E dX3_passableWires_75 (by decide) ?_
              refine j_istore_n E dX3_passableWires_76 rfl (by decide) ?_
              refine j_iconst (v := 0) E dX3_passableWires_77 (by decide) ?_
              refine j_istore_n E dX3_passableWires_78 rfl (by decide) ?_
              refine j_iinc E dX3_passableWires_79 rfl (by decide) ?_
              refine j_goto (tgt := 9) E dX3_passableWires_82 (by decide) ?_
              exact j_lv [0, 1, 2, 3, 4] rfl (by rw [nI_inc]; exact j_r (by first | (simp [xPW, xS1, xD1, *]; done) | (exfalso; simp_all; done)) rfl (ih (k + 1) _ _ _ (by omega)))
        · refine j_aload_n E dX3_passableWires_37 rfl rfl ?_
          refine j_getP (ci := 3) (k := 1) (Cn := RX3) (T := TX3) (N := 2) E dX3_passableWires_38 (by assumption) (by assumption) rfl (by decide) hinX3 (by decide +kernel) rfl (by assumption) ?_
          refine j_iload E dX3_passableWires_41 rfl ?_
          refine j_iald E dX3_passableWires_43 (by assumption) (by assumption) rfl hk (by decide) (by assumption) ?_
          refine j_iconst (v := 2) E dX3_passableWires_44 (by decide) ?_
          refine j_icmp_ne (tgt := 52) E dX3_passableWires_45 (by decide) (fun h45 => ?_) (fun h45 => ?_)
          · refine j_iconst (v := 0) E dX3_passableWires_52 (by decide) ?_
            refine j_istore_n E dX3_passableWires_53 rfl (by decide) ?_
            refine j_aload_n E dX3_passableWires_54 rfl rfl ?_
            refine j_iload E dX3_passableWires_55 rfl ?_
            refine j_callV1 (ci := 3) (n := 1) E (k_X3_endsStretch hW0 hk) dX3_passableWires_57 gX3_passableWires_X3_endsStretch rfl (by decide +kernel) ⟨rfl, rfl, by decide, by decide⟩ ⟨Nat.zero_le _, Nat.zero_le _⟩ (by assumption) (by assumption) rfl rfl rfl (Nat.le_of_ble_eq_true rfl) rfl ?_
            refine j_if_eq (tgt := 79) E dX3_passableWires_60 (by decide) (fun h60 => ?_) (fun h60 => ?_)
            · refine j_iinc E dX3_passableWires_79 rfl (by decide) ?_
              refine j_goto (tgt := 9) E dX3_passableWires_82 (by decide) ?_
              exact j_lv [0, 1, 2, 3, 4] rfl (by rw [nI_inc]; exact j_r (by first | (simp [xPW, xS1, xD1, *]; done) | (exfalso; simp_all; done)) rfl (ih (k + 1) _ _ _ (by omega)))
            · refine j_iload_n E dX3_passableWires_63 rfl rfl ?_
              refine j_iload_n E dX3_passableWires_64 rfl rfl ?_
              refine j_if_eq (tgt := 72) E dX3_passableWires_65 (by decide) (fun h65 => ?_) (fun h65 => ?_)
              · refine j_iload_n E dX3_passableWires_72 rfl rfl ?_
                refine j_ior E dX3_passableWires_73 ?_
                refine j_istore_n E dX3_passableWires_74 rfl (by decide) ?_
                refine j_iconst (v := 0) E dX3_passableWires_75 (by decide) ?_
                refine j_istore_n E dX3_passableWires_76 rfl (by decide) ?_
                refine j_iconst (v := 0) E dX3_passableWires_77 (by decide) ?_
                refine j_istore_n E dX3_passableWires_78 rfl (by decide) ?_
                refine j_iinc E dX3_passableWires_79 rfl (by decide) ?_
                refine j_goto (tgt := 9) E dX3_passableWires_82 (by decide) ?_
                exact j_lv [0, 1, 2, 3, 4] rfl (by rw [nI_inc]; exact j_r (by first | (simp [xPW, xS1, xD1, *]; done) | (exfalso; simp_all; done)) rfl (ih (k + 1) _ _ _ (by omega)))
              · refine j_iconst (v := 0) E dX3_passableWires_68 (by decide) ?_
                refine j_goto (tgt := 73) E dX3_passableWires_69 (by decide) ?_
                refine j_ior E dX3_passableWires_73 ?_
                refine j_istore_n E dX3_passableWires_74 rfl (by decide) ?_
                refine j_iconst (v := 0) E dX3_passableWires_75 (by decide) ?_
                refine j_istore_n E dX3_passableWires_76 rfl (by decide) ?_
                refine j_iconst (v := 0) E dX3_passableWires_77 (by decide) ?_
                refine j_istore_n E dX3_passableWires_78 rfl (by decide) ?_
                refine j_iinc E dX3_passableWires_79 rfl (by decide) ?_
                refine j_goto (tgt := 9) E dX3_passableWires_82 (by decide) ?_
                exact j_lv [0, 1, 2, 3, 4] rfl (by rw [nI_inc]; exact j_r (by first | (simp [xPW, xS1, xD1, *]; done) | (exfalso; simp_all; done)) rfl (ih (k + 1) _ _ _ (by omega)))
          · refine j_iconst (v := 1) E dX3_passableWires_48 (by decide) ?_
            refine j_goto (tgt := 53) E dX3_passableWires_49 (by decide) ?_
            refine j_istore_n E dX3_passableWires_53 rfl (by decide) ?_
            refine j_aload_n E dX3_passableWires_54 rfl rfl ?_
            refine j_iload E dX3_passableWires_55 rfl ?_
            refine j_callV1 (ci := 3) (n := 1) E (k_X3_endsStretch hW0 hk) dX3_passableWires_57 gX3_passableWires_X3_endsStretch rfl (by decide +kernel) ⟨rfl, rfl, by decide, by decide⟩ ⟨Nat.zero_le _, Nat.zero_le _⟩ (by assumption) (by assumption) rfl rfl rfl (Nat.le_of_ble_eq_true rfl) rfl ?_
            refine j_if_eq (tgt := 79) E dX3_passableWires_60 (by decide) (fun h60 => ?_) (fun h60 => ?_)
            · refine j_iinc E dX3_passableWires_79 rfl (by decide) ?_
              refine j_goto (tgt := 9) E dX3_passableWires_82 (by decide) ?_
              exact j_lv [0, 1, 2, 3, 4] rfl (by rw [nI_inc]; exact j_r (by first | (simp [xPW, xS1, xD1, *]; done) | (exfalso; simp_all; done)) rfl (ih (k + 1) _ _ _ (by omega)))
            · refine j_iload_n E dX3_passableWires_63 rfl rfl ?_
              refine j_iload_n E dX3_passableWires_64 rfl rfl ?_
              refine j_if_eq (tgt := 72) E dX3_passableWires_65 (by decide) (fun h65 => ?_) (fun h65 => ?_)
              · refine j_iload_n E dX3_passableWires_72 rfl rfl ?_
                refine j_ior E dX3_passableWires_73 ?_
                refine j_istore_n E dX3_passableWires_74 rfl (by decide) ?_
                refine j_iconst (v := 0) E dX3_passableWires_75 (by decide) ?_
                refine j_istore_n E dX3_passableWires_76 rfl (by decide) ?_
                refine j_iconst (v := 0) E dX3_passableWires_77 (by decide) ?_
                refine j_istore_n E dX3_passableWires_78 rfl (by decide) ?_
                refine j_iinc E dX3_passableWires_79 rfl (by decide) ?_
                refine j_goto (tgt := 9) E dX3_passableWires_82 (by decide) ?_
                exact j_lv [0, 1, 2, 3, 4] rfl (by rw [nI_inc]; exact j_r (by first | (simp [xPW, xS1, xD1, *]; done) | (exfalso; simp_all; done)) rfl (ih (k + 1) _ _ _ (by omega)))
              · refine j_iconst (v := 0) E dX3_passableWires_68 (by decide) ?_
                refine j_goto (tgt := 73) E dX3_passableWires_69 (by decide) ?_
                refine j_ior E dX3_passableWires_73 ?_
                refine j_istore_n E dX3_passableWires_74 rfl (by decide) ?_
                refine j_iconst (v := 0) E dX3_passableWires_75 (by decide) ?_
                refine j_istore_n E dX3_passableWires_76 rfl (by decide) ?_
                refine j_iconst (v := 0) E dX3_passableWires_77 (by decide) ?_
                refine j_istore_n E dX3_passableWires_78 rfl (by decide) ?_
                refine j_iinc E dX3_passableWires_79 rfl (by decide) ?_
                refine j_goto (tgt := 9) E dX3_passableWires_82 (by decide) ?_
                exact j_lv [0, 1, 2, 3, 4] rfl (by rw [nI_inc]; exact j_r (by first | (simp [xPW, xS1, xD1, *]; done) | (exfalso; simp_all; done)) rfl (ih (k + 1) _ _ _ (by omega)))
      · refine j_iload_n E dX3_passableWires_26 rfl rfl ?_
        refine j_iconst (v := 1) E dX3_passableWires_27 (by decide) ?_
        refine j_iload E dX3_passableWires_28 rfl ?_
        refine j_ishl E dX3_passableWires_30 ?_
        refine j_ior E dX3_passableWires_31 ?_
        refine j_istore_n E dX3_passableWires_32 rfl (by decide) ?_
        refine j_iload_n E dX3_passableWires_33 rfl rfl ?_
        refine j_if_ne (tgt := 48) E dX3_passableWires_34 (by decide) (fun h34 => ?_) (fun h34 => ?_)
        · refine j_iconst (v := 1) E dX3_passableWires_48 (by decide) ?_
          refine j_goto (tgt := 53) E dX3_passableWires_49 (by decide) ?_
          refine j_istore_n E dX3_passableWires_53 rfl (by decide) ?_
          refine j_aload_n E dX3_passableWires_54 rfl rfl ?_
          refine j_iload E dX3_passableWires_55 rfl ?_
          refine j_callV1 (ci := 3) (n := 1) E (k_X3_endsStretch hW0 hk) dX3_passableWires_57 gX3_passableWires_X3_endsStretch rfl (by decide +kernel) ⟨rfl, rfl, by decide, by decide⟩ ⟨Nat.zero_le _, Nat.zero_le _⟩ (by assumption) (by assumption) rfl rfl rfl (Nat.le_of_ble_eq_true rfl) rfl ?_
          refine j_if_eq (tgt := 79) E dX3_passableWires_60 (by decide) (fun h60 => ?_) (fun h60 => ?_)
          · refine j_iinc E dX3_passableWires_79 rfl (by decide) ?_
            refine j_goto (tgt := 9) E dX3_passableWires_82 (by decide) ?_
            exact j_lv [0, 1, 2, 3, 4] rfl (by rw [nI_inc]; exact j_r (by first | (simp [xPW, xS1, xD1, *]; done) | (exfalso; simp_all; done)) rfl (ih (k + 1) _ _ _ (by omega)))
          · refine j_iload_n E dX3_passableWires_63 rfl rfl ?_
            refine j_iload_n E dX3_passableWires_64 rfl rfl ?_
            refine j_if_eq (tgt := 72) E dX3_passableWires_65 (by decide) (fun h65 => ?_) (fun h65 => ?_)
            · refine j_iload_n E dX3_passableWires_72 rfl rfl ?_
              refine j_ior E dX3_passableWires_73 ?_
              refine j_istore_n E dX3_passableWires_74 rfl (by decide) ?_
              refine j_iconst (v := 0) E dX3_passableWires_75 (by decide) ?_
              refine j_istore_n E dX3_passableWires_76 rfl (by decide) ?_
              refine j_iconst (v := 0) E dX3_passableWires_77 (by decide) ?_
              refine j_istore_n E dX3_passableWires_78 rfl (by decide) ?_
              refine j_iinc E dX3_passableWires_79 rfl (by decide) ?_
              refine j_goto (tgt := 9) E dX3_passableWires_82 (by decide) ?_
              exact j_lv [0, 1, 2, 3, 4] rfl (by rw [nI_inc]; exact j_r (by first | (simp [xPW, xS1, xD1, *]; done) | (exfalso; simp_all; done)) rfl (ih (k + 1) _ _ _ (by omega)))
            · refine j_iconst (v := 0) E dX3_passableWires_68 (by decide) ?_
              refine j_goto (tgt := 73) E dX3_passableWires_69 (by decide) ?_
              refine j_ior E dX3_passableWires_73 ?_
              refine j_istore_n E dX3_passableWires_74 rfl (by decide) ?_
              refine j_iconst (v := 0) E dX3_passableWires_75 (by decide) ?_
              refine j_istore_n E dX3_passableWires_76 rfl (by decide) ?_
              refine j_iconst (v := 0) E dX3_passableWires_77 (by decide) ?_
              refine j_istore_n E dX3_passableWires_78 rfl (by decide) ?_
              refine j_iinc E dX3_passableWires_79 rfl (by decide) ?_
              refine j_goto (tgt := 9) E dX3_passableWires_82 (by decide) ?_
              exact j_lv [0, 1, 2, 3, 4] rfl (by rw [nI_inc]; exact j_r (by first | (simp [xPW, xS1, xD1, *]; done) | (exfalso; simp_all; done)) rfl (ih (k + 1) _ _ _ (by omega)))
        · refine j_aload_n E dX3_passableWires_37 rfl rfl ?_
          refine j_getP (ci := 3) (k := 1) (Cn := RX3) (T := TX3) (N := 2) E dX3_passableWires_38 (by assumption) (by assumption) rfl (by decide) hinX3 (by decide +kernel) rfl (by assumption) ?_
          refine j_iload E dX3_passableWires_41 rfl ?_
          refine j_iald E dX3_passableWires_43 (by assumption) (by assumption) rfl hk (by decide) (by assumption) ?_
          refine j_iconst (v := 2) E dX3_passableWires_44 (by decide) ?_
          refine j_icmp_ne (tgt := 52) E dX3_passableWires_45 (by decide) (fun h45 => ?_) (fun h45 => ?_)
          · refine j_iconst (v := 0) E dX3_passableWires_52 (by decide) ?_
            refine j_istore_n E dX3_passableWires_53 rfl (by decide) ?_
            refine j_aload_n E dX3_passableWires_54 rfl rfl ?_
            refine j_iload E dX3_passableWires_55 rfl ?_
            refine j_callV1 (ci := 3) (n := 1) E (k_X3_endsStretch hW0 hk) dX3_passableWires_57 gX3_passableWires_X3_endsStretch rfl (by decide +kernel) ⟨rfl, rfl, by decide, by decide⟩ ⟨Nat.zero_le _, Nat.zero_le _⟩ (by assumption) (by assumption) rfl rfl rfl (Nat.le_of_ble_eq_true rfl) rfl ?_
            refine j_if_eq (tgt := 79) E dX3_passableWires_60 (by decide) (fun h60 => ?_) (fun h60 => ?_)
            · refine j_iinc E dX3_passableWires_79 rfl (by decide) ?_
              refine j_goto (tgt := 9) E dX3_passableWires_82 (by decide) ?_
              exact j_lv [0, 1, 2, 3, 4] rfl (by rw [nI_inc]; exact j_r (by first | (simp [xPW, xS1, xD1, *]; done) | (exfalso; simp_all; done)) rfl (ih (k + 1) _ _ _ (by omega)))
            · refine j_iload_n E dX3_passableWires_63 rfl rfl ?_
              refine j_iload_n E dX3_passableWires_64 rfl rfl ?_
              refine j_if_eq (tgt := 72) E dX3_passableWires_65 (by decide) (fun h65 => ?_) (fun h65 => ?_)
              · refine j_iload_n E dX3_passableWires_72 rfl rfl ?_
                refine j_ior E dX3_passableWires_73 ?_
                refine j_istore_n E dX3_passableWires_74 rfl (by decide) ?_
                refine j_iconst (v := 0) E dX3_passableWires_75 (by decide) ?_
                refine j_istore_n E dX3_passableWires_76 rfl (by decide) ?_
                refine j_iconst (v := 0) E dX3_passableWires_77 (by decide) ?_
                refine j_istore_n E dX3_passableWires_78 rfl (by decide) ?_
                refine j_iinc E dX3_passableWires_79 rfl (by decide) ?_
                refine j_goto (tgt := 9) E dX3_passableWires_82 (by decide) ?_
                exact j_lv [0, 1, 2, 3, 4] rfl (by rw [nI_inc]; exact j_r (by first | (simp [xPW, xS1, xD1, *]; done) | (exfalso; simp_all; done)) rfl (ih (k + 1) _ _ _ (by omega)))
              · refine j_iconst (v := 0) E dX3_passableWires_68 (by decide) ?_
                refine j_goto (tgt := 73) E dX3_passableWires_69 (by decide) ?_
                refine j_ior E dX3_passableWires_73 ?_
                refine j_istore_n E dX3_passableWires_74 rfl (by decide) ?_
                refine j_iconst (v := 0) E dX3_passableWires_75 (by decide) ?_
                refine j_istore_n E dX3_passableWires_76 rfl (by decide) ?_
                refine j_iconst (v := 0) E dX3_passableWires_77 (by decide) ?_
                refine j_istore_n E dX3_passableWires_78 rfl (by decide) ?_
                refine j_iinc E dX3_passableWires_79 rfl (by decide) ?_
                refine j_goto (tgt := 9) E dX3_passableWires_82 (by decide) ?_
                exact j_lv [0, 1, 2, 3, 4] rfl (by rw [nI_inc]; exact j_r (by first | (simp [xPW, xS1, xD1, *]; done) | (exfalso; simp_all; done)) rfl (ih (k + 1) _ _ _ (by omega)))
          · refine j_iconst (v := 1) E dX3_passableWires_48 (by decide) ?_
            refine j_goto (tgt := 53) E dX3_passableWires_49 (by decide) ?_
            refine j_istore_n E dX3_passableWires_53 rfl (by decide) ?_
            refine j_aload_n E dX3_passableWires_54 rfl rfl ?_
            refine j_iload E dX3_passableWires_55 rfl ?_
            refine j_callV1 (ci := 3) (n := 1) E (k_X3_endsStretch hW0 hk) dX3_passableWires_57 gX3_passableWires_X3_endsStretch rfl (by decide +kernel) ⟨rfl, rfl, by decide, by decide⟩ ⟨Nat.zero_le _, Nat.zero_le _⟩ (by assumption) (by assumption) rfl rfl rfl (Nat.le_of_ble_eq_true rfl) rfl ?_
            refine j_if_eq (tgt := 79) E dX3_passableWires_60 (by decide) (fun h60 => ?_) (fun h60 => ?_)
            · refine j_iinc E dX3_passableWires_79 rfl (by decide) ?_
              refine j_goto (tgt := 9) E dX3_passableWires_82 (by decide) ?_
              exact j_lv [0, 1, 2, 3, 4] rfl (by rw [nI_inc]; exact j_r (by first | (simp [xPW, xS1, xD1, *]; done) | (exfalso; simp_all; done)) rfl (ih (k + 1) _ _ _ (by omega)))
            · refine j_iload_n E dX3_passableWires_63 rfl rfl ?_
              refine j_iload_n E dX3_passableWires_64 rfl rfl ?_
              refine j_if_eq (tgt := 72) E dX3_passableWires_65 (by decide) (fun h65 => ?_) (fun h65 => ?_)
              · refine j_iload_n E dX3_passableWires_72 rfl rfl ?_
                refine j_ior E dX3_passableWires_73 ?_
                refine j_istore_n E dX3_passableWires_74 rfl (by decide) ?_
                refine j_iconst (v := 0) E dX3_passableWires_75 (by decide) ?_
                refine j_istore_n E dX3_passableWires_76 rfl (by decide) ?_
                refine j_iconst (v := 0) E dX3_passableWires_77 (by decide) ?_
                refine j_istore_n E dX3_passableWires_78 rfl (by decide) ?_
                refine j_iinc E dX3_passableWires_79 rfl (by decide) ?_
                refine j_goto (tgt := 9) E dX3_passableWires_82 (by decide) ?_
                exact j_lv [0, 1, 2, 3, 4] rfl (by rw [nI_inc]; exact j_r (by first | (simp [xPW, xS1, xD1, *]; done) | (exfalso; simp_all; done)) rfl (ih (k + 1) _ _ _ (by omega)))
              · refine j_iconst (v := 0) E dX3_passableWires_68 (by decide) ?_
                refine j_goto (tgt := 73) E dX3_passableWires_69 (by decide) ?_
                refine j_ior E dX3_passableWires_73 ?_
                refine j_istore_n E dX3_passableWires_74 rfl (by decide) ?_
                refine j_iconst (v := 0) E dX3_passableWires_75 (by decide) ?_
                refine j_istore_n E dX3_passableWires_76 rfl (by decide) ?_
                refine j_iconst (v := 0) E dX3_passableWires_77 (by decide) ?_
                refine j_istore_n E dX3_passableWires_78 rfl (by decide) ?_
                refine j_iinc E dX3_passableWires_79 rfl (by decide) ?_
                refine j_goto (tgt := 9) E dX3_passableWires_82 (by decide) ?_
                exact j_lv [0, 1, 2, 3, 4] rfl (by rw [nI_inc]; exact j_r (by first | (simp [xPW, xS1, xD1, *]; done) | (exfalso; simp_all; done)) rfl (ih (k + 1) _ _ _ (by omega)))

set_option maxHeartbeats 4000000 in
set_option maxRecDepth 100000 in
theorem k_X3_passableWires {l : Launch} {D : va_G} {cy : Nat → ClassId} {X : va_W} {G : pG} {M : pM} {r pa wa : Nat} {pl : Nat → Nat} (hW : wRing G r pa wa pl) : jK l yX3_passableWires wsX3_passableWires ({ frames := 1, cells := 0, slots := 0, locals := 21 } : Room) D cy X G M [.ref r] (some (.int (xPW M pl wa 17 0 0 0 0))) X M := by
  refine jK_of (own := RX3) (by decide) rfl rfl (Nat.le_of_ble_eq_true rfl) (fun C E hl hD hcy hG => ?_)
  subst hl; subst hD; subst hcy; subst hG

  refine j_iconst (v := 0) E dX3_passableWires_0 (by decide) ?_
  refine j_istore_n E dX3_passableWires_1 rfl (by decide) ?_
  refine j_iconst (v := 0) E dX3_passableWires_2 (by decide) ?_
  refine j_istore_n E dX3_passableWires_3 rfl (by decide) ?_
  refine j_iconst (v := 0) E dX3_passableWires_4 (by decide) ?_
  refine j_istore_n E dX3_passableWires_5 rfl (by decide) ?_
  refine j_iconst (v := 0) E dX3_passableWires_6 (by decide) ?_
  refine j_istore E dX3_passableWires_7 (by decide) ?_
  refine j_lv [0, 1, 2, 3, 4] rfl ?_
  exact kl_X3_passableWires_9 E hW 17 0 0 0 0 (by omega)

set_option maxHeartbeats 4000000 in
set_option maxRecDepth 100000 in
theorem kl_X3_reachedPlaces_38 {C : jC} (E : jE C cX3_reachedPlaces 4 wsX3_reachedPlaces RX3 (some .int) ({ frames := 2, cells := 0, slots := 0, locals := 45 } : Room)) {X : va_W} {M : pM} {r : Nat} {w : Int32}  : ∀ (q : Nat) (v : Int32), q ≤ 16 → jW C 4 38 [(0, .ref r), (1, .int w), (2, .int v), (3, .int (pmN q))] [] X M 0 0 (jZ C X M (some (.int (xR2 w q v))) 0 0) := by

  intro q
  induction q with
  | zero =>
    intro v hq
    refine j_iload_n E dX3_reachedPlaces_38 rfl rfl ?_
    refine j_if_lt (tgt := 64) E dX3_reachedPlaces_39 (by decide) (fun h => ?_) (fun h => absurd (by decide) h)
    refine j_iload_n E dX3_reachedPlaces_64 rfl rfl ?_
    exact j_iret E dX3_reachedPlaces_65 (by first | rfl | (simp [xR2, pmN, *]; done) | (simp_all [xR2, pmN]; done)) rfl (by first | rfl | (simp [xR2, pmN, *]; done) | (simp_all [xR2, pmN]; done))
  | succ q ih =>
    intro v hq
    refine j_iload_n E dX3_reachedPlaces_38 rfl rfl ?_
    refine j_if_lt (tgt := 64) E dX3_reachedPlaces_39 (by decide) (fun h39 => ?_) (fun h39 => ?_)
    · exact absurd h39 (nI_pos (by omega))
    · refine j_iload_n E dX3_reachedPlaces_42 rfl rfl ?_
      refine j_iload_n E dX3_reachedPlaces_43 rfl rfl ?_
      refine j_iconst (v := 1) E dX3_reachedPlaces_44 (by decide) ?_
      refine j_iadd E dX3_reachedPlaces_45 ?_
      refine j_ishr E dX3_reachedPlaces_46 ?_
      refine j_iconst (v := 1) E dX3_reachedPlaces_47 (by decide) ?_
      refine j_iand E dX3_reachedPlaces_48 ?_
      refine j_if_eq (tgt := 64) E dX3_reachedPlaces_49 (by decide) (fun h49 => ?_) (fun h49 => ?_)
      · refine j_iload_n E dX3_reachedPlaces_64 rfl rfl ?_
        exact j_iret E dX3_reachedPlaces_65 (by first | rfl | (simp [xR2, pmN, *]; done) | (simp_all [xR2, pmN]; done)) rfl (by first | rfl | (simp [xR2, pmN, *]; done) | (simp_all [xR2, pmN]; done))
      · refine j_iload_n E dX3_reachedPlaces_52 rfl rfl ?_
        refine j_iconst (v := 1) E dX3_reachedPlaces_53 (by decide) ?_
        refine j_iload_n E dX3_reachedPlaces_54 rfl rfl ?_
        refine j_ishl E dX3_reachedPlaces_55 ?_
        refine j_ior E dX3_reachedPlaces_56 ?_
        refine j_istore_n E dX3_reachedPlaces_57 rfl (by decide) ?_
        refine j_iinc E dX3_reachedPlaces_58 rfl (by decide) ?_
        refine j_goto (tgt := 38) E dX3_reachedPlaces_61 (by decide) ?_
        exact j_lv [0, 1, 2, 3] rfl (by rw [show pmN (q + 1) + Int32.ofInt (-1) = pmN q from pmN_dec q]; exact j_r (by have h9 : ¬ w >>> (nI q + 1 &&& 31) &&& 1 = 0 := h49; simp [xR2, pmN, h9]) rfl (ih _ (by omega)))

set_option maxHeartbeats 4000000 in
set_option maxRecDepth 100000 in
theorem kl_X3_reachedPlaces_9 {C : jC} (E : jE C cX3_reachedPlaces 4 wsX3_reachedPlaces RX3 (some .int) ({ frames := 2, cells := 0, slots := 0, locals := 45 } : Room)) {X : va_W} {M : pM} {r : Nat} {w : Int32}  : ∀ (n p : Nat) (v : Int32), p ≤ 16 → p + n = 17 → jW C 4 9 [(0, .ref r), (1, .int w), (2, .int v), (3, .int (nI p))] [] X M 0 0 (jZ C X M (some (.int (xR2 w 16 (xR1 w n p v)))) 0 0) := by

  intro n
  induction n with
  | zero => intro p v hp hn; omega
  | succ n ih =>
    intro p v hp hn
    refine j_iload_n E dX3_reachedPlaces_9 rfl rfl ?_
    refine j_bipush (v := 16) E dX3_reachedPlaces_10 (by decide) ?_
    refine j_icmp_ge (tgt := 35) E dX3_reachedPlaces_12 (by decide) (fun h12 => ?_) (fun h12 => ?_)
    · refine j_bipush (v := 15) E dX3_reachedPlaces_35 (by decide) ?_
      refine j_istore_n E dX3_reachedPlaces_37 rfl (by decide) ?_
      exact j_lv [0, 1, 2, 3] rfl (j_r (by simp [xR1, *]) rfl (kl_X3_reachedPlaces_38 E 16 _ (by omega)))
    · refine j_iload_n E dX3_reachedPlaces_15 rfl rfl ?_
      refine j_iload_n E dX3_reachedPlaces_16 rfl rfl ?_
      refine j_ishr E dX3_reachedPlaces_17 ?_
      refine j_iconst (v := 1) E dX3_reachedPlaces_18 (by decide) ?_
      refine j_iand E dX3_reachedPlaces_19 ?_
      refine j_if_eq (tgt := 35) E dX3_reachedPlaces_20 (by decide) (fun h20 => ?_) (fun h20 => ?_)
      · refine j_bipush (v := 15) E dX3_reachedPlaces_35 (by decide) ?_
        refine j_istore_n E dX3_reachedPlaces_37 rfl (by decide) ?_
        exact j_lv [0, 1, 2, 3] rfl (j_r (by simp [xR1, *]) rfl (kl_X3_reachedPlaces_38 E 16 _ (by omega)))
      · refine j_iload_n E dX3_reachedPlaces_23 rfl rfl ?_
        refine j_iconst (v := 1) E dX3_reachedPlaces_24 (by decide) ?_
        refine j_iload_n E dX3_reachedPlaces_25 rfl rfl ?_
        refine j_ishl E dX3_reachedPlaces_26 ?_
        refine j_ior E dX3_reachedPlaces_27 ?_
        refine j_istore_n E dX3_reachedPlaces_28 rfl (by decide) ?_
        refine j_iinc E dX3_reachedPlaces_29 rfl (by decide) ?_
        refine j_goto (tgt := 9) E dX3_reachedPlaces_32 (by decide) ?_
        have hp16 : p < 16 := by
          rcases Nat.lt_or_ge p 16 with q | q
          · exact q
          · exact absurd (nI_le q (by omega)) h12
        exact j_lv [0, 1, 2, 3] rfl (by rw [nI_inc]; exact j_r (by simp [xR1, *]) rfl (ih (p + 1) _ (by omega) (by omega)))

set_option maxHeartbeats 4000000 in
set_option maxRecDepth 100000 in
theorem k_X3_reachedPlaces {l : Launch} {D : va_G} {cy : Nat → ClassId} {X : va_W} {G : pG} {M : pM} {r pa wa : Nat} {pl : Nat → Nat} (hW : wRing G r pa wa pl) : jK l yX3_reachedPlaces wsX3_reachedPlaces ({ frames := 2, cells := 0, slots := 0, locals := 45 } : Room) D cy X G M [.ref r] (some (.int (xReach M pl wa))) X M := by
  refine jK_of (own := RX3) (by decide) rfl rfl (Nat.le_of_ble_eq_true rfl) (fun C E hl hD hcy hG => ?_)
  subst hl; subst hD; subst hcy; subst hG

  have hW0 := hW
  obtain ⟨⟨hr1, hr2, hr3, hr4⟩, ⟨hp1, hp2, hp3⟩, ⟨hw1, hw2, hw3⟩, hpl⟩ := hW
  refine j_aload_n E dX3_reachedPlaces_0 rfl rfl ?_
  refine j_callV1 (ci := 3) (n := 0) E (k_X3_passableWires hW0) dX3_reachedPlaces_1 gX3_reachedPlaces_X3_passableWires rfl (by decide +kernel) ⟨rfl, rfl, by decide, by decide⟩ ⟨Nat.zero_le _, Nat.zero_le _⟩ (by assumption) (by assumption) rfl rfl rfl (Nat.le_of_ble_eq_true rfl) rfl ?_
  refine j_istore_n E dX3_reachedPlaces_4 rfl (by decide) ?_
  refine j_iconst (v := 0) E dX3_reachedPlaces_5 (by decide) ?_
  refine j_istore_n E dX3_reachedPlaces_6 rfl (by decide) ?_
  refine j_iconst (v := 0) E dX3_reachedPlaces_7 (by decide) ?_
  refine j_istore_n E dX3_reachedPlaces_8 rfl (by decide) ?_
  refine j_lv [0, 1, 2, 3] rfl ?_
  exact kl_X3_reachedPlaces_9 E 17 0 0 (by omega) (by omega)
end
section
/-! FirePanel$Pad: 0 text, 1 length, 2 at. What a reading method answers and leaves: a pair. -/
def wPad (G : pG) (P T : Nat) : Prop := P ∈ G.1 ∧ G.2.1 P = 1 ∧ G.2.2.2 P 0 = some T ∧ T ∈ G.1 ∧ G.2.1 T = 8 ∧ G.2.2.1 T = 20
theorem ix_of {x : Int32} {n : Nat} (h0 : ¬ x < 0) (h1 : ¬ nI n ≤ x) (hn : n < 2 ^ 31) : x = nI x.toNatClampNeg ∧ x.toNatClampNeg < n := by
  rcases pk_ix x hn with h | h | ⟨j, hj, e⟩
  · exact absurd h h0
  · exact absurd h h1
  · rw [e, nI_clamp (by omega)]; exact ⟨rfl, hj⟩
theorem ix_lt {x : Int32} {n : Nat} (h0 : ¬ x < 0) (h1 : x < nI n) (hn : n < 2 ^ 31) : x = nI x.toNatClampNeg ∧ x.toNatClampNeg < n := ix_of h0 (Int32.not_le.mpr h1) hn
theorem nz01 {v : Int32} (h : v = 0 ∨ v = 1) : narrow .boolean (.int v) = .int v := by rcases h with rfl | rfl <;> rfl
def xSt2 (c : Int32) : Int32 := if c = 122 then 1 else if c = 119 then 1 else if c = 102 then 1 else if c = 33 then 1 else if c = 40 then 1 else if c = 41 then 1 else if c = 38 then 1 else if c = 124 then 1 else if c = 62 then 1 else if c = 58 then 1 else 0
def xSt (c : Int32) : Int32 := if c < 48 then xSt2 c else if c ≤ 57 then 1 else xSt2 c
def xApp (M : pM) (P T : Nat) (c : Int32) : Int32 × pM := if xSt c = 0 then (0, M) else if M.1 P 1 < 0 then (0, M) else if M.1 P 1 < 20 then (1, pI (pI M T (M.1 P 1).toNatClampNeg c) P 1 (M.1 P 1 + 1)) else (0, M)
def xSee (M : pM) (P T : Nat) (c : Int32) : Int32 := if M.1 P 2 < 0 then 0 else if M.1 P 1 ≤ M.1 P 2 then 0 else if 20 ≤ M.1 P 2 then 0 else if M.1 T (M.1 P 2).toNatClampNeg = c then 1 else 0
def xPs (M : pM) (P T : Nat) (c : Int32) : Int32 × pM := if xSee M P T c = 0 then (0, M) else (1, pI M P 2 (M.1 P 2 + 1))
theorem xPs_0 {M : pM} {P T : Nat} {c : Int32} (h : (xPs M P T c).1 = 0) : (xPs M P T c).2 = M := by
  unfold xPs at h ⊢
  split at h
  · rename_i e; rw [if_pos e]
  · simp at h
theorem xPs_1 {M : pM} {P T : Nat} {c : Int32} (h : ¬ (xPs M P T c).1 = 0) : (xPs M P T c).1 = 1 := by
  unfold xPs at h ⊢
  split
  · rename_i e; rw [if_pos e] at h; simp at h
  · rfl
def xDg (M : pM) (P T : Nat) (b : Int32) : Int32 × pM := if M.1 P 2 < 0 then (-1, M) else if M.1 P 1 ≤ M.1 P 2 then (-1, M) else if M.1 P 2 < 20 then (if M.1 T (M.1 P 2).toNatClampNeg - 48 < 0 then (-1, M) else if M.1 T (M.1 P 2).toNatClampNeg - 48 < b then (M.1 T (M.1 P 2).toNatClampNeg - 48, pI M P 2 (M.1 P 2 + 1)) else (-1, M)) else (-1, M)
def xZn (M : pM) (P T r s : Nat) (f : Int32) : Int32 × pM := if (xDg M P T 4).1 = -1 then (0, (xDg M P T 4).2) else (1, xStep (xDg M P T 4).2 r s (f + (xDg M P T 4).1))
theorem xZn_01 (M : pM) (P T r s : Nat) (f : Int32) : (xZn M P T r s f).1 = 0 ∨ (xZn M P T r s f).1 = 1 := by unfold xZn; split <;> simp
def xT3 (M : pM) (P T r : Nat) : pM := pI (xDg (xPs M P T 62).2 P T 6).2 r 2 (xDg (xPs M P T 62).2 P T 6).1
def xT4 (M : pM) (P T r : Nat) : pM := if (xPs M P T 58).1 = 0 then M else pI (xDg (xPs M P T 58).2 P T 10).2 r 3 (xDg (xPs M P T 58).2 P T 10).1
def xTg (M : pM) (P T r : Nat) : Int32 × pM := if (xPs M P T 62).1 = 0 then (0, M) else if (xT3 M P T r).1 r 2 = -1 then (0, xT3 M P T r) else (if (xT4 (xT3 M P T r) P T r).1 r 3 = -1 then 0 else 1, xT4 (xT3 M P T r) P T r)
def xLeaf (P T r s : Nat) (M : pM) (k : Int32 × pM) : Int32 × pM := if (xPs M P T 122).1 = 0 then (if (xPs M P T 119).1 = 0 then (if (xPs M P T 102).1 = 0 then k else (1, xStep (xPs M P T 102).2 r s 8)) else xZn (xPs M P T 119).2 P T r s 4) else xZn (xPs M P T 122).2 P T r s 0
def xOp (M : pM) (P T : Nat) : Int32 := if xSee M P T 38 = 0 then (if xSee M P T 124 = 0 then -1 else 11) else 10
def xCl (P T r s : Nat) (tm : pM → Int32 × pM) : Nat → pM → Int32 × pM
  | 0, M => (1, M)
  | n + 1, M => if xOp M P T = -1 then (1, M) else if (tm (pI M P 2 (M.1 P 2 + 1))).1 = 0 then (0, (tm (pI M P 2 (M.1 P 2 + 1))).2) else xCl P T r s tm n (xStep (tm (pI M P 2 (M.1 P 2 + 1))).2 r s (xOp M P T))
def xCn (P T r s : Nat) (tm : pM → Int32 × pM) (M : pM) : Int32 × pM := if (tm M).1 = 0 then (0, (tm M).2) else xCl P T r s tm 20 (tm M).2
def xTm (P T r s : Nat) : Nat → pM → Int32 × pM
  | 0, M => xLeaf P T r s M (0, M)
  | f + 1, M => xLeaf P T r s M (if (xPs M P T 40).1 = 0 then (if (xPs M P T 33).1 = 0 then (0, M) else if (xTm P T r s f (xPs M P T 33).2).1 = 0 then (0, (xTm P T r s f (xPs M P T 33).2).2) else (1, xStep (xTm P T r s f (xPs M P T 33).2).2 r s 9)) else if (xCn P T r s (xTm P T r s f) (xPs M P T 40).2).1 = 0 then (0, (xCn P T r s (xTm P T r s f) (xPs M P T 40).2).2) else xPs (xCn P T r s (xTm P T r s f) (xPs M P T 40).2).2 P T 41)
def xI1 (M : pM) (P r : Nat) : pM := xClear (pI M P 2 0) r
def xRI (M : pM) (P T r s : Nat) : Int32 × pM :=
  if (xCn P T r s (xTm P T r s 4) (xI1 M P r)).1 = 0 then ((xCn P T r s (xTm P T r s 4) (xI1 M P r)).2.1 P 2, (xCn P T r s (xTm P T r s 4) (xI1 M P r)).2)
  else if (xTg (xCn P T r s (xTm P T r s 4) (xI1 M P r)).2 P T r).1 = 0 then ((xTg (xCn P T r s (xTm P T r s 4) (xI1 M P r)).2 P T r).2.1 P 2, (xTg (xCn P T r s (xTm P T r s 4) (xI1 M P r)).2 P T r).2)
  else (if (xTg (xCn P T r s (xTm P T r s 4) (xI1 M P r)).2 P T r).2.1 P 2 = (xTg (xCn P T r s (xTm P T r s 4) (xI1 M P r)).2 P T r).2.1 P 1 then -1 else (xTg (xCn P T r s (xTm P T r s 4) (xI1 M P r)).2 P T r).2.1 P 2, (xTg (xCn P T r s (xTm P T r s 4) (xI1 M P r)).2 P T r).2)
def rT (f : Nat) : Room := { frames := 2 + 2 * f, cells := 0, slots := 0, locals := 45 + 46 * f }
def rC (f : Nat) : Room := { frames := 3 + 2 * f, cells := 0, slots := 0, locals := 67 + 46 * f }

set_option maxHeartbeats 1600000 in
set_option maxRecDepth 100000 in
theorem k_X1_standsInRules {l : Launch} {D : va_G} {cy : Nat → ClassId} {X : va_W} {G : pG} {M : pM} {c : Int32}  : jK l yX1_standsInRules wsX1_standsInRules ({ frames := 0, cells := 0, slots := 0, locals := 0 } : Room) D cy X G M [.int c] (some (.int (xSt c))) X M := by
  refine jK_of (own := RX1) (by decide) rfl rfl (Nat.le_of_ble_eq_true rfl) (fun C E hl hD hcy hG => ?_)
  subst hl; subst hD; subst hcy; subst hG
  refine j_iload_n E dX1_standsInRules_0 rfl rfl ?_
  refine j_bipush (v := 48) E dX1_standsInRules_1 (by decide) ?_
  refine j_icmp_lt (tgt := 12) E dX1_standsInRules_3 (by decide) (fun h3 => ?_) (fun h3 => ?_)
  · refine j_iload_n E dX1_standsInRules_12 rfl rfl ?_
    refine j_bipush (v := 122) E dX1_standsInRules_13 (by decide) ?_
    refine j_icmp_eq (tgt := 72) E dX1_standsInRules_15 (by decide) (fun h15 => ?_) (fun h15 => ?_)
    · refine j_iconst (v := 1) E dX1_standsInRules_72 (by decide) ?_
      refine j_goto (tgt := 77) E dX1_standsInRules_73 (by decide) ?_
      exact j_zret E dX1_standsInRules_77 rfl (by first | rfl | (simp [xSt, xSt2, h3, h15]; done)) rfl (by first | rfl | (simp [xSt, xSt2, h3, h15]; done))
    · refine j_iload_n E dX1_standsInRules_18 rfl rfl ?_
      refine j_bipush (v := 119) E dX1_standsInRules_19 (by decide) ?_
      refine j_icmp_eq (tgt := 72) E dX1_standsInRules_21 (by decide) (fun h21 => ?_) (fun h21 => ?_)
      · refine j_iconst (v := 1) E dX1_standsInRules_72 (by decide) ?_
        refine j_goto (tgt := 77) E dX1_standsInRules_73 (by decide) ?_
        exact j_zret E dX1_standsInRules_77 rfl (by first | rfl | (simp [xSt, xSt2, h3, h15, h21]; done)) rfl (by first | rfl | (simp [xSt, xSt2, h3, h15, h21]; done))
      · refine j_iload_n E dX1_standsInRules_24 rfl rfl ?_
        refine j_bipush (v := 102) E dX1_standsInRules_25 (by decide) ?_
        refine j_icmp_eq (tgt := 72) E dX1_standsInRules_27 (by decide) (fun h27 => ?_) (fun h27 => ?_)
        · refine j_iconst (v := 1) E dX1_standsInRules_72 (by decide) ?_
          refine j_goto (tgt := 77) E dX1_standsInRules_73 (by decide) ?_
          exact j_zret E dX1_standsInRules_77 rfl (by first | rfl | (simp [xSt, xSt2, h3, h15, h21, h27]; done)) rfl (by first | rfl | (simp [xSt, xSt2, h3, h15, h21, h27]; done))
        · refine j_iload_n E dX1_standsInRules_30 rfl rfl ?_
          refine j_bipush (v := 33) E dX1_standsInRules_31 (by decide) ?_
          refine j_icmp_eq (tgt := 72) E dX1_standsInRules_33 (by decide) (fun h33 => ?_) (fun h33 => ?_)
          · refine j_iconst (v := 1) E dX1_standsInRules_72 (by decide) ?_
            refine j_goto (tgt := 77) E dX1_standsInRules_73 (by decide) ?_
            exact j_zret E dX1_standsInRules_77 rfl (by first | rfl | (simp [xSt, xSt2, h3, h15, h21, h27, h33]; done)) rfl (by first | rfl | (simp [xSt, xSt2, h3, h15, h21, h27, h33]; done))
          · refine j_iload_n E dX1_standsInRules_36 rfl rfl ?_
            refine j_bipush (v := 40) E dX1_standsInRules_37 (by decide) ?_
            refine j_icmp_eq (tgt := 72) E dX1_standsInRules_39 (by decide) (fun h39 => ?_) (fun h39 => ?_)
            · refine j_iconst (v := 1) E dX1_standsInRules_72 (by decide) ?_
              refine j_goto (tgt := 77) E dX1_standsInRules_73 (by decide) ?_
              exact j_zret E dX1_standsInRules_77 rfl (by first | rfl | (simp [xSt, xSt2, h3, h15, h21, h27, h33, h39]; done)) rfl (by first | rfl | (simp [xSt, xSt2, h3, h15, h21, h27, h33, h39]; done))
            · refine j_iload_n E dX1_standsInRules_42 rfl rfl ?_
              refine j_bipush (v := 41) E dX1_standsInRules_43 (by decide) ?_
              refine j_icmp_eq (tgt := 72) E dX1_standsInRules_45 (by decide) (fun h45 => ?_) (fun h45 => ?_)
              · refine j_iconst (v := 1) E dX1_standsInRules_72 (by decide) ?_
                refine j_goto (tgt := 77) E dX1_standsInRules_73 (by decide) ?_
                exact j_zret E dX1_standsInRules_77 rfl (by first | rfl | (simp [xSt, xSt2, h3, h15, h21, h27, h33, h39, h45]; done)) rfl (by first | rfl | (simp [xSt, xSt2, h3, h15, h21, h27, h33, h39, h45]; done))
              · refine j_iload_n E dX1_standsInRules_48 rfl rfl ?_
                refine j_bipush (v := 38) E dX1_standsInRules_49 (by decide) ?_
                refine j_icmp_eq (tgt := 72) E dX1_standsInRules_51 (by decide) (fun h51 => ?_) (fun h51 => ?_)
                · refine j_iconst (v := 1) E dX1_standsInRules_72 (by decide) ?_
                  refine j_goto (tgt := 77) E dX1_standsInRules_73 (by decide) ?_
                  exact j_zret E dX1_standsInRules_77 rfl (by first | rfl | (simp [xSt, xSt2, h3, h15, h21, h27, h33, h39, h45, h51]; done)) rfl (by first | rfl | (simp [xSt, xSt2, h3, h15, h21, h27, h33, h39, h45, h51]; done))
                · refine j_iload_n E dX1_standsInRules_54 rfl rfl ?_
                  refine j_bipush (v := 124) E dX1_standsInRules_55 (by decide) ?_
                  refine j_icmp_eq (tgt := 72) E dX1_standsInRules_57 (by decide) (fun h57 => ?_) (fun h57 => ?_)
                  · refine j_iconst (v := 1) E dX1_standsInRules_72 (by decide) ?_
                    refine j_goto (tgt := 77) E dX1_standsInRules_73 (by decide) ?_
                    exact j_zret E dX1_standsInRules_77 rfl (by first | rfl | (simp [xSt, xSt2, h3, h15, h21, h27, h33, h39, h45, h51, h57]; done)) rfl (by first | rfl | (simp [xSt, xSt2, h3, h15, h21, h27, h33, h39, h45, h51, h57]; done))
                  · refine j_iload_n E dX1_standsInRules_60 rfl rfl ?_
                    refine j_bipush (v := 62) E dX1_standsInRules_61 (by decide) ?_
                    refine j_icmp_eq (tgt := 72) E dX1_standsInRules_63 (by decide) (fun h63 => ?_) (fun h63 => ?_)
                    · refine j_iconst (v := 1) E dX1_standsInRules_72 (by decide) ?_
                      refine j_goto (tgt := 77) E dX1_standsInRules_73 (by decide) ?_
                      exact j_zret E dX1_standsInRules_77 rfl (by first | rfl | (simp [xSt, xSt2, h3, h15, h21, h27, h33, h39, h45, h51, h57, h63]; done)) rfl (by first | rfl | (simp [xSt, xSt2, h3, h15, h21, h27, h33, h39, h45, h51, h57, h63]; done))
                    · refine j_iload_n E dX1_standsInRules_66 rfl rfl ?_
                      refine j_bipush (v := 58) E dX1_standsInRules_67 (by decide) ?_
                      refine j_icmp_ne (tgt := 76) E dX1_standsInRules_69 (by decide) (fun h69 => ?_) (fun h69 => ?_)
                      · refine j_iconst (v := 0) E dX1_standsInRules_76 (by decide) ?_
                        exact j_zret E dX1_standsInRules_77 rfl (by first | rfl | (simp [xSt, xSt2, h3, h15, h21, h27, h33, h39, h45, h51, h57, h63, h69]; done)) rfl (by first | rfl | (simp [xSt, xSt2, h3, h15, h21, h27, h33, h39, h45, h51, h57, h63, h69]; done))
                      · refine j_iconst (v := 1) E dX1_standsInRules_72 (by decide) ?_
                        refine j_goto (tgt := 77) E dX1_standsInRules_73 (by decide) ?_
                        exact j_zret E dX1_standsInRules_77 rfl (by first | rfl | (simp [xSt, xSt2, h3, h15, h21, h27, h33, h39, h45, h51, h57, h63, h69]; done)) rfl (by first | rfl | (simp [xSt, xSt2, h3, h15, h21, h27, h33, h39, h45, h51, h57, h63, h69]; done))
  · refine j_iload_n E dX1_standsInRules_6 rfl rfl ?_
    refine j_bipush (v := 57) E dX1_standsInRules_7 (by decide) ?_
    refine j_icmp_le (tgt := 72) E dX1_standsInRules_9 (by decide) (fun h9 => ?_) (fun h9 => ?_)
    · refine j_iconst (v := 1) E dX1_standsInRules_72 (by decide) ?_
      refine j_goto (tgt := 77) E dX1_standsInRules_73 (by decide) ?_
      exact j_zret E dX1_standsInRules_77 rfl (by first | rfl | (simp [xSt, xSt2, h3, h9]; done)) rfl (by first | rfl | (simp [xSt, xSt2, h3, h9]; done))
    · refine j_iload_n E dX1_standsInRules_12 rfl rfl ?_
      refine j_bipush (v := 122) E dX1_standsInRules_13 (by decide) ?_
      refine j_icmp_eq (tgt := 72) E dX1_standsInRules_15 (by decide) (fun h15 => ?_) (fun h15 => ?_)
      · refine j_iconst (v := 1) E dX1_standsInRules_72 (by decide) ?_
        refine j_goto (tgt := 77) E dX1_standsInRules_73 (by decide) ?_
        exact j_zret E dX1_standsInRules_77 rfl (by first | rfl | (simp [xSt, xSt2, h3, h9, h15]; done)) rfl (by first | rfl | (simp [xSt, xSt2, h3, h9, h15]; done))
      · refine j_iload_n E dX1_standsInRules_18 rfl rfl ?_
        refine j_bipush (v := 119) E dX1_standsInRules_19 (by decide) ?_
        refine j_icmp_eq (tgt := 72) E dX1_standsInRules_21 (by decide) (fun h21 => ?_) (fun h21 => ?_)
        · refine j_iconst (v := 1) E dX1_standsInRules_72 (by decide) ?_
          refine j_goto (tgt := 77) E dX1_standsInRules_73 (by decide) ?_
          exact j_zret E dX1_standsInRules_77 rfl (by first | rfl | (simp [xSt, xSt2, h3, h9, h15, h21]; done)) rfl (by first | rfl | (simp [xSt, xSt2, h3, h9, h15, h21]; done))
        · refine j_iload_n E dX1_standsInRules_24 rfl rfl ?_
          refine j_bipush (v := 102) E dX1_standsInRules_25 (by decide) ?_
          refine j_icmp_eq (tgt := 72) E dX1_standsInRules_27 (by decide) (fun h27 => ?_) (fun h27 => ?_)
          · refine j_iconst (v := 1) E dX1_standsInRules_72 (by decide) ?_
            refine j_goto (tgt := 77) E dX1_standsInRules_73 (by decide) ?_
            exact j_zret E dX1_standsInRules_77 rfl (by first | rfl | (simp [xSt, xSt2, h3, h9, h15, h21, h27]; done)) rfl (by first | rfl | (simp [xSt, xSt2, h3, h9, h15, h21, h27]; done))
          · refine j_iload_n E dX1_standsInRules_30 rfl rfl ?_
            refine j_bipush (v := 33) E dX1_standsInRules_31 (by decide) ?_
            refine j_icmp_eq (tgt := 72) E dX1_standsInRules_33 (by decide) (fun h33 => ?_) (fun h33 => ?_)
            · refine j_iconst (v := 1) E dX1_standsInRules_72 (by decide) ?_
              refine j_goto (tgt := 77) E dX1_standsInRules_73 (by decide) ?_
              exact j_zret E dX1_standsInRules_77 rfl (by first | rfl | (simp [xSt, xSt2, h3, h9, h15, h21, h27, h33]; done)) rfl (by first | rfl | (simp [xSt, xSt2, h3, h9, h15, h21, h27, h33]; done))
            · refine j_iload_n E dX1_standsInRules_36 rfl rfl ?_
              refine j_bipush (v := 40) E dX1_standsInRules_37 (by decide) ?_
              refine j_icmp_eq (tgt := 72) E dX1_standsInRules_39 (by decide) (fun h39 => ?_) (fun h39 => ?_)
              · refine j_iconst (v := 1) E dX1_standsInRules_72 (by decide) ?_
                refine j_goto (tgt := 77) E dX1_standsInRules_73 (by decide) ?_
                exact j_zret E dX1_standsInRules_77 rfl (by first | rfl | (simp [xSt, xSt2, h3, h9, h15, h21, h27, h33, h39]; done)) rfl (by first | rfl | (simp [xSt, xSt2, h3, h9, h15, h21, h27, h33, h39]; done))
              · refine j_iload_n E dX1_standsInRules_42 rfl rfl ?_
                refine j_bipush (v := 41) E dX1_standsInRules_43 (by decide) ?_
                refine j_icmp_eq (tgt := 72) E dX1_standsInRules_45 (by decide) (fun h45 => ?_) (fun h45 => ?_)
                · refine j_iconst (v := 1) E dX1_standsInRules_72 (by decide) ?_
                  refine j_goto (tgt := 77) E dX1_standsInRules_73 (by decide) ?_
                  exact j_zret E dX1_standsInRules_77 rfl (by first | rfl | (simp [xSt, xSt2, h3, h9, h15, h21, h27, h33, h39, h45]; done)) rfl (by first | rfl | (simp [xSt, xSt2, h3, h9, h15, h21, h27, h33, h39, h45]; done))
                · refine j_iload_n E dX1_standsInRules_48 rfl rfl ?_
                  refine j_bipush (v := 38) E dX1_standsInRules_49 (by decide) ?_
                  refine j_icmp_eq (tgt := 72) E dX1_standsInRules_51 (by decide) (fun h51 => ?_) (fun h51 => ?_)
                  · refine j_iconst (v := 1) E dX1_standsInRules_72 (by decide) ?_
                    refine j_goto (tgt := 77) E dX1_standsInRules_73 (by decide) ?_
                    exact j_zret E dX1_standsInRules_77 rfl (by first | rfl | (simp [xSt, xSt2, h3, h9, h15, h21, h27, h33, h39, h45, h51]; done)) rfl (by first | rfl | (simp [xSt, xSt2, h3, h9, h15, h21, h27, h33, h39, h45, h51]; done))
                  · refine j_iload_n E dX1_standsInRules_54 rfl rfl ?_
                    refine j_bipush (v := 124) E dX1_standsInRules_55 (by decide) ?_
                    refine j_icmp_eq (tgt := 72) E dX1_standsInRules_57 (by decide) (fun h57 => ?_) (fun h57 => ?_)
                    · refine j_iconst (v := 1) E dX1_standsInRules_72 (by decide) ?_
                      refine j_goto (tgt := 77) E dX1_standsInRules_73 (by decide) ?_
                      exact j_zret E dX1_standsInRules_77 rfl (by first | rfl | (simp [xSt, xSt2, h3, h9, h15, h21, h27, h33, h39, h45, h51, h57]; done)) rfl (by first | rfl | (simp [xSt, xSt2, h3, h9, h15, h21, h27, h33, h39, h45, h51, h57]; done))
                    · refine j_iload_n E dX1_standsInRules_60 rfl rfl ?_
                      refine j_bipush (v := 62) E dX1_standsInRules_61 (by decide) ?_
                      refine j_icmp_eq (tgt := 72) E dX1_standsInRules_63 (by decide) (fun h63 => ?_) (fun h63 => ?_)
                      · refine j_iconst (v := 1) E dX1_standsInRules_72 (by decide) ?_
                        refine j_goto (tgt := 77) E dX1_standsInRules_73 (by decide) ?_
                        exact j_zret E dX1_standsInRules_77 rfl (by first | rfl | (simp [xSt, xSt2, h3, h9, h15, h21, h27, h33, h39, h45, h51, h57, h63]; done)) rfl (by first | rfl | (simp [xSt, xSt2, h3, h9, h15, h21, h27, h33, h39, h45, h51, h57, h63]; done))
                      · refine j_iload_n E dX1_standsInRules_66 rfl rfl ?_
                        refine j_bipush (v := 58) E dX1_standsInRules_67 (by decide) ?_
                        refine j_icmp_ne (tgt := 76) E dX1_standsInRules_69 (by decide) (fun h69 => ?_) (fun h69 => ?_)
                        · refine j_iconst (v := 0) E dX1_standsInRules_76 (by decide) ?_
                          exact j_zret E dX1_standsInRules_77 rfl (by first | rfl | (simp [xSt, xSt2, h3, h9, h15, h21, h27, h33, h39, h45, h51, h57, h63, h69]; done)) rfl (by first | rfl | (simp [xSt, xSt2, h3, h9, h15, h21, h27, h33, h39, h45, h51, h57, h63, h69]; done))
                        · refine j_iconst (v := 1) E dX1_standsInRules_72 (by decide) ?_
                          refine j_goto (tgt := 77) E dX1_standsInRules_73 (by decide) ?_
                          exact j_zret E dX1_standsInRules_77 rfl (by first | rfl | (simp [xSt, xSt2, h3, h9, h15, h21, h27, h33, h39, h45, h51, h57, h63, h69]; done)) rfl (by first | rfl | (simp [xSt, xSt2, h3, h9, h15, h21, h27, h33, h39, h45, h51, h57, h63, h69]; done))

set_option maxHeartbeats 1600000 in
set_option maxRecDepth 100000 in
theorem k_X1_append {l : Launch} {D : va_G} {cy : Nat → ClassId} {X : va_W} {G : pG} {M : pM} {P T : Nat} {c : Int32} (hW : wPad G P T) (hc : vp_nar .char c = c) : jK l yX1_append wsX1_append ({ frames := 1, cells := 0, slots := 0, locals := 20 } : Room) D cy X G M [.ref P, .int c] (some (.int (xApp M P T c).1)) X (xApp M P T c).2 := by
  refine jK_of (own := RX1) (by decide) rfl rfl (Nat.le_of_ble_eq_true rfl) (fun C E hl hD hcy hG => ?_)
  subst hl; subst hD; subst hcy; subst hG
  have hinX1 : ∀ w ∈ u_ws RX1 TX1 3, w ∈ wsX1_append := by decide +kernel
  obtain ⟨hP1, hP2, hP3, hT1, hT2, hT3⟩ := hW
  have hne : P ≠ T := ne_kind hP2 hT2 (by decide)
  refine j_iload_n E dX1_append_0 rfl rfl ?_
  refine j_callS1 (n := 1) E (k_X1_standsInRules ) dX1_append_1 gX1_append_X1_standsInRules rfl (by decide +kernel) ⟨rfl, rfl, by decide, by decide⟩ ⟨Nat.zero_le _, Nat.zero_le _⟩ rfl rfl (Nat.le_of_ble_eq_true rfl) rfl ?_
  refine j_if_eq (tgt := 23) E dX1_append_4 (by decide) (fun h4 => ?_) (fun h4 => ?_)
  · refine j_iconst (v := 0) E dX1_append_23 (by decide) ?_
    exact j_zret E dX1_append_24 rfl (by first | rfl | (simp [xApp, h4]; done)) rfl (by first | rfl | (simp [xApp, h4]; done))
  · refine j_aload_n E dX1_append_7 rfl rfl ?_
    refine j_getI (ci := 1) (k := 1) (Cn := RX1) (T := TX1) (N := 3) E dX1_append_8 (by assumption) (by assumption) rfl (by decide) hinX1 (by decide +kernel) rfl ?_
    refine j_if_lt (tgt := 23) E dX1_append_11 (by decide) (fun h11 => ?_) (fun h11 => ?_)
    · refine j_iconst (v := 0) E dX1_append_23 (by decide) ?_
      exact j_zret E dX1_append_24 rfl (by first | rfl | (simp [xApp, h4, h11]; done)) rfl (by first | rfl | (simp [xApp, h4, h11]; done))
    · refine j_aload_n E dX1_append_14 rfl rfl ?_
      refine j_getI (ci := 1) (k := 1) (Cn := RX1) (T := TX1) (N := 3) E dX1_append_15 (by assumption) (by assumption) rfl (by decide) hinX1 (by decide +kernel) rfl ?_
      refine j_bipush (v := 20) E dX1_append_18 (by decide) ?_
      refine j_icmp_lt (tgt := 25) E dX1_append_20 (by decide) (fun h20 => ?_) (fun h20 => ?_)
      · refine j_aload_n E dX1_append_25 rfl rfl ?_
        refine j_getP (ci := 1) (k := 0) (Cn := RX1) (T := TX1) (N := 3) E dX1_append_26 (by assumption) (by assumption) rfl (by decide) hinX1 (by decide +kernel) rfl (by assumption) ?_
        refine j_aload_n E dX1_append_29 rfl rfl ?_
        refine j_getI (ci := 1) (k := 1) (Cn := RX1) (T := TX1) (N := 3) E dX1_append_30 (by assumption) (by assumption) rfl (by decide) hinX1 (by decide +kernel) rfl ?_
        refine j_iload_n E dX1_append_33 rfl rfl ?_
        refine j_cast E dX1_append_34 (by assumption) (by assumption) (ix_lt h11 h20 (by decide)).1 (ix_lt h11 h20 (by decide)).2 (by decide) (by assumption) hc ?_
        refine j_aload_n E dX1_append_35 rfl rfl ?_
        refine j_dup E dX1_append_36 rfl ?_
        refine j_getI (ci := 1) (k := 1) (Cn := RX1) (T := TX1) (N := 3) E dX1_append_37 (by assumption) (by assumption) rfl (by decide) hinX1 (by decide +kernel) rfl ?_
        try simp only [pI_rd, pF_rd, pR_rd, pI_2, pF_1, pR_2, Nat.reduceEqDiff, ↓reduceIte, (fun M k v => pI_1n M k v hne)]
        refine j_iconst (v := 1) E dX1_append_40 (by decide) ?_
        refine j_iadd E dX1_append_41 ?_
        refine j_putI (ci := 1) (k := 1) (Cn := RX1) (T := TX1) (N := 3) E dX1_append_42 (by assumption) (by assumption) rfl (by decide) hinX1 (by decide +kernel) rfl tyX1 tyX1_ok nmX1 rfl rfl rfl rfl ?_
        refine j_iconst (v := 1) E dX1_append_45 (by decide) ?_
        exact j_zret E dX1_append_46 rfl (by first | rfl | (simp [xApp, h4, h11, h20]; done)) rfl (by first | rfl | (simp [xApp, h4, h11, h20]; done))
      · refine j_iconst (v := 0) E dX1_append_23 (by decide) ?_
        exact j_zret E dX1_append_24 rfl (by first | rfl | (simp [xApp, h4, h11, h20]; done)) rfl (by first | rfl | (simp [xApp, h4, h11, h20]; done))

set_option maxHeartbeats 1600000 in
set_option maxRecDepth 100000 in
theorem k_X1_sees {l : Launch} {D : va_G} {cy : Nat → ClassId} {X : va_W} {G : pG} {M : pM} {P T : Nat} {c : Int32} (hW : wPad G P T) : jK l yX1_sees wsX1_sees ({ frames := 0, cells := 0, slots := 0, locals := 0 } : Room) D cy X G M [.ref P, .int c] (some (.int (xSee M P T c))) X M := by
  refine jK_of (own := RX1) (by decide) rfl rfl (Nat.le_of_ble_eq_true rfl) (fun C E hl hD hcy hG => ?_)
  subst hl; subst hD; subst hcy; subst hG
  have hinX1 : ∀ w ∈ u_ws RX1 TX1 3, w ∈ wsX1_sees := by decide +kernel
  obtain ⟨hP1, hP2, hP3, hT1, hT2, hT3⟩ := hW
  refine j_aload_n E dX1_sees_0 rfl rfl ?_
  refine j_getI (ci := 1) (k := 2) (Cn := RX1) (T := TX1) (N := 3) E dX1_sees_1 (by assumption) (by assumption) rfl (by decide) hinX1 (by decide +kernel) rfl ?_
  refine j_if_lt (tgt := 44) E dX1_sees_4 (by decide) (fun h4 => ?_) (fun h4 => ?_)
  · refine j_iconst (v := 0) E dX1_sees_44 (by decide) ?_
    exact j_zret E dX1_sees_45 rfl (by first | rfl | (simp [xSee, h4]; done)) rfl (by first | rfl | (simp [xSee, h4]; done))
  · refine j_aload_n E dX1_sees_7 rfl rfl ?_
    refine j_getI (ci := 1) (k := 2) (Cn := RX1) (T := TX1) (N := 3) E dX1_sees_8 (by assumption) (by assumption) rfl (by decide) hinX1 (by decide +kernel) rfl ?_
    refine j_aload_n E dX1_sees_11 rfl rfl ?_
    refine j_getI (ci := 1) (k := 1) (Cn := RX1) (T := TX1) (N := 3) E dX1_sees_12 (by assumption) (by assumption) rfl (by decide) hinX1 (by decide +kernel) rfl ?_
    refine j_icmp_ge (tgt := 44) E dX1_sees_15 (by decide) (fun h15 => ?_) (fun h15 => ?_)
    · refine j_iconst (v := 0) E dX1_sees_44 (by decide) ?_
      exact j_zret E dX1_sees_45 rfl (by first | rfl | (simp [xSee, h4, h15]; done)) rfl (by first | rfl | (simp [xSee, h4, h15]; done))
    · refine j_aload_n E dX1_sees_18 rfl rfl ?_
      refine j_getI (ci := 1) (k := 2) (Cn := RX1) (T := TX1) (N := 3) E dX1_sees_19 (by assumption) (by assumption) rfl (by decide) hinX1 (by decide +kernel) rfl ?_
      refine j_bipush (v := 20) E dX1_sees_22 (by decide) ?_
      refine j_icmp_ge (tgt := 44) E dX1_sees_24 (by decide) (fun h24 => ?_) (fun h24 => ?_)
      · refine j_iconst (v := 0) E dX1_sees_44 (by decide) ?_
        exact j_zret E dX1_sees_45 rfl (by first | rfl | (simp [xSee, h4, h15, h24]; done)) rfl (by first | rfl | (simp [xSee, h4, h15, h24]; done))
      · refine j_aload_n E dX1_sees_27 rfl rfl ?_
        refine j_getP (ci := 1) (k := 0) (Cn := RX1) (T := TX1) (N := 3) E dX1_sees_28 (by assumption) (by assumption) rfl (by decide) hinX1 (by decide +kernel) rfl (by assumption) ?_
        refine j_aload_n E dX1_sees_31 rfl rfl ?_
        refine j_getI (ci := 1) (k := 2) (Cn := RX1) (T := TX1) (N := 3) E dX1_sees_32 (by assumption) (by assumption) rfl (by decide) hinX1 (by decide +kernel) rfl ?_
        refine j_cald E dX1_sees_35 (by assumption) (by assumption) (ix_of h4 h24 (by decide)).1 (ix_of h4 h24 (by decide)).2 (by decide) (by assumption) ?_
        refine j_iload_n E dX1_sees_36 rfl rfl ?_
        refine j_icmp_ne (tgt := 44) E dX1_sees_37 (by decide) (fun h37 => ?_) (fun h37 => ?_)
        · refine j_iconst (v := 0) E dX1_sees_44 (by decide) ?_
          exact j_zret E dX1_sees_45 rfl (by first | rfl | (simp [xSee, h4, h15, h24, h37]; done)) rfl (by first | rfl | (simp [xSee, h4, h15, h24, h37]; done))
        · refine j_iconst (v := 1) E dX1_sees_40 (by decide) ?_
          refine j_goto (tgt := 45) E dX1_sees_41 (by decide) ?_
          exact j_zret E dX1_sees_45 rfl (by first | rfl | (simp [xSee, h4, h15, h24, h37]; done)) rfl (by first | rfl | (simp [xSee, h4, h15, h24, h37]; done))

set_option maxHeartbeats 1600000 in
set_option maxRecDepth 100000 in
theorem k_X1_passes {l : Launch} {D : va_G} {cy : Nat → ClassId} {X : va_W} {G : pG} {M : pM} {P T : Nat} {c : Int32} (hW : wPad G P T) : jK l yX1_passes wsX1_passes ({ frames := 1, cells := 0, slots := 0, locals := 21 } : Room) D cy X G M [.ref P, .int c] (some (.int (xPs M P T c).1)) X (xPs M P T c).2 := by
  refine jK_of (own := RX1) (by decide) rfl rfl (Nat.le_of_ble_eq_true rfl) (fun C E hl hD hcy hG => ?_)
  subst hl; subst hD; subst hcy; subst hG
  have hinX1 : ∀ w ∈ u_ws RX1 TX1 3, w ∈ wsX1_passes := by decide +kernel
  have hW0 := hW
  obtain ⟨hP1, hP2, hP3, hT1, hT2, hT3⟩ := hW
  refine j_aload_n E dX1_passes_0 rfl rfl ?_
  refine j_iload_n E dX1_passes_1 rfl rfl ?_
  refine j_callV1 (ci := 1) (n := 1) E (k_X1_sees hW0) dX1_passes_2 gX1_passes_X1_sees rfl (by decide +kernel) ⟨rfl, rfl, by decide, by decide⟩ ⟨Nat.zero_le _, Nat.zero_le _⟩ (by assumption) (by assumption) rfl rfl rfl (Nat.le_of_ble_eq_true rfl) rfl ?_
  refine j_if_ne (tgt := 10) E dX1_passes_5 (by decide) (fun h5 => ?_) (fun h5 => ?_)
  · refine j_aload_n E dX1_passes_10 rfl rfl ?_
    refine j_dup E dX1_passes_11 rfl ?_
    refine j_getI (ci := 1) (k := 2) (Cn := RX1) (T := TX1) (N := 3) E dX1_passes_12 (by assumption) (by assumption) rfl (by decide) hinX1 (by decide +kernel) rfl ?_
    refine j_iconst (v := 1) E dX1_passes_15 (by decide) ?_
    refine j_iadd E dX1_passes_16 ?_
    refine j_putI (ci := 1) (k := 2) (Cn := RX1) (T := TX1) (N := 3) E dX1_passes_17 (by assumption) (by assumption) rfl (by decide) hinX1 (by decide +kernel) rfl tyX1 tyX1_ok nmX1 rfl rfl rfl rfl ?_
    refine j_iconst (v := 1) E dX1_passes_20 (by decide) ?_
    exact j_zret E dX1_passes_21 rfl (by first | rfl | (simp [xPs, h5]; done)) rfl (by first | rfl | (simp [xPs, h5]; done))
  · refine j_iconst (v := 0) E dX1_passes_8 (by decide) ?_
    exact j_zret E dX1_passes_9 rfl (by first | rfl | (simp [xPs, h5]; done)) rfl (by first | rfl | (simp [xPs, h5]; done))

set_option maxHeartbeats 1600000 in
set_option maxRecDepth 100000 in
theorem k_X1_readDigit {l : Launch} {D : va_G} {cy : Nat → ClassId} {X : va_W} {G : pG} {M : pM} {P T : Nat} {b : Int32} (hW : wPad G P T) : jK l yX1_readDigit wsX1_readDigit ({ frames := 0, cells := 0, slots := 0, locals := 0 } : Room) D cy X G M [.ref P, .int b] (some (.int (xDg M P T b).1)) X (xDg M P T b).2 := by
  refine jK_of (own := RX1) (by decide) rfl rfl (Nat.le_of_ble_eq_true rfl) (fun C E hl hD hcy hG => ?_)
  subst hl; subst hD; subst hcy; subst hG
  have hinX1 : ∀ w ∈ u_ws RX1 TX1 3, w ∈ wsX1_readDigit := by decide +kernel
  obtain ⟨hP1, hP2, hP3, hT1, hT2, hT3⟩ := hW
  refine j_aload_n E dX1_readDigit_0 rfl rfl ?_
  refine j_getI (ci := 1) (k := 2) (Cn := RX1) (T := TX1) (N := 3) E dX1_readDigit_1 (by assumption) (by assumption) rfl (by decide) hinX1 (by decide +kernel) rfl ?_
  refine j_if_lt (tgt := 27) E dX1_readDigit_4 (by decide) (fun h4 => ?_) (fun h4 => ?_)
  · refine j_iconst (v := -1) E dX1_readDigit_27 (by decide) ?_
    exact j_iret E dX1_readDigit_28 (by first | rfl | (simp [xDg, h4]; done)) rfl (by first | rfl | (simp [xDg, h4]; done))
  · refine j_aload_n E dX1_readDigit_7 rfl rfl ?_
    refine j_getI (ci := 1) (k := 2) (Cn := RX1) (T := TX1) (N := 3) E dX1_readDigit_8 (by assumption) (by assumption) rfl (by decide) hinX1 (by decide +kernel) rfl ?_
    refine j_aload_n E dX1_readDigit_11 rfl rfl ?_
    refine j_getI (ci := 1) (k := 1) (Cn := RX1) (T := TX1) (N := 3) E dX1_readDigit_12 (by assumption) (by assumption) rfl (by decide) hinX1 (by decide +kernel) rfl ?_
    refine j_icmp_ge (tgt := 27) E dX1_readDigit_15 (by decide) (fun h15 => ?_) (fun h15 => ?_)
    · refine j_iconst (v := -1) E dX1_readDigit_27 (by decide) ?_
      exact j_iret E dX1_readDigit_28 (by first | rfl | (simp [xDg, h4, h15]; done)) rfl (by first | rfl | (simp [xDg, h4, h15]; done))
    · refine j_aload_n E dX1_readDigit_18 rfl rfl ?_
      refine j_getI (ci := 1) (k := 2) (Cn := RX1) (T := TX1) (N := 3) E dX1_readDigit_19 (by assumption) (by assumption) rfl (by decide) hinX1 (by decide +kernel) rfl ?_
      refine j_bipush (v := 20) E dX1_readDigit_22 (by decide) ?_
      refine j_icmp_lt (tgt := 29) E dX1_readDigit_24 (by decide) (fun h24 => ?_) (fun h24 => ?_)
      · refine j_aload_n E dX1_readDigit_29 rfl rfl ?_
        refine j_getP (ci := 1) (k := 0) (Cn := RX1) (T := TX1) (N := 3) E dX1_readDigit_30 (by assumption) (by assumption) rfl (by decide) hinX1 (by decide +kernel) rfl (by assumption) ?_
        refine j_aload_n E dX1_readDigit_33 rfl rfl ?_
        refine j_getI (ci := 1) (k := 2) (Cn := RX1) (T := TX1) (N := 3) E dX1_readDigit_34 (by assumption) (by assumption) rfl (by decide) hinX1 (by decide +kernel) rfl ?_
        refine j_cald E dX1_readDigit_37 (by assumption) (by assumption) (ix_lt h4 h24 (by decide)).1 (ix_lt h4 h24 (by decide)).2 (by decide) (by assumption) ?_
        refine j_bipush (v := 48) E dX1_readDigit_38 (by decide) ?_
        refine j_isub E dX1_readDigit_40 ?_
        refine j_istore_n E dX1_readDigit_41 rfl (by decide) ?_
        refine j_iload_n E dX1_readDigit_42 rfl rfl ?_
        refine j_if_lt (tgt := 51) E dX1_readDigit_43 (by decide) (fun h43 => ?_) (fun h43 => ?_)
        · refine j_iconst (v := -1) E dX1_readDigit_51 (by decide) ?_
          exact j_iret E dX1_readDigit_52 (by first | rfl | (simp [xDg, h4, h15, h24, h43]; done)) rfl (by first | rfl | (simp [xDg, h4, h15, h24, h43]; done))
        · refine j_iload_n E dX1_readDigit_46 rfl rfl ?_
          refine j_iload_n E dX1_readDigit_47 rfl rfl ?_
          refine j_icmp_lt (tgt := 53) E dX1_readDigit_48 (by decide) (fun h48 => ?_) (fun h48 => ?_)
          · refine j_aload_n E dX1_readDigit_53 rfl rfl ?_
            refine j_dup E dX1_readDigit_54 rfl ?_
            refine j_getI (ci := 1) (k := 2) (Cn := RX1) (T := TX1) (N := 3) E dX1_readDigit_55 (by assumption) (by assumption) rfl (by decide) hinX1 (by decide +kernel) rfl ?_
            refine j_iconst (v := 1) E dX1_readDigit_58 (by decide) ?_
            refine j_iadd E dX1_readDigit_59 ?_
            refine j_putI (ci := 1) (k := 2) (Cn := RX1) (T := TX1) (N := 3) E dX1_readDigit_60 (by assumption) (by assumption) rfl (by decide) hinX1 (by decide +kernel) rfl tyX1 tyX1_ok nmX1 rfl rfl rfl rfl ?_
            refine j_iload_n E dX1_readDigit_63 rfl rfl ?_
            exact j_iret E dX1_readDigit_64 (by first | rfl | (simp [xDg, h4, h15, h24, h43, h48]; done)) rfl (by first | rfl | (simp [xDg, h4, h15, h24, h43, h48]; done))
          · refine j_iconst (v := -1) E dX1_readDigit_51 (by decide) ?_
            exact j_iret E dX1_readDigit_52 (by first | rfl | (simp [xDg, h4, h15, h24, h43, h48]; done)) rfl (by first | rfl | (simp [xDg, h4, h15, h24, h43, h48]; done))
      · refine j_iconst (v := -1) E dX1_readDigit_27 (by decide) ?_
        exact j_iret E dX1_readDigit_28 (by first | rfl | (simp [xDg, h4, h15, h24]; done)) rfl (by first | rfl | (simp [xDg, h4, h15, h24]; done))

set_option maxHeartbeats 1600000 in
set_option maxRecDepth 100000 in
theorem k_X1_readZone {l : Launch} {D : va_G} {cy : Nat → ClassId} {X : va_W} {G : pG} {M : pM} {P T r s : Nat} {f : Int32} (hW : wPad G P T) (hR : wRule G r s) : jK l yX1_readZone wsX1_readZone ({ frames := 1, cells := 0, slots := 0, locals := 22 } : Room) D cy X G M [.ref P, .ref r, .int f] (some (.int (xZn M P T r s f).1)) X (xZn M P T r s f).2 := by
  refine jK_of (own := RX1) (by decide) rfl rfl (Nat.le_of_ble_eq_true rfl) (fun C E hl hD hcy hG => ?_)
  subst hl; subst hD; subst hcy; subst hG
  have hW0 := hW
  have hR0 := hR
  obtain ⟨hP1, hP2, hP3, hT1, hT2, hT3⟩ := hW
  obtain ⟨hr1, hr2, hr3, hs1, hs2, hs3⟩ := hR
  refine j_aload_n E dX1_readZone_0 rfl rfl ?_
  refine j_iconst (v := 4) E dX1_readZone_1 (by decide) ?_
  refine j_callV1 (ci := 1) (n := 1) E (k_X1_readDigit hW0) dX1_readZone_2 gX1_readZone_X1_readDigit rfl (by decide +kernel) ⟨rfl, rfl, by decide, by decide⟩ ⟨Nat.zero_le _, Nat.zero_le _⟩ (by assumption) (by assumption) rfl rfl rfl (Nat.le_of_ble_eq_true rfl) rfl ?_
  refine j_istore_n E dX1_readZone_5 rfl (by decide) ?_
  refine j_iload_n E dX1_readZone_6 rfl rfl ?_
  refine j_iconst (v := -1) E dX1_readZone_7 (by decide) ?_
  refine j_icmp_ne (tgt := 13) E dX1_readZone_8 (by decide) (fun h8 => ?_) (fun h8 => ?_)
  · refine j_aload_n E dX1_readZone_13 rfl rfl ?_
    refine j_iload_n E dX1_readZone_14 rfl rfl ?_
    refine j_iload_n E dX1_readZone_15 rfl rfl ?_
    refine j_iadd E dX1_readZone_16 ?_
    refine j_callV0 (ci := 4) (n := 1) E (k_X4_addStep hR0) dX1_readZone_17 gX1_readZone_X4_addStep rfl (by decide +kernel) ⟨rfl, rfl, by decide, by decide⟩ ⟨Nat.zero_le _, Nat.zero_le _⟩ (by assumption) (by assumption) rfl rfl rfl (Nat.le_of_ble_eq_true rfl) rfl ?_
    refine j_iconst (v := 1) E dX1_readZone_20 (by decide) ?_
    exact j_zret E dX1_readZone_21 rfl (by first | rfl | (simp [xZn, h8]; done)) rfl (by first | rfl | (simp [xZn, h8]; done))
  · refine j_iconst (v := 0) E dX1_readZone_11 (by decide) ?_
    exact j_zret E dX1_readZone_12 rfl (by first | rfl | (simp [xZn, h8]; done)) rfl (by first | rfl | (simp [xZn, h8]; done))

set_option maxHeartbeats 1600000 in
set_option maxRecDepth 100000 in
theorem k_X1_readTarget {l : Launch} {D : va_G} {cy : Nat → ClassId} {X : va_W} {G : pG} {M : pM} {P T r s : Nat} (hW : wPad G P T) (hR : wRule G r s) : jK l yX1_readTarget wsX1_readTarget ({ frames := 2, cells := 0, slots := 0, locals := 42 } : Room) D cy X G M [.ref P, .ref r] (some (.int (xTg M P T r).1)) X (xTg M P T r).2 := by
  refine jK_of (own := RX1) (by decide) rfl rfl (Nat.le_of_ble_eq_true rfl) (fun C E hl hD hcy hG => ?_)
  subst hl; subst hD; subst hcy; subst hG
  have hinX4 : ∀ w ∈ u_ws RX4 TX4 5, w ∈ wsX1_readTarget := by decide +kernel
  have hW0 := hW
  have hR0 := hR
  obtain ⟨hP1, hP2, hP3, hT1, hT2, hT3⟩ := hW
  obtain ⟨hr1, hr2, hr3, hs1, hs2, hs3⟩ := hR
  refine j_aload_n E dX1_readTarget_0 rfl rfl ?_
  refine j_bipush (v := 62) E dX1_readTarget_1 (by decide) ?_
  refine j_callV1 (ci := 1) (n := 1) E (k_X1_passes hW0) dX1_readTarget_3 gX1_readTarget_X1_passes rfl (by decide +kernel) ⟨rfl, rfl, by decide, by decide⟩ ⟨Nat.zero_le _, Nat.zero_le _⟩ (by assumption) (by assumption) rfl rfl rfl (Nat.le_of_ble_eq_true rfl) rfl ?_
  refine j_if_ne (tgt := 11) E dX1_readTarget_6 (by decide) (fun h6 => ?_) (fun h6 => ?_)
  · refine j_aload_n E dX1_readTarget_11 rfl rfl ?_
    refine j_aload_n E dX1_readTarget_12 rfl rfl ?_
    refine j_bipush (v := 6) E dX1_readTarget_13 (by decide) ?_
    refine j_callV1 (ci := 1) (n := 1) E (k_X1_readDigit hW0) dX1_readTarget_15 gX1_readTarget_X1_readDigit rfl (by decide +kernel) ⟨rfl, rfl, by decide, by decide⟩ ⟨Nat.zero_le _, Nat.zero_le _⟩ (by assumption) (by assumption) rfl rfl rfl (Nat.le_of_ble_eq_true rfl) rfl ?_
    refine j_putI (ci := 4) (k := 2) (Cn := RX4) (T := TX4) (N := 5) E dX1_readTarget_18 (by assumption) (by assumption) rfl (by decide) hinX4 (by decide +kernel) rfl tyX4 tyX4_ok nmX4 rfl rfl rfl rfl ?_
    refine j_aload_n E dX1_readTarget_21 rfl rfl ?_
    refine j_getI (ci := 4) (k := 2) (Cn := RX4) (T := TX4) (N := 5) E dX1_readTarget_22 (by assumption) (by assumption) rfl (by decide) hinX4 (by decide +kernel) rfl ?_
    refine j_iconst (v := -1) E dX1_readTarget_25 (by decide) ?_
    refine j_icmp_ne (tgt := 31) E dX1_readTarget_26 (by decide) (fun h26 => ?_) (fun h26 => ?_)
    · refine j_aload_n E dX1_readTarget_31 rfl rfl ?_
      refine j_bipush (v := 58) E dX1_readTarget_32 (by decide) ?_
      refine j_callV1 (ci := 1) (n := 1) E (k_X1_passes hW0) dX1_readTarget_34 gX1_readTarget_X1_passes rfl (by decide +kernel) ⟨rfl, rfl, by decide, by decide⟩ ⟨Nat.zero_le _, Nat.zero_le _⟩ (by assumption) (by assumption) rfl rfl rfl (Nat.le_of_ble_eq_true rfl) rfl ?_
      refine j_if_eq (tgt := 50) E dX1_readTarget_37 (by decide) (fun h37 => ?_) (fun h37 => ?_)
      · try rw [xPs_0 h37]
        refine j_aload_n E dX1_readTarget_50 rfl rfl ?_
        refine j_getI (ci := 4) (k := 3) (Cn := RX4) (T := TX4) (N := 5) E dX1_readTarget_51 (by assumption) (by assumption) rfl (by decide) hinX4 (by decide +kernel) rfl ?_
        refine j_iconst (v := -1) E dX1_readTarget_54 (by decide) ?_
        refine j_icmp_eq (tgt := 62) E dX1_readTarget_55 (by decide) (fun h55 => ?_) (fun h55 => ?_)
        · refine j_iconst (v := 0) E dX1_readTarget_62 (by decide) ?_
          exact j_zret E dX1_readTarget_63 rfl (by simp [xTg, xT3, xT4, h6, h26, h37, h55]) rfl (by simp [xTg, xT3, xT4, h6, h26, h37, h55])
        · refine j_iconst (v := 1) E dX1_readTarget_58 (by decide) ?_
          refine j_goto (tgt := 63) E dX1_readTarget_59 (by decide) ?_
          exact j_zret E dX1_readTarget_63 rfl (by simp [xTg, xT3, xT4, h6, h26, h37, h55]) rfl (by simp [xTg, xT3, xT4, h6, h26, h37, h55])
      · refine j_aload_n E dX1_readTarget_40 rfl rfl ?_
        refine j_aload_n E dX1_readTarget_41 rfl rfl ?_
        refine j_bipush (v := 10) E dX1_readTarget_42 (by decide) ?_
        refine j_callV1 (ci := 1) (n := 1) E (k_X1_readDigit hW0) dX1_readTarget_44 gX1_readTarget_X1_readDigit rfl (by decide +kernel) ⟨rfl, rfl, by decide, by decide⟩ ⟨Nat.zero_le _, Nat.zero_le _⟩ (by assumption) (by assumption) rfl rfl rfl (Nat.le_of_ble_eq_true rfl) rfl ?_
        refine j_putI (ci := 4) (k := 3) (Cn := RX4) (T := TX4) (N := 5) E dX1_readTarget_47 (by assumption) (by assumption) rfl (by decide) hinX4 (by decide +kernel) rfl tyX4 tyX4_ok nmX4 rfl rfl rfl rfl ?_
        try rw [xPs_0 h37]
        refine j_aload_n E dX1_readTarget_50 rfl rfl ?_
        refine j_getI (ci := 4) (k := 3) (Cn := RX4) (T := TX4) (N := 5) E dX1_readTarget_51 (by assumption) (by assumption) rfl (by decide) hinX4 (by decide +kernel) rfl ?_
        refine j_iconst (v := -1) E dX1_readTarget_54 (by decide) ?_
        refine j_icmp_eq (tgt := 62) E dX1_readTarget_55 (by decide) (fun h55 => ?_) (fun h55 => ?_)
        · refine j_iconst (v := 0) E dX1_readTarget_62 (by decide) ?_
          exact j_zret E dX1_readTarget_63 rfl (by simp [xTg, xT3, xT4, h6, h26, h37, h55]) rfl (by simp [xTg, xT3, xT4, h6, h26, h37, h55])
        · refine j_iconst (v := 1) E dX1_readTarget_58 (by decide) ?_
          refine j_goto (tgt := 63) E dX1_readTarget_59 (by decide) ?_
          exact j_zret E dX1_readTarget_63 rfl (by simp [xTg, xT3, xT4, h6, h26, h37, h55]) rfl (by simp [xTg, xT3, xT4, h6, h26, h37, h55])
    · refine j_iconst (v := 0) E dX1_readTarget_29 (by decide) ?_
      exact j_zret E dX1_readTarget_30 rfl (by simp [xTg, xT3, xT4, h6, h26]) rfl (by simp [xTg, xT3, xT4, h6, h26])
  · rw [xPs_0 h6]
    refine j_iconst (v := 0) E dX1_readTarget_9 (by decide) ?_
    exact j_zret E dX1_readTarget_10 rfl (by simp [xTg, xT3, xT4, h6]) rfl (by simp [xTg, xT3, xT4, h6])

set_option maxHeartbeats 1600000 in
set_option maxRecDepth 100000 in
theorem kt_0 {l : Launch} {D : va_G} {cy : Nat → ClassId} {X : va_W} {G : pG} {P T r s : Nat} (hW : wPad G P T) (hR : wRule G r s) (M : pM) : jK l yX1_readTerm wsX1_readTerm (rT 0) D cy X G M [.ref P, .ref r, .int (nI (4 - 0))] (some (.int (xTm P T r s 0 M).1)) X (xTm P T r s 0 M).2 := by
  refine jK_of (own := RX1) (by decide) rfl rfl (Nat.le_of_ble_eq_true rfl) (fun C E hl hD hcy hG => ?_)
  subst hl; subst hD; subst hcy; subst hG
  have hW0 := hW
  have hR0 := hR
  obtain ⟨hP1, hP2, hP3, hT1, hT2, hT3⟩ := hW
  obtain ⟨hr1, hr2, hr3, hs1, hs2, hs3⟩ := hR

  refine j_aload_n E dX1_readTerm_0 rfl rfl ?_
  refine j_bipush (v := 122) E dX1_readTerm_1 (by decide) ?_
  refine j_callV1 (ci := 1) (n := 1) E (k_X1_passes hW0) dX1_readTerm_3 gX1_readTerm_X1_passes rfl (by decide +kernel) ⟨rfl, rfl, by simp only [rT, rC]; omega, by simp only [rT, rC]; omega⟩ ⟨Nat.zero_le _, Nat.zero_le _⟩ (by assumption) (by assumption) rfl rfl rfl (Nat.le_of_ble_eq_true rfl) rfl ?_
  refine j_if_eq (tgt := 16) E dX1_readTerm_6 (by decide) (fun h6 => ?_) (fun h6 => ?_)
  · rw [xPs_0 h6]
    refine j_aload_n E dX1_readTerm_16 rfl rfl ?_
    refine j_bipush (v := 119) E dX1_readTerm_17 (by decide) ?_
    refine j_callV1 (ci := 1) (n := 1) E (k_X1_passes hW0) dX1_readTerm_19 gX1_readTerm_X1_passes rfl (by decide +kernel) ⟨rfl, rfl, by simp only [rT, rC]; omega, by simp only [rT, rC]; omega⟩ ⟨Nat.zero_le _, Nat.zero_le _⟩ (by assumption) (by assumption) rfl rfl rfl (Nat.le_of_ble_eq_true rfl) rfl ?_
    refine j_if_eq (tgt := 32) E dX1_readTerm_22 (by decide) (fun h22 => ?_) (fun h22 => ?_)
    · rw [xPs_0 h22]
      refine j_aload_n E dX1_readTerm_32 rfl rfl ?_
      refine j_bipush (v := 102) E dX1_readTerm_33 (by decide) ?_
      refine j_callV1 (ci := 1) (n := 1) E (k_X1_passes hW0) dX1_readTerm_35 gX1_readTerm_X1_passes rfl (by decide +kernel) ⟨rfl, rfl, by simp only [rT, rC]; omega, by simp only [rT, rC]; omega⟩ ⟨Nat.zero_le _, Nat.zero_le _⟩ (by assumption) (by assumption) rfl rfl rfl (Nat.le_of_ble_eq_true rfl) rfl ?_
      refine j_if_eq (tgt := 49) E dX1_readTerm_38 (by decide) (fun h38 => ?_) (fun h38 => ?_)
      · rw [xPs_0 h38]
        refine j_iload_n E dX1_readTerm_49 rfl rfl ?_
        refine j_iconst (v := 4) E dX1_readTerm_50 (by decide) ?_
        refine j_icmp_lt (tgt := 56) E dX1_readTerm_51 (by decide) (fun h51 => ?_) (fun h51 => ?_)
        · exact absurd h51 (by decide)
        · refine j_iconst (v := 0) E dX1_readTerm_54 (by decide) ?_
          exact j_zret E dX1_readTerm_55 rfl (by simp [xTm, xLeaf, h6, h22, h38, h51]) rfl (by simp [xTm, xLeaf, h6, h22, h38, h51])
      · refine j_aload_n E dX1_readTerm_41 rfl rfl ?_
        refine j_bipush (v := 8) E dX1_readTerm_42 (by decide) ?_
        refine j_callV0 (ci := 4) (n := 1) E (k_X4_addStep hR0) dX1_readTerm_44 gX1_readTerm_X4_addStep rfl (by decide +kernel) ⟨rfl, rfl, by simp only [rT, rC]; omega, by simp only [rT, rC]; omega⟩ ⟨Nat.zero_le _, Nat.zero_le _⟩ (by assumption) (by assumption) rfl rfl rfl (Nat.le_of_ble_eq_true rfl) rfl ?_
        refine j_iconst (v := 1) E dX1_readTerm_47 (by decide) ?_
        exact j_zret E dX1_readTerm_48 rfl (by simp [xTm, xLeaf, h6, h22, h38]) rfl (by simp [xTm, xLeaf, h6, h22, h38])
    · refine j_aload_n E dX1_readTerm_25 rfl rfl ?_
      refine j_aload_n E dX1_readTerm_26 rfl rfl ?_
      refine j_iconst (v := 4) E dX1_readTerm_27 (by decide) ?_
      refine j_callV1 (ci := 1) (n := 2) E (k_X1_readZone hW0 hR0) dX1_readTerm_28 gX1_readTerm_X1_readZone rfl (by decide +kernel) ⟨rfl, rfl, by simp only [rT, rC]; omega, by simp only [rT, rC]; omega⟩ ⟨Nat.zero_le _, Nat.zero_le _⟩ (by assumption) (by assumption) rfl rfl rfl (Nat.le_of_ble_eq_true rfl) rfl ?_
      exact j_zret E dX1_readTerm_31 (nz01 (xZn_01 _ _ _ _ _ _)) (by simp [xTm, xLeaf, h6, h22]) rfl (by simp [xTm, xLeaf, h6, h22])
  · refine j_aload_n E dX1_readTerm_9 rfl rfl ?_
    refine j_aload_n E dX1_readTerm_10 rfl rfl ?_
    refine j_iconst (v := 0) E dX1_readTerm_11 (by decide) ?_
    refine j_callV1 (ci := 1) (n := 2) E (k_X1_readZone hW0 hR0) dX1_readTerm_12 gX1_readTerm_X1_readZone rfl (by decide +kernel) ⟨rfl, rfl, by simp only [rT, rC]; omega, by simp only [rT, rC]; omega⟩ ⟨Nat.zero_le _, Nat.zero_le _⟩ (by assumption) (by assumption) rfl rfl rfl (Nat.le_of_ble_eq_true rfl) rfl ?_
    exact j_zret E dX1_readTerm_15 (nz01 (xZn_01 _ _ _ _ _ _)) (by simp [xTm, xLeaf, h6]) rfl (by simp [xTm, xLeaf, h6])

set_option maxHeartbeats 1600000 in
set_option maxRecDepth 100000 in
theorem kt_s {l : Launch} {D : va_G} {cy : Nat → ClassId} {X : va_W} {G : pG} {P T r s : Nat} (hW : wPad G P T) (hR : wRule G r s) {f : Nat} (hf : f < 4) (hT : ∀ M : pM, jK l yX1_readTerm wsX1_readTerm (rT f) D cy X G M [.ref P, .ref r, .int (nI (4 - f))] (some (.int (xTm P T r s f M).1)) X (xTm P T r s f M).2) (hC : ∀ M : pM, jK l yX1_readCondition wsX1_readCondition (rC f) D cy X G M [.ref P, .ref r, .int (nI (4 - f))] (some (.int (xCn P T r s (xTm P T r s f) M).1)) X (xCn P T r s (xTm P T r s f) M).2) (M : pM) : jK l yX1_readTerm wsX1_readTerm (rT (f + 1)) D cy X G M [.ref P, .ref r, .int (nI (4 - (f + 1)))] (some (.int (xTm P T r s (f + 1) M).1)) X (xTm P T r s (f + 1) M).2 := by
  refine jK_of (own := RX1) (by decide) rfl rfl (Nat.le_of_ble_eq_true rfl) (fun C E hl hD hcy hG => ?_)
  subst hl; subst hD; subst hcy; subst hG
  have hW0 := hW
  have hR0 := hR
  obtain ⟨hP1, hP2, hP3, hT1, hT2, hT3⟩ := hW
  obtain ⟨hr1, hr2, hr3, hs1, hs2, hs3⟩ := hR
  refine j_aload_n E dX1_readTerm_0 rfl rfl ?_
  refine j_bipush (v := 122) E dX1_readTerm_1 (by decide) ?_
  refine j_callV1 (ci := 1) (n := 1) E (k_X1_passes hW0) dX1_readTerm_3 gX1_readTerm_X1_passes rfl (by decide +kernel) ⟨rfl, rfl, by simp only [rT, rC]; omega, by simp only [rT, rC]; omega⟩ ⟨Nat.zero_le _, Nat.zero_le _⟩ (by assumption) (by assumption) rfl rfl rfl (Nat.le_of_ble_eq_true rfl) rfl ?_
  refine j_if_eq (tgt := 16) E dX1_readTerm_6 (by decide) (fun h6 => ?_) (fun h6 => ?_)
  · rw [xPs_0 h6]
    refine j_aload_n E dX1_readTerm_16 rfl rfl ?_
    refine j_bipush (v := 119) E dX1_readTerm_17 (by decide) ?_
    refine j_callV1 (ci := 1) (n := 1) E (k_X1_passes hW0) dX1_readTerm_19 gX1_readTerm_X1_passes rfl (by decide +kernel) ⟨rfl, rfl, by simp only [rT, rC]; omega, by simp only [rT, rC]; omega⟩ ⟨Nat.zero_le _, Nat.zero_le _⟩ (by assumption) (by assumption) rfl rfl rfl (Nat.le_of_ble_eq_true rfl) rfl ?_
    refine j_if_eq (tgt := 32) E dX1_readTerm_22 (by decide) (fun h22 => ?_) (fun h22 => ?_)
    · rw [xPs_0 h22]
      refine j_aload_n E dX1_readTerm_32 rfl rfl ?_
      refine j_bipush (v := 102) E dX1_readTerm_33 (by decide) ?_
      refine j_callV1 (ci := 1) (n := 1) E (k_X1_passes hW0) dX1_readTerm_35 gX1_readTerm_X1_passes rfl (by decide +kernel) ⟨rfl, rfl, by simp only [rT, rC]; omega, by simp only [rT, rC]; omega⟩ ⟨Nat.zero_le _, Nat.zero_le _⟩ (by assumption) (by assumption) rfl rfl rfl (Nat.le_of_ble_eq_true rfl) rfl ?_
      refine j_if_eq (tgt := 49) E dX1_readTerm_38 (by decide) (fun h38 => ?_) (fun h38 => ?_)
      · rw [xPs_0 h38]
        refine j_iload_n E dX1_readTerm_49 rfl rfl ?_
        refine j_iconst (v := 4) E dX1_readTerm_50 (by decide) ?_
        refine j_icmp_lt (tgt := 56) E dX1_readTerm_51 (by decide) (fun h51 => ?_) (fun h51 => ?_)
        · refine j_aload_n E dX1_readTerm_56 rfl rfl ?_
          refine j_bipush (v := 40) E dX1_readTerm_57 (by decide) ?_
          refine j_callV1 (ci := 1) (n := 1) E (k_X1_passes hW0) dX1_readTerm_59 gX1_readTerm_X1_passes rfl (by decide +kernel) ⟨rfl, rfl, by simp only [rT, rC]; omega, by simp only [rT, rC]; omega⟩ ⟨Nat.zero_le _, Nat.zero_le _⟩ (by assumption) (by assumption) rfl rfl rfl (Nat.le_of_ble_eq_true rfl) rfl ?_
          refine j_if_eq (tgt := 91) E dX1_readTerm_62 (by decide) (fun h62 => ?_) (fun h62 => ?_)
          · rw [xPs_0 h62]
            refine j_aload_n E dX1_readTerm_91 rfl rfl ?_
            refine j_bipush (v := 33) E dX1_readTerm_92 (by decide) ?_
            refine j_callV1 (ci := 1) (n := 1) E (k_X1_passes hW0) dX1_readTerm_94 gX1_readTerm_X1_passes rfl (by decide +kernel) ⟨rfl, rfl, by simp only [rT, rC]; omega, by simp only [rT, rC]; omega⟩ ⟨Nat.zero_le _, Nat.zero_le _⟩ (by assumption) (by assumption) rfl rfl rfl (Nat.le_of_ble_eq_true rfl) rfl ?_
            refine j_if_eq (tgt := 119) E dX1_readTerm_97 (by decide) (fun h97 => ?_) (fun h97 => ?_)
            · try rw [xPs_0 h97]
              refine j_iconst (v := 0) E dX1_readTerm_119 (by decide) ?_
              exact j_zret E dX1_readTerm_120 rfl (by simp [xTm, xLeaf, h6, h22, h38, h51, h62, h97]) rfl (by simp [xTm, xLeaf, h6, h22, h38, h51, h62, h97])
            · refine j_aload_n E dX1_readTerm_100 rfl rfl ?_
              refine j_aload_n E dX1_readTerm_101 rfl rfl ?_
              refine j_iload_n E dX1_readTerm_102 rfl rfl ?_
              refine j_iconst (v := 1) E dX1_readTerm_103 (by decide) ?_
              refine j_iadd E dX1_readTerm_104 ?_
              rw [show nI (4 - (f + 1)) + 1 = nI (4 - f) by rw [nI_1]; congr 1; omega]
              refine j_callV1 (ci := 1) (n := 2) E (hT _) dX1_readTerm_105 gX1_readTerm_X1_readTerm rfl (by decide +kernel) ⟨rfl, rfl, by simp only [rT, rC]; omega, by simp only [rT, rC]; omega⟩ ⟨Nat.zero_le _, Nat.zero_le _⟩ (by assumption) (by assumption) rfl rfl rfl (Nat.le_of_ble_eq_true rfl) rfl ?_
              refine j_if_eq (tgt := 119) E dX1_readTerm_108 (by decide) (fun h108 => ?_) (fun h108 => ?_)
              · try rw [xPs_0 h97]
                refine j_iconst (v := 0) E dX1_readTerm_119 (by decide) ?_
                exact j_zret E dX1_readTerm_120 rfl (by simp [xTm, xLeaf, h6, h22, h38, h51, h62, h97, h108]) rfl (by simp [xTm, xLeaf, h6, h22, h38, h51, h62, h97, h108])
              · refine j_aload_n E dX1_readTerm_111 rfl rfl ?_
                refine j_bipush (v := 9) E dX1_readTerm_112 (by decide) ?_
                refine j_callV0 (ci := 4) (n := 1) E (k_X4_addStep hR0) dX1_readTerm_114 gX1_readTerm_X4_addStep rfl (by decide +kernel) ⟨rfl, rfl, by simp only [rT, rC]; omega, by simp only [rT, rC]; omega⟩ ⟨Nat.zero_le _, Nat.zero_le _⟩ (by assumption) (by assumption) rfl rfl rfl (Nat.le_of_ble_eq_true rfl) rfl ?_
                refine j_iconst (v := 1) E dX1_readTerm_117 (by decide) ?_
                exact j_zret E dX1_readTerm_118 rfl (by simp [xTm, xLeaf, h6, h22, h38, h51, h62, h97, h108]) rfl (by simp [xTm, xLeaf, h6, h22, h38, h51, h62, h97, h108])
          · refine j_aload_n E dX1_readTerm_65 rfl rfl ?_
            refine j_aload_n E dX1_readTerm_66 rfl rfl ?_
            refine j_iload_n E dX1_readTerm_67 rfl rfl ?_
            refine j_iconst (v := 1) E dX1_readTerm_68 (by decide) ?_
            refine j_iadd E dX1_readTerm_69 ?_
            rw [show nI (4 - (f + 1)) + 1 = nI (4 - f) by rw [nI_1]; congr 1; omega]
            refine j_callV1 (ci := 1) (n := 2) E (hC _) dX1_readTerm_70 gX1_readTerm_X1_readCondition rfl (by decide +kernel) ⟨rfl, rfl, by simp only [rT, rC]; omega, by simp only [rT, rC]; omega⟩ ⟨Nat.zero_le _, Nat.zero_le _⟩ (by assumption) (by assumption) rfl rfl rfl (Nat.le_of_ble_eq_true rfl) rfl ?_
            refine j_if_eq (tgt := 89) E dX1_readTerm_73 (by decide) (fun h73 => ?_) (fun h73 => ?_)
            · refine j_iconst (v := 0) E dX1_readTerm_89 (by decide) ?_
              exact j_zret E dX1_readTerm_90 rfl (by first | (simp [xTm, xLeaf, h6, h22, h38, h51, h62, h73]; done) | (simp [xTm, xLeaf, h6, h22, h38, h51, h62, h73, xPs_1 h82]; done)) rfl (by first | (simp [xTm, xLeaf, h6, h22, h38, h51, h62, h73]; done) | (simp [xTm, xLeaf, h6, h22, h38, h51, h62, h73, xPs_1 h82]; done))
            · refine j_aload_n E dX1_readTerm_76 rfl rfl ?_
              refine j_bipush (v := 41) E dX1_readTerm_77 (by decide) ?_
              refine j_callV1 (ci := 1) (n := 1) E (k_X1_passes hW0) dX1_readTerm_79 gX1_readTerm_X1_passes rfl (by decide +kernel) ⟨rfl, rfl, by simp only [rT, rC]; omega, by simp only [rT, rC]; omega⟩ ⟨Nat.zero_le _, Nat.zero_le _⟩ (by assumption) (by assumption) rfl rfl rfl (Nat.le_of_ble_eq_true rfl) rfl ?_
              refine j_if_eq (tgt := 89) E dX1_readTerm_82 (by decide) (fun h82 => ?_) (fun h82 => ?_)
              · refine j_iconst (v := 0) E dX1_readTerm_89 (by decide) ?_
                exact j_zret E dX1_readTerm_90 rfl (by first | (simp [xTm, xLeaf, h6, h22, h38, h51, h62, h73, h82]; done) | (simp [xTm, xLeaf, h6, h22, h38, h51, h62, h73, h82, xPs_1 h82]; done)) rfl (by first | (simp [xTm, xLeaf, h6, h22, h38, h51, h62, h73, h82]; done) | (simp [xTm, xLeaf, h6, h22, h38, h51, h62, h73, h82, xPs_1 h82]; done))
              · refine j_iconst (v := 1) E dX1_readTerm_85 (by decide) ?_
                refine j_goto (tgt := 90) E dX1_readTerm_86 (by decide) ?_
                exact j_zret E dX1_readTerm_90 rfl (by first | (simp [xTm, xLeaf, h6, h22, h38, h51, h62, h73, h82]; done) | (simp [xTm, xLeaf, h6, h22, h38, h51, h62, h73, h82, xPs_1 h82]; done)) rfl (by first | (simp [xTm, xLeaf, h6, h22, h38, h51, h62, h73, h82]; done) | (simp [xTm, xLeaf, h6, h22, h38, h51, h62, h73, h82, xPs_1 h82]; done))
        · exact absurd (nI_lt (b := 4) (by omega) (by decide)) h51
      · refine j_aload_n E dX1_readTerm_41 rfl rfl ?_
        refine j_bipush (v := 8) E dX1_readTerm_42 (by decide) ?_
        refine j_callV0 (ci := 4) (n := 1) E (k_X4_addStep hR0) dX1_readTerm_44 gX1_readTerm_X4_addStep rfl (by decide +kernel) ⟨rfl, rfl, by simp only [rT, rC]; omega, by simp only [rT, rC]; omega⟩ ⟨Nat.zero_le _, Nat.zero_le _⟩ (by assumption) (by assumption) rfl rfl rfl (Nat.le_of_ble_eq_true rfl) rfl ?_
        refine j_iconst (v := 1) E dX1_readTerm_47 (by decide) ?_
        exact j_zret E dX1_readTerm_48 rfl (by simp [xTm, xLeaf, h6, h22, h38]) rfl (by simp [xTm, xLeaf, h6, h22, h38])
    · refine j_aload_n E dX1_readTerm_25 rfl rfl ?_
      refine j_aload_n E dX1_readTerm_26 rfl rfl ?_
      refine j_iconst (v := 4) E dX1_readTerm_27 (by decide) ?_
      refine j_callV1 (ci := 1) (n := 2) E (k_X1_readZone hW0 hR0) dX1_readTerm_28 gX1_readTerm_X1_readZone rfl (by decide +kernel) ⟨rfl, rfl, by simp only [rT, rC]; omega, by simp only [rT, rC]; omega⟩ ⟨Nat.zero_le _, Nat.zero_le _⟩ (by assumption) (by assumption) rfl rfl rfl (Nat.le_of_ble_eq_true rfl) rfl ?_
      exact j_zret E dX1_readTerm_31 (nz01 (xZn_01 _ _ _ _ _ _)) (by simp [xTm, xLeaf, h6, h22]) rfl (by simp [xTm, xLeaf, h6, h22])
  · refine j_aload_n E dX1_readTerm_9 rfl rfl ?_
    refine j_aload_n E dX1_readTerm_10 rfl rfl ?_
    refine j_iconst (v := 0) E dX1_readTerm_11 (by decide) ?_
    refine j_callV1 (ci := 1) (n := 2) E (k_X1_readZone hW0 hR0) dX1_readTerm_12 gX1_readTerm_X1_readZone rfl (by decide +kernel) ⟨rfl, rfl, by simp only [rT, rC]; omega, by simp only [rT, rC]; omega⟩ ⟨Nat.zero_le _, Nat.zero_le _⟩ (by assumption) (by assumption) rfl rfl rfl (Nat.le_of_ble_eq_true rfl) rfl ?_
    exact j_zret E dX1_readTerm_15 (nz01 (xZn_01 _ _ _ _ _ _)) (by simp [xTm, xLeaf, h6]) rfl (by simp [xTm, xLeaf, h6])

set_option maxHeartbeats 1600000 in
set_option maxRecDepth 100000 in
theorem kl_cond {C : jC} {X : va_W} {P T r s : Nat} (hW : wPad (jG C) P T) (hR : wRule (jG C) r s) {f : Nat} (E : jE C cX1_readCondition 5 wsX1_readCondition RX1 (some .boolean) (rC f)) (hT : ∀ M : pM, jK (jl C) yX1_readTerm wsX1_readTerm (rT f) (jD C) (jcy C) X (jG C) M [.ref P, .ref r, .int (nI (4 - f))] (some (.int (xTm P T r s f M).1)) X (xTm P T r s f M).2) : ∀ (n i : Nat) (M : pM), i + n = 20 → jW C 5 13 [(0, .ref P), (1, .ref r), (2, .int (nI (4 - f))), (3, .int (nI i))] [] X M 0 0 (jZ C X (xCl P T r s (xTm P T r s f) n M).2 (some (.int (xCl P T r s (xTm P T r s f) n M).1)) 0 0) := by
  have hW0 := hW
  have hR0 := hR
  obtain ⟨hP1, hP2, hP3, hT1, hT2, hT3⟩ := hW
  obtain ⟨hr1, hr2, hr3, hs1, hs2, hs3⟩ := hR
  have hinX1 : ∀ w ∈ u_ws RX1 TX1 3, w ∈ wsX1_readCondition := by decide +kernel
  intro n
  induction n with
  | zero =>
    intro i M hn
    obtain rfl : i = 20 := by omega
    refine j_iload_n E dX1_readCondition_13 rfl rfl ?_
    refine j_bipush (v := 20) E dX1_readCondition_14 (by decide) ?_
    refine j_icmp_ge (tgt := 91) E dX1_readCondition_16 (by decide) (fun h => ?_) (fun h => absurd (by decide) h)
    refine j_iconst (v := 1) E dX1_readCondition_91 (by decide) ?_
    exact j_zret E dX1_readCondition_92 rfl (by first | (simp [xCl, xOp, true_and]; done) | (exfalso; simp; done)) rfl (by first | (simp [xCl, xOp, true_and]; done) | (exfalso; simp; done))
  | succ n ih =>
    intro i M hn
    refine j_iload_n E dX1_readCondition_13 rfl rfl ?_
    refine j_bipush (v := 20) E dX1_readCondition_14 (by decide) ?_
    refine j_icmp_ge (tgt := 91) E dX1_readCondition_16 (by decide) (fun h16 => ?_) (fun h16 => ?_)
    · exact absurd h16 (nI_ge (b := 20) (by omega) (by decide))
    · refine j_aload_n E dX1_readCondition_19 rfl rfl ?_
      refine j_bipush (v := 38) E dX1_readCondition_20 (by decide) ?_
      refine j_callV1 (ci := 1) (n := 1) E (k_X1_sees hW0) dX1_readCondition_22 gX1_readCondition_X1_sees rfl (by decide +kernel) ⟨rfl, rfl, by simp only [rT, rC]; omega, by simp only [rT, rC]; omega⟩ ⟨Nat.zero_le _, Nat.zero_le _⟩ (by assumption) (by assumption) rfl rfl rfl (Nat.le_of_ble_eq_true rfl) rfl ?_
      refine j_if_eq (tgt := 33) E dX1_readCondition_25 (by decide) (fun h25 => ?_) (fun h25 => ?_)
      · refine j_aload_n E dX1_readCondition_33 rfl rfl ?_
        refine j_bipush (v := 124) E dX1_readCondition_34 (by decide) ?_
        refine j_callV1 (ci := 1) (n := 1) E (k_X1_sees hW0) dX1_readCondition_36 gX1_readCondition_X1_sees rfl (by decide +kernel) ⟨rfl, rfl, by simp only [rT, rC]; omega, by simp only [rT, rC]; omega⟩ ⟨Nat.zero_le _, Nat.zero_le _⟩ (by assumption) (by assumption) rfl rfl rfl (Nat.le_of_ble_eq_true rfl) rfl ?_
        refine j_if_eq (tgt := 47) E dX1_readCondition_39 (by decide) (fun h39 => ?_) (fun h39 => ?_)
        · refine j_iconst (v := -1) E dX1_readCondition_47 (by decide) ?_
          refine j_istore E dX1_readCondition_48 (by decide) ?_
          refine j_iload E dX1_readCondition_50 rfl ?_
          refine j_iconst (v := -1) E dX1_readCondition_52 (by decide) ?_
          refine j_icmp_ne (tgt := 58) E dX1_readCondition_53 (by decide) (fun h53 => ?_) (fun h53 => ?_)
          · refine j_aload_n E dX1_readCondition_58 rfl rfl ?_
            refine j_dup E dX1_readCondition_59 rfl ?_
            refine j_getI (ci := 1) (k := 2) (Cn := RX1) (T := TX1) (N := 3) E dX1_readCondition_60 (by assumption) (by assumption) rfl (by decide) hinX1 (by decide +kernel) rfl ?_
            refine j_iconst (v := 1) E dX1_readCondition_63 (by decide) ?_
            refine j_iadd E dX1_readCondition_64 ?_
            refine j_putI (ci := 1) (k := 2) (Cn := RX1) (T := TX1) (N := 3) E dX1_readCondition_65 (by assumption) (by assumption) rfl (by decide) hinX1 (by decide +kernel) rfl tyX1 tyX1_ok nmX1 rfl rfl rfl rfl ?_
            refine j_aload_n E dX1_readCondition_68 rfl rfl ?_
            refine j_aload_n E dX1_readCondition_69 rfl rfl ?_
            refine j_iload_n E dX1_readCondition_70 rfl rfl ?_
            refine j_callV1 (ci := 1) (n := 2) E (hT _) dX1_readCondition_71 gX1_readCondition_X1_readTerm rfl (by decide +kernel) ⟨rfl, rfl, by simp only [rT, rC]; omega, by simp only [rT, rC]; omega⟩ ⟨Nat.zero_le _, Nat.zero_le _⟩ (by assumption) (by assumption) rfl rfl rfl (Nat.le_of_ble_eq_true rfl) rfl ?_
            refine j_if_ne (tgt := 79) E dX1_readCondition_74 (by decide) (fun h74 => ?_) (fun h74 => ?_)
            · refine j_aload_n E dX1_readCondition_79 rfl rfl ?_
              refine j_iload E dX1_readCondition_80 rfl ?_
              refine j_callV0 (ci := 4) (n := 1) E (k_X4_addStep hR0) dX1_readCondition_82 gX1_readCondition_X4_addStep rfl (by decide +kernel) ⟨rfl, rfl, by simp only [rT, rC]; omega, by simp only [rT, rC]; omega⟩ ⟨Nat.zero_le _, Nat.zero_le _⟩ (by assumption) (by assumption) rfl rfl rfl (Nat.le_of_ble_eq_true rfl) rfl ?_
              refine j_iinc E dX1_readCondition_85 rfl (by decide) ?_
              refine j_goto (tgt := 13) E dX1_readCondition_88 (by decide) ?_
              exact j_lv [0, 1, 2, 3] rfl (by rw [nI_inc]; exact j_r (by first | (simp [xCl, xOp, h16, h25, h39, h53, h74]; done) | (exfalso; revert h16 h25 h39 h53 h74; simp; done)) (by first | (simp [xCl, xOp, h16, h25, h39, h53, h74]; done) | (exfalso; revert h16 h25 h39 h53 h74; simp; done)) (ih (i + 1) _ (by omega)))
            · refine j_iconst (v := 0) E dX1_readCondition_77 (by decide) ?_
              exact j_zret E dX1_readCondition_78 rfl (by first | (simp [xCl, xOp, h16, h25, h39, h53, h74]; done) | (exfalso; revert h16 h25 h39 h53 h74; simp; done)) rfl (by first | (simp [xCl, xOp, h16, h25, h39, h53, h74]; done) | (exfalso; revert h16 h25 h39 h53 h74; simp; done))
          · refine j_iconst (v := 1) E dX1_readCondition_56 (by decide) ?_
            exact j_zret E dX1_readCondition_57 rfl (by first | (simp [xCl, xOp, h16, h25, h39, h53]; done) | (exfalso; revert h16 h25 h39 h53; simp; done)) rfl (by first | (simp [xCl, xOp, h16, h25, h39, h53]; done) | (exfalso; revert h16 h25 h39 h53; simp; done))
        · refine j_bipush (v := 11) E dX1_readCondition_42 (by decide) ?_
          refine j_goto (tgt := 48) E dX1_readCondition_44 (by decide) ?_
          refine j_istore E dX1_readCondition_48 (by decide) ?_
          refine j_iload E dX1_readCondition_50 rfl ?_
          refine j_iconst (v := -1) E dX1_readCondition_52 (by decide) ?_
          refine j_icmp_ne (tgt := 58) E dX1_readCondition_53 (by decide) (fun h53 => ?_) (fun h53 => ?_)
          · refine j_aload_n E dX1_readCondition_58 rfl rfl ?_
            refine j_dup E dX1_readCondition_59 rfl ?_
            refine j_getI (ci := 1) (k := 2) (Cn := RX1) (T := TX1) (N := 3) E dX1_readCondition_60 (by assumption) (by assumption) rfl (by decide) hinX1 (by decide +kernel) rfl ?_
            refine j_iconst (v := 1) E dX1_readCondition_63 (by decide) ?_
            refine j_iadd E dX1_readCondition_64 ?_
            refine j_putI (ci := 1) (k := 2) (Cn := RX1) (T := TX1) (N := 3) E dX1_readCondition_65 (by assumption) (by assumption) rfl (by decide) hinX1 (by decide +kernel) rfl tyX1 tyX1_ok nmX1 rfl rfl rfl rfl ?_
            refine j_aload_n E dX1_readCondition_68 rfl rfl ?_
            refine j_aload_n E dX1_readCondition_69 rfl rfl ?_
            refine j_iload_n E dX1_readCondition_70 rfl rfl ?_
            refine j_callV1 (ci := 1) (n := 2) E (hT _) dX1_readCondition_71 gX1_readCondition_X1_readTerm rfl (by decide +kernel) ⟨rfl, rfl, by simp only [rT, rC]; omega, by simp only [rT, rC]; omega⟩ ⟨Nat.zero_le _, Nat.zero_le _⟩ (by assumption) (by assumption) rfl rfl rfl (Nat.le_of_ble_eq_true rfl) rfl ?_
            refine j_if_ne (tgt := 79) E dX1_readCondition_74 (by decide) (fun h74 => ?_) (fun h74 => ?_)
            · refine j_aload_n E dX1_readCondition_79 rfl rfl ?_
              refine j_iload E dX1_readCondition_80 rfl ?_
              refine j_callV0 (ci := 4) (n := 1) E (k_X4_addStep hR0) dX1_readCondition_82 gX1_readCondition_X4_addStep rfl (by decide +kernel) ⟨rfl, rfl, by simp only [rT, rC]; omega, by simp only [rT, rC]; omega⟩ ⟨Nat.zero_le _, Nat.zero_le _⟩ (by assumption) (by assumption) rfl rfl rfl (Nat.le_of_ble_eq_true rfl) rfl ?_
              refine j_iinc E dX1_readCondition_85 rfl (by decide) ?_
              refine j_goto (tgt := 13) E dX1_readCondition_88 (by decide) ?_
              exact j_lv [0, 1, 2, 3] rfl (by rw [nI_inc]; exact j_r (by first | (simp [xCl, xOp, h16, h25, h39, h53, h74]; done) | (exfalso; revert h16 h25 h39 h53 h74; simp; done)) (by first | (simp [xCl, xOp, h16, h25, h39, h53, h74]; done) | (exfalso; revert h16 h25 h39 h53 h74; simp; done)) (ih (i + 1) _ (by omega)))
            · refine j_iconst (v := 0) E dX1_readCondition_77 (by decide) ?_
              exact j_zret E dX1_readCondition_78 rfl (by first | (simp [xCl, xOp, h16, h25, h39, h53, h74]; done) | (exfalso; revert h16 h25 h39 h53 h74; simp; done)) rfl (by first | (simp [xCl, xOp, h16, h25, h39, h53, h74]; done) | (exfalso; revert h16 h25 h39 h53 h74; simp; done))
          · refine j_iconst (v := 1) E dX1_readCondition_56 (by decide) ?_
            exact j_zret E dX1_readCondition_57 rfl (by first | (simp [xCl, xOp, h16, h25, h39, h53]; done) | (exfalso; revert h16 h25 h39 h53; simp; done)) rfl (by first | (simp [xCl, xOp, h16, h25, h39, h53]; done) | (exfalso; revert h16 h25 h39 h53; simp; done))
      · refine j_bipush (v := 10) E dX1_readCondition_28 (by decide) ?_
        refine j_goto (tgt := 48) E dX1_readCondition_30 (by decide) ?_
        refine j_istore E dX1_readCondition_48 (by decide) ?_
        refine j_iload E dX1_readCondition_50 rfl ?_
        refine j_iconst (v := -1) E dX1_readCondition_52 (by decide) ?_
        refine j_icmp_ne (tgt := 58) E dX1_readCondition_53 (by decide) (fun h53 => ?_) (fun h53 => ?_)
        · refine j_aload_n E dX1_readCondition_58 rfl rfl ?_
          refine j_dup E dX1_readCondition_59 rfl ?_
          refine j_getI (ci := 1) (k := 2) (Cn := RX1) (T := TX1) (N := 3) E dX1_readCondition_60 (by assumption) (by assumption) rfl (by decide) hinX1 (by decide +kernel) rfl ?_
          refine j_iconst (v := 1) E dX1_readCondition_63 (by decide) ?_
          refine j_iadd E dX1_readCondition_64 ?_
          refine j_putI (ci := 1) (k := 2) (Cn := RX1) (T := TX1) (N := 3) E dX1_readCondition_65 (by assumption) (by assumption) rfl (by decide) hinX1 (by decide +kernel) rfl tyX1 tyX1_ok nmX1 rfl rfl rfl rfl ?_
          refine j_aload_n E dX1_readCondition_68 rfl rfl ?_
          refine j_aload_n E dX1_readCondition_69 rfl rfl ?_
          refine j_iload_n E dX1_readCondition_70 rfl rfl ?_
          refine j_callV1 (ci := 1) (n := 2) E (hT _) dX1_readCondition_71 gX1_readCondition_X1_readTerm rfl (by decide +kernel) ⟨rfl, rfl, by simp only [rT, rC]; omega, by simp only [rT, rC]; omega⟩ ⟨Nat.zero_le _, Nat.zero_le _⟩ (by assumption) (by assumption) rfl rfl rfl (Nat.le_of_ble_eq_true rfl) rfl ?_
          refine j_if_ne (tgt := 79) E dX1_readCondition_74 (by decide) (fun h74 => ?_) (fun h74 => ?_)
          · refine j_aload_n E dX1_readCondition_79 rfl rfl ?_
            refine j_iload E dX1_readCondition_80 rfl ?_
            refine j_callV0 (ci := 4) (n := 1) E (k_X4_addStep hR0) dX1_readCondition_82 gX1_readCondition_X4_addStep rfl (by decide +kernel) ⟨rfl, rfl, by simp only [rT, rC]; omega, by simp only [rT, rC]; omega⟩ ⟨Nat.zero_le _, Nat.zero_le _⟩ (by assumption) (by assumption) rfl rfl rfl (Nat.le_of_ble_eq_true rfl) rfl ?_
            refine j_iinc E dX1_readCondition_85 rfl (by decide) ?_
            refine j_goto (tgt := 13) E dX1_readCondition_88 (by decide) ?_
            exact j_lv [0, 1, 2, 3] rfl (by rw [nI_inc]; exact j_r (by first | (simp [xCl, xOp, h16, h25, h53, h74]; done) | (exfalso; revert h16 h25 h53 h74; simp; done)) (by first | (simp [xCl, xOp, h16, h25, h53, h74]; done) | (exfalso; revert h16 h25 h53 h74; simp; done)) (ih (i + 1) _ (by omega)))
          · refine j_iconst (v := 0) E dX1_readCondition_77 (by decide) ?_
            exact j_zret E dX1_readCondition_78 rfl (by first | (simp [xCl, xOp, h16, h25, h53, h74]; done) | (exfalso; revert h16 h25 h53 h74; simp; done)) rfl (by first | (simp [xCl, xOp, h16, h25, h53, h74]; done) | (exfalso; revert h16 h25 h53 h74; simp; done))
        · refine j_iconst (v := 1) E dX1_readCondition_56 (by decide) ?_
          exact j_zret E dX1_readCondition_57 rfl (by first | (simp [xCl, xOp, h16, h25, h53]; done) | (exfalso; revert h16 h25 h53; simp; done)) rfl (by first | (simp [xCl, xOp, h16, h25, h53]; done) | (exfalso; revert h16 h25 h53; simp; done))

set_option maxHeartbeats 1600000 in
set_option maxRecDepth 100000 in
theorem kc_of {l : Launch} {D : va_G} {cy : Nat → ClassId} {X : va_W} {G : pG} {P T r s : Nat} (hW : wPad G P T) (hR : wRule G r s) {f : Nat} (hT : ∀ M : pM, jK l yX1_readTerm wsX1_readTerm (rT f) D cy X G M [.ref P, .ref r, .int (nI (4 - f))] (some (.int (xTm P T r s f M).1)) X (xTm P T r s f M).2) (M : pM) : jK l yX1_readCondition wsX1_readCondition (rC f) D cy X G M [.ref P, .ref r, .int (nI (4 - f))] (some (.int (xCn P T r s (xTm P T r s f) M).1)) X (xCn P T r s (xTm P T r s f) M).2 := by
  refine jK_of (own := RX1) (by decide) rfl rfl (Nat.le_of_ble_eq_true rfl) (fun C E hl hD hcy hG => ?_)
  subst hl; subst hD; subst hcy; subst hG
  have hW0 := hW
  have hR0 := hR
  obtain ⟨hP1, hP2, hP3, hT1, hT2, hT3⟩ := hW
  obtain ⟨hr1, hr2, hr3, hs1, hs2, hs3⟩ := hR
  refine j_aload_n E dX1_readCondition_0 rfl rfl ?_
  refine j_aload_n E dX1_readCondition_1 rfl rfl ?_
  refine j_iload_n E dX1_readCondition_2 rfl rfl ?_
  refine j_callV1 (ci := 1) (n := 2) E (hT _) dX1_readCondition_3 gX1_readCondition_X1_readTerm rfl (by decide +kernel) ⟨rfl, rfl, by simp only [rT, rC]; omega, by simp only [rT, rC]; omega⟩ ⟨Nat.zero_le _, Nat.zero_le _⟩ (by assumption) (by assumption) rfl rfl rfl (Nat.le_of_ble_eq_true rfl) rfl ?_
  refine j_if_ne (tgt := 11) E dX1_readCondition_6 (by decide) (fun h6 => ?_) (fun h6 => ?_)
  · refine j_iconst (v := 0) E dX1_readCondition_11 (by decide) ?_
    refine j_istore_n E dX1_readCondition_12 rfl (by decide) ?_
    exact j_lv [0, 1, 2, 3] rfl (j_r (by simp [xCn, h6]) (by simp [xCn, h6]) (kl_cond hW0 hR0 E hT 20 0 _ (by omega)))
  · refine j_iconst (v := 0) E dX1_readCondition_9 (by decide) ?_
    exact j_zret E dX1_readCondition_10 rfl (by simp [xCn, h6]) rfl (by simp [xCn, h6])

theorem kt_all {l : Launch} {D : va_G} {cy : Nat → ClassId} {X : va_W} {G : pG} {P T r s : Nat} (hW : wPad G P T) (hR : wRule G r s) : ∀ f, f ≤ 4 → ∀ M : pM, jK l yX1_readTerm wsX1_readTerm (rT f) D cy X G M [.ref P, .ref r, .int (nI (4 - f))] (some (.int (xTm P T r s f M).1)) X (xTm P T r s f M).2 := by
  intro f
  induction f with
  | zero => intro _ M; exact kt_0 hW hR M
  | succ f ih => intro h M; exact kt_s hW hR (by omega) (ih (by omega)) (kc_of hW hR (ih (by omega))) M
theorem k_X1_readCondition {l : Launch} {D : va_G} {cy : Nat → ClassId} {X : va_W} {G : pG} {P T r s : Nat} (hW : wPad G P T) (hR : wRule G r s) {M : pM} : jK l yX1_readCondition wsX1_readCondition (rC 4) D cy X G M [.ref P, .ref r, .int 0] (some (.int (xCn P T r s (xTm P T r s 4) M).1)) X (xCn P T r s (xTm P T r s 4) M).2 := kc_of hW hR (kt_all hW hR 4 (Nat.le_refl 4)) M

set_option maxHeartbeats 1600000 in
set_option maxRecDepth 100000 in
theorem k_X1_readInto {l : Launch} {D : va_G} {cy : Nat → ClassId} {X : va_W} {G : pG} {M : pM} {P T r s : Nat} (hW : wPad G P T) (hR : wRule G r s) : jK l yX1_readInto wsX1_readInto ({ frames := 12, cells := 0, slots := 0, locals := 275 } : Room) D cy X G M [.ref P, .ref r] (some (.int (xRI M P T r s).1)) X (xRI M P T r s).2 := by
  refine jK_of (own := RX1) (by decide) rfl rfl (Nat.le_of_ble_eq_true rfl) (fun C E hl hD hcy hG => ?_)
  subst hl; subst hD; subst hcy; subst hG
  have hinX1 : ∀ w ∈ u_ws RX1 TX1 3, w ∈ wsX1_readInto := by decide +kernel
  have hW0 := hW
  have hR0 := hR
  obtain ⟨hP1, hP2, hP3, hT1, hT2, hT3⟩ := hW
  obtain ⟨hr1, hr2, hr3, hs1, hs2, hs3⟩ := hR
  refine j_aload_n E dX1_readInto_0 rfl rfl ?_
  refine j_iconst (v := 0) E dX1_readInto_1 (by decide) ?_
  refine j_putI (ci := 1) (k := 2) (Cn := RX1) (T := TX1) (N := 3) E dX1_readInto_2 hP1 hP2 rfl (by decide) hinX1 (by decide +kernel) rfl tyX1 tyX1_ok nmX1 rfl rfl rfl rfl ?_
  refine j_aload_n E dX1_readInto_5 rfl rfl ?_
  refine j_callV0 (ci := 4) (n := 0) E (k_X4_clear hr1 hr2) dX1_readInto_6 gX1_readInto_X4_clear rfl (by decide +kernel) ⟨rfl, rfl, by decide, by decide⟩ ⟨Nat.zero_le _, Nat.zero_le _⟩ hr1 hr2 rfl rfl rfl (Nat.le_of_ble_eq_true rfl) rfl ?_
  refine j_aload_n E dX1_readInto_9 rfl rfl ?_
  refine j_aload_n E dX1_readInto_10 rfl rfl ?_
  refine j_iconst (v := 0) E dX1_readInto_11 (by decide) ?_
  refine j_callV1 (ci := 1) (n := 2) E (k_X1_readCondition hW0 hR0) dX1_readInto_12 gX1_readInto_X1_readCondition rfl (by decide +kernel) ⟨rfl, rfl, by decide, by decide⟩ ⟨Nat.zero_le _, Nat.zero_le _⟩ hP1 hP2 rfl rfl rfl (Nat.le_of_ble_eq_true rfl) rfl ?_
  refine j_if_eq (tgt := 41) E dX1_readInto_15 (by decide) (fun h15 => ?_) (fun h15 => ?_)
  · refine j_iconst (v := 0) E dX1_readInto_41 (by decide) ?_
    refine j_istore_n E dX1_readInto_42 rfl (by decide) ?_
    refine j_iload_n E dX1_readInto_43 rfl rfl ?_
    refine j_if_eq (tgt := 51) E dX1_readInto_44 (by decide) (fun h44 => ?_) (fun h44 => ?_)
    · refine j_aload_n E dX1_readInto_51 rfl rfl ?_
      refine j_getI (ci := 1) (k := 2) (Cn := RX1) (T := TX1) (N := 3) E dX1_readInto_52 hP1 hP2 rfl (by decide) hinX1 (by decide +kernel) rfl ?_
      exact j_iret E dX1_readInto_55 (by first | (simp [xRI, xI1, h15, h44]; done) | (exfalso; revert h15 h44; simp; done)) rfl (by first | (simp [xRI, xI1, h15, h44]; done) | (exfalso; revert h15 h44; simp; done))
    · refine j_iconst (v := -1) E dX1_readInto_47 (by decide) ?_
      refine j_goto (tgt := 55) E dX1_readInto_48 (by decide) ?_
      exact j_iret E dX1_readInto_55 (by first | (simp [xRI, xI1, h15, h44]; done) | (exfalso; revert h15 h44; simp; done)) rfl (by first | (simp [xRI, xI1, h15, h44]; done) | (exfalso; revert h15 h44; simp; done))
  · refine j_aload_n E dX1_readInto_18 rfl rfl ?_
    refine j_aload_n E dX1_readInto_19 rfl rfl ?_
    refine j_callV1 (ci := 1) (n := 1) E (k_X1_readTarget hW0 hR0) dX1_readInto_20 gX1_readInto_X1_readTarget rfl (by decide +kernel) ⟨rfl, rfl, by decide, by decide⟩ ⟨Nat.zero_le _, Nat.zero_le _⟩ hP1 hP2 rfl rfl rfl (Nat.le_of_ble_eq_true rfl) rfl ?_
    refine j_if_eq (tgt := 41) E dX1_readInto_23 (by decide) (fun h23 => ?_) (fun h23 => ?_)
    · refine j_iconst (v := 0) E dX1_readInto_41 (by decide) ?_
      refine j_istore_n E dX1_readInto_42 rfl (by decide) ?_
      refine j_iload_n E dX1_readInto_43 rfl rfl ?_
      refine j_if_eq (tgt := 51) E dX1_readInto_44 (by decide) (fun h44 => ?_) (fun h44 => ?_)
      · refine j_aload_n E dX1_readInto_51 rfl rfl ?_
        refine j_getI (ci := 1) (k := 2) (Cn := RX1) (T := TX1) (N := 3) E dX1_readInto_52 hP1 hP2 rfl (by decide) hinX1 (by decide +kernel) rfl ?_
        exact j_iret E dX1_readInto_55 (by first | (simp [xRI, xI1, h15, h23, h44]; done) | (exfalso; revert h15 h23 h44; simp; done)) rfl (by first | (simp [xRI, xI1, h15, h23, h44]; done) | (exfalso; revert h15 h23 h44; simp; done))
      · refine j_iconst (v := -1) E dX1_readInto_47 (by decide) ?_
        refine j_goto (tgt := 55) E dX1_readInto_48 (by decide) ?_
        exact j_iret E dX1_readInto_55 (by first | (simp [xRI, xI1, h15, h23, h44]; done) | (exfalso; revert h15 h23 h44; simp; done)) rfl (by first | (simp [xRI, xI1, h15, h23, h44]; done) | (exfalso; revert h15 h23 h44; simp; done))
    · refine j_aload_n E dX1_readInto_26 rfl rfl ?_
      refine j_getI (ci := 1) (k := 2) (Cn := RX1) (T := TX1) (N := 3) E dX1_readInto_27 hP1 hP2 rfl (by decide) hinX1 (by decide +kernel) rfl ?_
      refine j_aload_n E dX1_readInto_30 rfl rfl ?_
      refine j_getI (ci := 1) (k := 1) (Cn := RX1) (T := TX1) (N := 3) E dX1_readInto_31 hP1 hP2 rfl (by decide) hinX1 (by decide +kernel) rfl ?_
      refine j_icmp_ne (tgt := 41) E dX1_readInto_34 (by decide) (fun h34 => ?_) (fun h34 => ?_)
      · refine j_iconst (v := 0) E dX1_readInto_41 (by decide) ?_
        refine j_istore_n E dX1_readInto_42 rfl (by decide) ?_
        refine j_iload_n E dX1_readInto_43 rfl rfl ?_
        refine j_if_eq (tgt := 51) E dX1_readInto_44 (by decide) (fun h44 => ?_) (fun h44 => ?_)
        · refine j_aload_n E dX1_readInto_51 rfl rfl ?_
          refine j_getI (ci := 1) (k := 2) (Cn := RX1) (T := TX1) (N := 3) E dX1_readInto_52 hP1 hP2 rfl (by decide) hinX1 (by decide +kernel) rfl ?_
          exact j_iret E dX1_readInto_55 (by first | (simp [xRI, xI1, h15, h23, h34, h44]; done) | (exfalso; revert h15 h23 h34 h44; simp; done)) rfl (by first | (simp [xRI, xI1, h15, h23, h34, h44]; done) | (exfalso; revert h15 h23 h34 h44; simp; done))
        · refine j_iconst (v := -1) E dX1_readInto_47 (by decide) ?_
          refine j_goto (tgt := 55) E dX1_readInto_48 (by decide) ?_
          exact j_iret E dX1_readInto_55 (by first | (simp [xRI, xI1, h15, h23, h34, h44]; done) | (exfalso; revert h15 h23 h34 h44; simp; done)) rfl (by first | (simp [xRI, xI1, h15, h23, h34, h44]; done) | (exfalso; revert h15 h23 h34 h44; simp; done))
      · refine j_iconst (v := 1) E dX1_readInto_37 (by decide) ?_
        refine j_goto (tgt := 42) E dX1_readInto_38 (by decide) ?_
        refine j_istore_n E dX1_readInto_42 rfl (by decide) ?_
        refine j_iload_n E dX1_readInto_43 rfl rfl ?_
        refine j_if_eq (tgt := 51) E dX1_readInto_44 (by decide) (fun h44 => ?_) (fun h44 => ?_)
        · refine j_aload_n E dX1_readInto_51 rfl rfl ?_
          refine j_getI (ci := 1) (k := 2) (Cn := RX1) (T := TX1) (N := 3) E dX1_readInto_52 hP1 hP2 rfl (by decide) hinX1 (by decide +kernel) rfl ?_
          exact j_iret E dX1_readInto_55 (by first | (simp [xRI, xI1, h15, h23, h34, h44]; done) | (exfalso; revert h15 h23 h34 h44; simp; done)) rfl (by first | (simp [xRI, xI1, h15, h23, h34, h44]; done) | (exfalso; revert h15 h23 h34 h44; simp; done))
        · refine j_iconst (v := -1) E dX1_readInto_47 (by decide) ?_
          refine j_goto (tgt := 55) E dX1_readInto_48 (by decide) ?_
          exact j_iret E dX1_readInto_55 (by first | (simp [xRI, xI1, h15, h23, h34, h44]; done) | (exfalso; revert h15 h23 h34 h44; simp; done)) rfl (by first | (simp [xRI, xI1, h15, h23, h34, h44]; done) | (exfalso; revert h15 h23 h34 h44; simp; done))
end
section
/-! FirePanel: 0 ring, 1 zones, 2 rules, 3 outputsOn, 4 pad, 5 entries, 6 ruleCount, 7 polls, 8 entered, 9 silent. The addresses of a panel's cells: 0 the panel, 1 the ring, 2 its places, 3 + i a place, 19 the wires, 20 the zones, 21 + i a zone, 25 the rules, 26 + i a rule, 32 + i its steps, 38 the outputs, 39 the pad, 40 its text, 41 the log, 42 its words. -/
def wX (G : pG) (a : Nat → Nat) : Prop := (a 0 ∈ G.1 ∧ G.2.1 (a 0) = 6 ∧ G.2.2.2 (a 0) 0 = some (a 1) ∧ G.2.2.2 (a 0) 1 = some (a 20) ∧ G.2.2.2 (a 0) 2 = some (a 25) ∧ G.2.2.2 (a 0) 3 = some (a 38) ∧ G.2.2.2 (a 0) 4 = some (a 39) ∧ G.2.2.2 (a 0) 5 = some (a 41)) ∧
  wRing G (a 1) (a 2) (a 19) (fun i => a (3 + i)) ∧ (a 20 ∈ G.1 ∧ G.2.1 (a 20) = 14 ∧ G.2.2.1 (a 20) = 4 ∧ ∀ i, i < 4 → G.2.2.2 (a 20) i = some (a (21 + i)) ∧ a (21 + i) ∈ G.1 ∧ G.2.1 (a (21 + i)) = 5) ∧
  (a 25 ∈ G.1 ∧ G.2.1 (a 25) = 13 ∧ G.2.2.1 (a 25) = 6 ∧ ∀ i, i < 6 → G.2.2.2 (a 25) i = some (a (26 + i)) ∧ wRule G (a (26 + i)) (a (32 + i))) ∧ (a 38 ∈ G.1 ∧ G.2.1 (a 38) = 11 ∧ G.2.2.1 (a 38) = 6) ∧ wPad G (a 39) (a 40) ∧ wLog G (a 41) (a 42)
theorem xAdd_n (M : pM) {g w b : Nat} (u v c : Int32) (h1 : b ≠ g) (h2 : b ≠ w) : (xAdd M g w u v c).1 b = M.1 b := by
  unfold xAdd
  rw [pI_1n _ _ _ h1, pI_1n _ _ _ h2, pI_1n _ _ _ h2, pI_1n _ _ _ h2, pR_1n _ _ h2]
theorem xAdd_2 (M : pM) (g w : Nat) (u v c : Int32) : (xAdd M g w u v c).2 = M.2 := rfl
def okS (M : pM) (q : Nat) : Prop := (M.1 q 0 = 1 → okSmoke M q) ∧ (M.1 q 0 = 2 → okHeat M q)
def okW (M : pM) (q : Nat) : Prop := vf_n32 (FP.fmul (M.2 q 2) 1061158912)
def xMiss (a : Nat → Nat) (M : pM) (q : Nat) (n : Int32) : pM := if M.1 q 8 + 1 = 2 then xAdd (pI (pI M q 8 (M.1 q 8 + 1)) q 9 1) (a 41) (a 42) 2 n (M.1 (a 0) 7) else pI M q 8 (M.1 q 8 + 1)
def xAns1 (a : Nat → Nat) (M : pM) (q : Nat) (n : Int32) : pM := if M.1 q 9 = 0 then pI M q 8 0 else xAdd (pI (pI M q 8 0) q 9 0) (a 41) (a 42) 3 n (M.1 (a 0) 7)
def xAns (a : Nat → Nat) (M : pM) (q : Nat) (n : Int32) : pM := if M.1 q 10 = 0 then xSense (xAns1 a M q n) q else xAns1 a M q n
def xAsk1 (a : Nat → Nat) (w : Int32) (M : pM) (i : Nat) : pM := if xSens M (a (3 + i)) = 0 then M else if (w >>> (nI i &&& 31)) &&& 1 = 0 then xMiss a M (a (3 + i)) (nI i) else xAns a M (a (3 + i)) (nI i)
def xAskN (a : Nat → Nat) (w : Int32) : Nat → pM → pM
  | 0, M => M
  | i + 1, M => xAsk1 a w (xAskN a w i M) i
def xAsk (a : Nat → Nat) (M : pM) : pM := xAskN a (xReach M (fun i => a (3 + i)) (a 19)) 16 M
def xEnL (M : pM) (pl : Nat → Nat) (z need : Int32) : Nat → Nat → Int32 → Int32
  | 0, _, al => if al < need then 0 else 1
  | n + 1, i, al => if xWat M (pl i) z = 0 then xEnL M pl z need n (i + 1) al else if M.1 (pl i) 7 = 0 then xEnL M pl z need n (i + 1) al else if M.1 (pl i) 0 = 3 then 1 else xEnL M pl z need n (i + 1) (al + 1)
def xHwL (M : pM) (pl : Nat → Nat) (z : Int32) : Nat → Nat → Int32
  | 0, _ => 0
  | n + 1, i => if xWat M (pl i) z = 0 then xHwL M pl z n (i + 1) else if xWarn M (pl i) = 0 then xHwL M pl z n (i + 1) else 1
def xFtL (M : pM) (pl : Nat → Nat) : Nat → Nat → Int32 → Int32
  | 0, _, c => c
  | n + 1, i, c => xFtL M pl n (i + 1) (c + (if M.1 (pl i) 9 = 0 then 0 else 1))
def xFcL (a : Nat → Nat) (M : pM) : Nat → Nat → Int32 → Int32
  | 0, _, f => f
  | n + 1, i, f => xFcL a M n (i + 1) (if xHwL M (fun i => a (3 + i)) (nI i) 16 0 = 0 then (if M.1 (a (21 + i)) 1 = 0 then f else f ||| (1 <<< ((0 + nI i) &&& 31))) else (if M.1 (a (21 + i)) 1 = 0 then f else f ||| (1 <<< ((0 + nI i) &&& 31))) ||| (1 <<< ((4 + nI i) &&& 31)))
def xFacts (a : Nat → Nat) (M : pM) : Int32 := xFcL a M 4 0 (if xFtL M (fun i => a (3 + i)) 16 0 0 ≤ 0 then 0 else 256)
def xWz1 (a : Nat → Nat) (c : Int32 × pM) (i : Nat) : Int32 × pM := if c.2.1 (a (21 + i)) 2 = 0 then (if c.2.1 (a (21 + i)) 1 = 0 then (if xEnL c.2 (fun i => a (3 + i)) (nI i) (c.2.1 (a (21 + i)) 0) 16 0 0 = 0 then c else (c.1 + Int32.ofInt 1, xAdd (pI (pI c.2 (a (21 + i)) 1 1) (a 0) 9 0) (a 41) (a 42) 1 (nI i) (c.2.1 (a 0) 7))) else c) else c
def xWzN (a : Nat → Nat) : Nat → pM → Int32 × pM
  | 0, M => (0, M)
  | i + 1, M => xWz1 a (xWzN a i M) i
def xFo1 (a : Nat → Nat) (f : Int32) (M : pM) (i : Nat) : pM := if xTrue M (a (26 + i)) (a (32 + i)) f = 0 then pI M (a (26 + i)) 4 0 else pI M (a (26 + i)) 4 (M.1 (a (26 + i)) 4 + 1)
def xFo (a : Nat → Nat) (f : Int32) : Nat → Nat → pM → pM
  | 0, _, M => M
  | n + 1, i, M => if M.1 (a 0) 6 ≤ nI i then M else if 6 ≤ nI i then M else xFo a f n (i + 1) (xFo1 a f M i)
def xDvL (a : Nat → Nat) (M : pM) (o : Int32) : Nat → Nat → Int32
  | 0, _ => 0
  | n + 1, i => if M.1 (a 0) 6 ≤ nI i then 0 else if 6 ≤ nI i then 0 else if M.1 (a (26 + i)) 2 = o then (if M.1 (a (26 + i)) 4 ≤ M.1 (a (26 + i)) 3 then xDvL a M o n (i + 1) else 1) else xDvL a M o n (i + 1)
theorem xDvL_01 (a : Nat → Nat) (M : pM) (o : Int32) : ∀ n i, xDvL a M o n i = 0 ∨ xDvL a M o n i = 1
  | 0, _ => Or.inl rfl
  | n + 1, i => by
    unfold xDvL
    split
    · exact Or.inl rfl
    · split
      · exact Or.inl rfl
      · split
        · split
          · exact xDvL_01 a M o n (i + 1)
          · exact Or.inr rfl
        · exact xDvL_01 a M o n (i + 1)
def xDr1 (a : Nat → Nat) (M : pM) (i : Nat) : pM := if xDvL a M (nI i) 7 0 = 0 then pI M (a 38) i 0 else if M.1 (a 38) i = 0 then pI (xAdd M (a 41) (a 42) 4 (nI i) (M.1 (a 0) 7)) (a 38) i 1 else pI M (a 38) i 1
def xDrN (a : Nat → Nat) : Nat → pM → pM
  | 0, M => M
  | i + 1, M => xDr1 a (xDrN a i M) i
def xOffN (a : Nat → Nat) : Nat → pM → pM
  | 0, M => M
  | i + 1, M => pI (xOffN a i M) (a 38) i 0
def xP1 (a : Nat → Nat) (M : pM) : pM := xAsk a (pI M (a 0) 7 (M.1 (a 0) 7 + 1))
def xP2 (a : Nat → Nat) (M : pM) : pM := (xWzN a 4 (xP1 a M)).2
def xP3 (a : Nat → Nat) (M : pM) : pM := xFo a (xFacts a (xP2 a M)) 7 0 (xP2 a M)
def xPoll (a : Nat → Nat) (M : pM) : pM := xDrN a 6 (xP3 a M)
def xKey (c : Int32) : Int32 := if c = 2468 then 2 else if c = 1357 then 1 else 0
theorem lt_of_nge {i n : Nat} (h : ¬ nI n ≤ nI i) (hi : i < 2 ^ 31) : i < n := by
  rcases Nat.lt_or_ge i n with q | q
  · exact q
  · exact absurd (nI_le q hi) h

set_option maxHeartbeats 1600000 in
set_option maxRecDepth 100000 in
theorem k_X6_noteMiss {l : Launch} {D : va_G} {cy : Nat → ClassId} {X : va_W} {G : pG} {M : pM} {a : Nat → Nat} {q : Nat} {n : Int32} (hX : wX G a) (hq1 : q ∈ G.1) (hq2 : G.2.1 q = 2) : jK l yX6_noteMiss wsX6_noteMiss ({ frames := 2, cells := 0, slots := 0, locals := 83 } : Room) D cy X G M [.ref (a 0), .ref q, .int n] none X (xMiss a M q n) := by
  refine jK_of (own := RX6) (by decide) rfl rfl (Nat.le_of_ble_eq_true rfl) (fun C E hl hD hcy hG => ?_)
  subst hl; subst hD; subst hcy; subst hG
  have hinX2 : ∀ w ∈ u_ws RX2 TX2 11, w ∈ wsX6_noteMiss := by decide +kernel
  have hinX6 : ∀ w ∈ u_ws RX6 TX6 10, w ∈ wsX6_noteMiss := by decide +kernel
  have hX0 := hX
  obtain ⟨⟨hx1, hx2, hx3, hx4, hx5, hx6, hx7, hx8⟩, hRing, ⟨hz1, hz2, hz3, hz⟩, ⟨hu1, hu2, hu3, hu⟩, ⟨ho1, ho2, ho3⟩, hPad, hLog⟩ := hX
  have hRing0 := hRing
  obtain ⟨⟨hr1, hr2, hr3, hr4⟩, ⟨hp1, hp2, hp3⟩, ⟨hw1, hw2, hw3⟩, hpl⟩ := hRing
  have hLog0 := hLog
  obtain ⟨hg1, hg2, hg3, hv1, hv2, hv3⟩ := hLog
  have hPad0 := hPad
  obtain ⟨hP1, hP2, hP3, hT1, hT2, hT3⟩ := hPad
  have h0q : a 0 ≠ q := ne_kind hx2 hq2 (by decide)
  have hqg : q ≠ a 41 := ne_kind hq2 hg2 (by decide)
  have hqw : q ≠ a 42 := ne_kind hq2 hv2 (by decide)
  refine j_aload_n E dX6_noteMiss_0 rfl rfl ?_
  refine j_dup E dX6_noteMiss_1 rfl ?_
  refine j_getI (ci := 2) (k := 8) (Cn := RX2) (T := TX2) (N := 11) E dX6_noteMiss_2 hq1 hq2 rfl (by decide) hinX2 (by decide +kernel) rfl ?_
  refine j_iconst (v := 1) E dX6_noteMiss_5 (by decide) ?_
  refine j_iadd E dX6_noteMiss_6 ?_
  refine j_putI (ci := 2) (k := 8) (Cn := RX2) (T := TX2) (N := 11) E dX6_noteMiss_7 hq1 hq2 rfl (by decide) hinX2 (by decide +kernel) rfl tyX2 tyX2_ok nmX2 rfl rfl rfl rfl ?_
  refine j_aload_n E dX6_noteMiss_10 rfl rfl ?_
  refine j_getI (ci := 2) (k := 8) (Cn := RX2) (T := TX2) (N := 11) E dX6_noteMiss_11 hq1 hq2 rfl (by decide) hinX2 (by decide +kernel) rfl ?_
  try simp only [pI_rd, pF_rd, pR_rd, pI_2, pF_1, pR_2, Nat.reduceEqDiff, ↓reduceIte, (fun M k v => pI_1n M k v h0q)]
  refine j_iconst (v := 2) E dX6_noteMiss_14 (by decide) ?_
  refine j_icmp_ne (tgt := 36) E dX6_noteMiss_15 (by decide) (fun h15 => ?_) (fun h15 => ?_)
  · exact j_vret E dX6_noteMiss_36 rfl (by simp [xMiss, h15])
  · refine j_aload_n E dX6_noteMiss_18 rfl rfl ?_
    refine j_iconst (v := 1) E dX6_noteMiss_19 (by decide) ?_
    refine j_putI (ci := 2) (k := 9) (Cn := RX2) (T := TX2) (N := 11) E dX6_noteMiss_20 hq1 hq2 rfl (by decide) hinX2 (by decide +kernel) rfl tyX2 tyX2_ok nmX2 rfl rfl rfl rfl ?_
    refine j_aload_n E dX6_noteMiss_23 rfl rfl ?_
    refine j_getP (ci := 6) (k := 5) (Cn := RX6) (T := TX6) (N := 10) E dX6_noteMiss_24 hx1 hx2 rfl (by decide) hinX6 (by decide +kernel) rfl hx8 ?_
    refine j_iconst (v := 2) E dX6_noteMiss_27 (by decide) ?_
    refine j_iload_n E dX6_noteMiss_28 rfl rfl ?_
    refine j_aload_n E dX6_noteMiss_29 rfl rfl ?_
    refine j_getI (ci := 6) (k := 7) (Cn := RX6) (T := TX6) (N := 10) E dX6_noteMiss_30 hx1 hx2 rfl (by decide) hinX6 (by decide +kernel) rfl ?_
    try simp only [pI_rd, pF_rd, pR_rd, pI_2, pF_1, pR_2, Nat.reduceEqDiff, ↓reduceIte, (fun M k v => pI_1n M k v h0q)]
    refine j_callV0 (ci := 0) (n := 3) E (k_X0_add hLog0) dX6_noteMiss_33 gX6_noteMiss_X0_add rfl (by decide +kernel) ⟨rfl, rfl, by decide, by decide⟩ ⟨Nat.zero_le _, Nat.zero_le _⟩ hg1 hg2 rfl rfl rfl (Nat.le_of_ble_eq_true rfl) rfl ?_
    exact j_vret E dX6_noteMiss_36 rfl (by simp [xMiss, h15])

theorem xAns1_2 (a : Nat → Nat) (M : pM) (q : Nat) (n : Int32) : (xAns1 a M q n).2 = M.2 := by unfold xAns1; split <;> rfl

set_option maxHeartbeats 1600000 in
set_option maxRecDepth 100000 in
theorem k_X6_noteAnswer {l : Launch} {D : va_G} {cy : Nat → ClassId} {X : va_W} {G : pG} {M : pM} {a : Nat → Nat} {q : Nat} {n : Int32} (hX : wX G a) (hq1 : q ∈ G.1) (hq2 : G.2.1 q = 2) (hs : okS M q) : jK l yX6_noteAnswer wsX6_noteAnswer ({ frames := 3, cells := 0, slots := 0, locals := 83 } : Room) D cy X G M [.ref (a 0), .ref q, .int n] none X (xAns a M q n) := by
  refine jK_of (own := RX6) (by decide) rfl rfl (Nat.le_of_ble_eq_true rfl) (fun C E hl hD hcy hG => ?_)
  subst hl; subst hD; subst hcy; subst hG
  have hinX2 : ∀ w ∈ u_ws RX2 TX2 11, w ∈ wsX6_noteAnswer := by decide +kernel
  have hinX6 : ∀ w ∈ u_ws RX6 TX6 10, w ∈ wsX6_noteAnswer := by decide +kernel
  have hX0 := hX
  obtain ⟨⟨hx1, hx2, hx3, hx4, hx5, hx6, hx7, hx8⟩, hRing, ⟨hz1, hz2, hz3, hz⟩, ⟨hu1, hu2, hu3, hu⟩, ⟨ho1, ho2, ho3⟩, hPad, hLog⟩ := hX
  have hRing0 := hRing
  obtain ⟨⟨hr1, hr2, hr3, hr4⟩, ⟨hp1, hp2, hp3⟩, ⟨hw1, hw2, hw3⟩, hpl⟩ := hRing
  have hLog0 := hLog
  obtain ⟨hg1, hg2, hg3, hv1, hv2, hv3⟩ := hLog
  have hPad0 := hPad
  obtain ⟨hP1, hP2, hP3, hT1, hT2, hT3⟩ := hPad
  have h0q : a 0 ≠ q := ne_kind hx2 hq2 (by decide)
  have hqg : q ≠ a 41 := ne_kind hq2 hg2 (by decide)
  have hqw : q ≠ a 42 := ne_kind hq2 hv2 (by decide)
  refine j_aload_n E dX6_noteAnswer_0 rfl rfl ?_
  refine j_iconst (v := 0) E dX6_noteAnswer_1 (by decide) ?_
  refine j_putI (ci := 2) (k := 8) (Cn := RX2) (T := TX2) (N := 11) E dX6_noteAnswer_2 hq1 hq2 rfl (by decide) hinX2 (by decide +kernel) rfl tyX2 tyX2_ok nmX2 rfl rfl rfl rfl ?_
  refine j_aload_n E dX6_noteAnswer_5 rfl rfl ?_
  refine j_getI (ci := 2) (k := 9) (Cn := RX2) (T := TX2) (N := 11) E dX6_noteAnswer_6 hq1 hq2 rfl (by decide) hinX2 (by decide +kernel) rfl ?_
  try simp only [pI_rd, pF_rd, pR_rd, pI_2, pF_1, pR_2, Nat.reduceEqDiff, ↓reduceIte, (fun M k v => pI_1n M k v h0q), (fun M u v c => xAdd_n M u v c hqg hqw)]
  refine j_if_eq (tgt := 30) E dX6_noteAnswer_9 (by decide) (fun h9 => ?_) (fun h9 => ?_)
  · refine j_aload_n E dX6_noteAnswer_30 rfl rfl ?_
    refine j_getI (ci := 2) (k := 10) (Cn := RX2) (T := TX2) (N := 11) E dX6_noteAnswer_31 hq1 hq2 rfl (by decide) hinX2 (by decide +kernel) rfl ?_
    try simp only [pI_rd, pF_rd, pR_rd, pI_2, pF_1, pR_2, Nat.reduceEqDiff, ↓reduceIte, (fun M k v => pI_1n M k v h0q), (fun M u v c => xAdd_n M u v c hqg hqw)]
    refine j_if_ne (tgt := 41) E dX6_noteAnswer_34 (by decide) (fun h34 => ?_) (fun h34 => ?_)
    · exact j_vret E dX6_noteAnswer_41 rfl (by simp [xAns, xAns1, h9, h34])
    · refine j_aload_n E dX6_noteAnswer_37 rfl rfl ?_
      refine j_callV0 (ci := 2) (n := 0) E (k_X2_sense hq1 hq2 (by intro e; exact hs.1 (by simpa [pI_rd, xAdd_n _ _ _ _ hqg hqw] using e)) (by intro e; exact hs.2 (by simpa [pI_rd, xAdd_n _ _ _ _ hqg hqw] using e))) dX6_noteAnswer_38 gX6_noteAnswer_X2_sense rfl (by decide +kernel) ⟨rfl, rfl, by decide, by decide⟩ ⟨Nat.zero_le _, Nat.zero_le _⟩ hq1 hq2 rfl rfl rfl (Nat.le_of_ble_eq_true rfl) rfl ?_
      exact j_vret E dX6_noteAnswer_41 rfl (by simp [xAns, xAns1, h9, h34])
  · refine j_aload_n E dX6_noteAnswer_12 rfl rfl ?_
    refine j_iconst (v := 0) E dX6_noteAnswer_13 (by decide) ?_
    refine j_putI (ci := 2) (k := 9) (Cn := RX2) (T := TX2) (N := 11) E dX6_noteAnswer_14 hq1 hq2 rfl (by decide) hinX2 (by decide +kernel) rfl tyX2 tyX2_ok nmX2 rfl rfl rfl rfl ?_
    refine j_aload_n E dX6_noteAnswer_17 rfl rfl ?_
    refine j_getP (ci := 6) (k := 5) (Cn := RX6) (T := TX6) (N := 10) E dX6_noteAnswer_18 hx1 hx2 rfl (by decide) hinX6 (by decide +kernel) rfl hx8 ?_
    refine j_iconst (v := 3) E dX6_noteAnswer_21 (by decide) ?_
    refine j_iload_n E dX6_noteAnswer_22 rfl rfl ?_
    refine j_aload_n E dX6_noteAnswer_23 rfl rfl ?_
    refine j_getI (ci := 6) (k := 7) (Cn := RX6) (T := TX6) (N := 10) E dX6_noteAnswer_24 hx1 hx2 rfl (by decide) hinX6 (by decide +kernel) rfl ?_
    try simp only [pI_rd, pF_rd, pR_rd, pI_2, pF_1, pR_2, Nat.reduceEqDiff, ↓reduceIte, (fun M k v => pI_1n M k v h0q), (fun M u v c => xAdd_n M u v c hqg hqw)]
    refine j_callV0 (ci := 0) (n := 3) E (k_X0_add hLog0) dX6_noteAnswer_27 gX6_noteAnswer_X0_add rfl (by decide +kernel) ⟨rfl, rfl, by decide, by decide⟩ ⟨Nat.zero_le _, Nat.zero_le _⟩ hg1 hg2 rfl rfl rfl (Nat.le_of_ble_eq_true rfl) rfl ?_
    refine j_aload_n E dX6_noteAnswer_30 rfl rfl ?_
    refine j_getI (ci := 2) (k := 10) (Cn := RX2) (T := TX2) (N := 11) E dX6_noteAnswer_31 hq1 hq2 rfl (by decide) hinX2 (by decide +kernel) rfl ?_
    try simp only [pI_rd, pF_rd, pR_rd, pI_2, pF_1, pR_2, Nat.reduceEqDiff, ↓reduceIte, (fun M k v => pI_1n M k v h0q), (fun M u v c => xAdd_n M u v c hqg hqw)]
    refine j_if_ne (tgt := 41) E dX6_noteAnswer_34 (by decide) (fun h34 => ?_) (fun h34 => ?_)
    · exact j_vret E dX6_noteAnswer_41 rfl (by simp [xAns, xAns1, h9, h34])
    · refine j_aload_n E dX6_noteAnswer_37 rfl rfl ?_
      refine j_callV0 (ci := 2) (n := 0) E (k_X2_sense hq1 hq2 (by intro e; exact hs.1 (by simpa [pI_rd, xAdd_n _ _ _ _ hqg hqw] using e)) (by intro e; exact hs.2 (by simpa [pI_rd, xAdd_n _ _ _ _ hqg hqw] using e))) dX6_noteAnswer_38 gX6_noteAnswer_X2_sense rfl (by decide +kernel) ⟨rfl, rfl, by decide, by decide⟩ ⟨Nat.zero_le _, Nat.zero_le _⟩ hq1 hq2 rfl rfl rfl (Nat.le_of_ble_eq_true rfl) rfl ?_
      exact j_vret E dX6_noteAnswer_41 rfl (by simp [xAns, xAns1, h9, h34])

set_option maxHeartbeats 1600000 in
set_option maxRecDepth 100000 in
theorem kl_X6_askPlaces_10 {C : jC} (E : jE C cX6_askPlaces 4 wsX6_askPlaces RX6 none ({ frames := 4, cells := 0, slots := 0, locals := 105 } : Room)) {X : va_W} {M : pM} {a : Nat → Nat} {w : Int32} (hX : wX (jG C) a) (hok : ∀ i, i < 16 → okS (xAskN a w i M) (a (3 + i))) : ∀ (n i : Nat), i + n = 16 → jW C 4 10 [(0, .ref (a 0)), (1, .int w), (2, .int (nI i))] [] X (xAskN a w i M) 0 0 (jZ C X (xAskN a w 16 M) none 0 0) := by
  have hinX3 : ∀ w ∈ u_ws RX3 TX3 2, w ∈ wsX6_askPlaces := by decide +kernel
  have hinX6 : ∀ w ∈ u_ws RX6 TX6 10, w ∈ wsX6_askPlaces := by decide +kernel
  have hX0 := hX
  obtain ⟨⟨hx1, hx2, hx3, hx4, hx5, hx6, hx7, hx8⟩, hRing, ⟨hz1, hz2, hz3, hz⟩, ⟨hu1, hu2, hu3, hu⟩, ⟨ho1, ho2, ho3⟩, hPad, hLog⟩ := hX
  have hRing0 := hRing
  obtain ⟨⟨hr1, hr2, hr3, hr4⟩, ⟨hp1, hp2, hp3⟩, ⟨hw1, hw2, hw3⟩, hpl⟩ := hRing
  have hLog0 := hLog
  obtain ⟨hg1, hg2, hg3, hv1, hv2, hv3⟩ := hLog
  have hPad0 := hPad
  obtain ⟨hP1, hP2, hP3, hT1, hT2, hT3⟩ := hPad
  intro n
  induction n with
  | zero =>
    intro i hn
    obtain rfl : i = 16 := by omega
    refine j_iload_n E dX6_askPlaces_10 rfl rfl ?_
    refine j_bipush (v := 16) E dX6_askPlaces_11 (by decide) ?_
    refine j_icmp_ge (tgt := 65) E dX6_askPlaces_13 (by decide) (fun h => ?_) (fun h => absurd (by decide) h)
    exact j_vret E dX6_askPlaces_65 rfl rfl
  | succ n ih =>
    intro i hn
    have hi : i < 16 := by omega
    obtain ⟨q1, q2, q3⟩ := hpl i hi
    refine j_iload_n E dX6_askPlaces_10 rfl rfl ?_
    refine j_bipush (v := 16) E dX6_askPlaces_11 (by decide) ?_
    refine j_icmp_ge (tgt := 65) E dX6_askPlaces_13 (by decide) (fun h13 => ?_) (fun h13 => ?_)
    · exact absurd h13 (nI_ge (b := 16) hi (by decide))
    · refine j_aload_n E dX6_askPlaces_16 rfl rfl ?_
      refine j_getP (ci := 6) (k := 0) (Cn := RX6) (T := TX6) (N := 10) E dX6_askPlaces_17 hx1 hx2 rfl (by decide) hinX6 (by decide +kernel) rfl hx3 ?_
      refine j_getP (ci := 3) (k := 0) (Cn := RX3) (T := TX3) (N := 2) E dX6_askPlaces_20 hr1 hr2 rfl (by decide) hinX3 (by decide +kernel) rfl hr3 ?_
      refine j_iload_n E dX6_askPlaces_23 rfl rfl ?_
      refine j_aldP E dX6_askPlaces_24 hp1 hp3 rfl hi (by decide) hp2 q1 ?_
      refine j_astore_n E dX6_askPlaces_25 rfl (by decide) ?_
      refine j_aload_n E dX6_askPlaces_26 rfl rfl ?_
      refine j_callV1 (ci := 2) (n := 0) E (k_X2_isSensor (by assumption) (by assumption)) dX6_askPlaces_27 gX6_askPlaces_X2_isSensor rfl (by decide +kernel) ⟨rfl, rfl, by decide, by decide⟩ ⟨Nat.zero_le _, Nat.zero_le _⟩ q2 q3 rfl rfl rfl (Nat.le_of_ble_eq_true rfl) rfl ?_
      refine j_if_ne (tgt := 36) E dX6_askPlaces_30 (by decide) (fun h30 => ?_) (fun h30 => ?_)
      · refine j_iload_n E dX6_askPlaces_36 rfl rfl ?_
        refine j_iload_n E dX6_askPlaces_37 rfl rfl ?_
        refine j_ishr E dX6_askPlaces_38 ?_
        refine j_iconst (v := 1) E dX6_askPlaces_39 (by decide) ?_
        refine j_iand E dX6_askPlaces_40 ?_
        refine j_if_ne (tgt := 53) E dX6_askPlaces_41 (by decide) (fun h41 => ?_) (fun h41 => ?_)
        · refine j_aload_n E dX6_askPlaces_53 rfl rfl ?_
          refine j_aload_n E dX6_askPlaces_54 rfl rfl ?_
          refine j_iload_n E dX6_askPlaces_55 rfl rfl ?_
          refine j_callV0 (ci := 6) (n := 2) E (k_X6_noteAnswer hX0 q2 q3 (hok i hi)) dX6_askPlaces_56 gX6_askPlaces_X6_noteAnswer rfl (by decide +kernel) ⟨rfl, rfl, by decide, by decide⟩ ⟨Nat.zero_le _, Nat.zero_le _⟩ hx1 hx2 rfl rfl rfl (Nat.le_of_ble_eq_true rfl) rfl ?_
          refine j_iinc E dX6_askPlaces_59 rfl (by decide) ?_
          refine j_goto (tgt := 10) E dX6_askPlaces_62 (by decide) ?_
          exact j_lv [0, 1, 2] rfl (by rw [nI_inc]; exact j_M (M' := xAskN a w (i + 1) M) (by simp [xAskN, xAsk1, h13, h30, h41]) (ih (i + 1) (by omega)))
        · refine j_aload_n E dX6_askPlaces_44 rfl rfl ?_
          refine j_aload_n E dX6_askPlaces_45 rfl rfl ?_
          refine j_iload_n E dX6_askPlaces_46 rfl rfl ?_
          refine j_callV0 (ci := 6) (n := 2) E (k_X6_noteMiss hX0 q2 q3) dX6_askPlaces_47 gX6_askPlaces_X6_noteMiss rfl (by decide +kernel) ⟨rfl, rfl, by decide, by decide⟩ ⟨Nat.zero_le _, Nat.zero_le _⟩ hx1 hx2 rfl rfl rfl (Nat.le_of_ble_eq_true rfl) rfl ?_
          refine j_goto (tgt := 59) E dX6_askPlaces_50 (by decide) ?_
          refine j_iinc E dX6_askPlaces_59 rfl (by decide) ?_
          refine j_goto (tgt := 10) E dX6_askPlaces_62 (by decide) ?_
          exact j_lv [0, 1, 2] rfl (by rw [nI_inc]; exact j_M (M' := xAskN a w (i + 1) M) (by simp [xAskN, xAsk1, h13, h30, h41]) (ih (i + 1) (by omega)))
      · refine j_goto (tgt := 59) E dX6_askPlaces_33 (by decide) ?_
        refine j_iinc E dX6_askPlaces_59 rfl (by decide) ?_
        refine j_goto (tgt := 10) E dX6_askPlaces_62 (by decide) ?_
        exact j_lv [0, 1, 2] rfl (by rw [nI_inc]; exact j_M (M' := xAskN a w (i + 1) M) (by simp [xAskN, xAsk1, h13, h30]) (ih (i + 1) (by omega)))

set_option maxHeartbeats 1600000 in
set_option maxRecDepth 100000 in
theorem k_X6_askPlaces {l : Launch} {D : va_G} {cy : Nat → ClassId} {X : va_W} {G : pG} {M : pM} {a : Nat → Nat} (hX : wX G a) (hok : ∀ i, i < 16 → okS (xAskN a (xReach M (fun i => a (3 + i)) (a 19)) i M) (a (3 + i))) : jK l yX6_askPlaces wsX6_askPlaces ({ frames := 4, cells := 0, slots := 0, locals := 105 } : Room) D cy X G M [.ref (a 0)] none X (xAsk a M) := by
  refine jK_of (own := RX6) (by decide) rfl rfl (Nat.le_of_ble_eq_true rfl) (fun C E hl hD hcy hG => ?_)
  subst hl; subst hD; subst hcy; subst hG
  have hinX6 : ∀ w ∈ u_ws RX6 TX6 10, w ∈ wsX6_askPlaces := by decide +kernel
  have hX0 := hX
  obtain ⟨⟨hx1, hx2, hx3, hx4, hx5, hx6, hx7, hx8⟩, hRing, ⟨hz1, hz2, hz3, hz⟩, ⟨hu1, hu2, hu3, hu⟩, ⟨ho1, ho2, ho3⟩, hPad, hLog⟩ := hX
  have hRing0 := hRing
  obtain ⟨⟨hr1, hr2, hr3, hr4⟩, ⟨hp1, hp2, hp3⟩, ⟨hw1, hw2, hw3⟩, hpl⟩ := hRing
  have hLog0 := hLog
  obtain ⟨hg1, hg2, hg3, hv1, hv2, hv3⟩ := hLog
  have hPad0 := hPad
  obtain ⟨hP1, hP2, hP3, hT1, hT2, hT3⟩ := hPad
  refine j_aload_n E dX6_askPlaces_0 rfl rfl ?_
  refine j_getP (ci := 6) (k := 0) (Cn := RX6) (T := TX6) (N := 10) E dX6_askPlaces_1 hx1 hx2 rfl (by decide) hinX6 (by decide +kernel) rfl hx3 ?_
  refine j_callV1 (ci := 3) (n := 0) E (k_X3_reachedPlaces hRing0) dX6_askPlaces_4 gX6_askPlaces_X3_reachedPlaces rfl (by decide +kernel) ⟨rfl, rfl, by decide, by decide⟩ ⟨Nat.zero_le _, Nat.zero_le _⟩ hr1 hr2 rfl rfl rfl (Nat.le_of_ble_eq_true rfl) rfl ?_
  refine j_istore_n E dX6_askPlaces_7 rfl (by decide) ?_
  refine j_iconst (v := 0) E dX6_askPlaces_8 (by decide) ?_
  refine j_istore_n E dX6_askPlaces_9 rfl (by decide) ?_
  exact j_lv [0, 1, 2] rfl (kl_X6_askPlaces_10 E hX0 hok 16 0 (by omega))

set_option maxHeartbeats 1600000 in
set_option maxRecDepth 100000 in
theorem kl_X6_hasEnoughAlarms_19 {C : jC} (E : jE C cX6_hasEnoughAlarms 8 wsX6_hasEnoughAlarms RX6 (some .boolean) ({ frames := 2, cells := 0, slots := 0, locals := 41 } : Room)) {X : va_W} {M : pM} {a : Nat → Nat} {z d : Int32} (hX : wX (jG C) a) : ∀ (n i : Nat) (al : Int32), i + n = 16 → jW C 8 19 [(0, .ref (a 0)), (1, .int z), (2, .int d), (3, .int al), (4, .ref (a 2)), (5, .int 16), (6, .int (nI i))] [] X M 0 0 (jZ C X M (some (.int (xEnL M (fun i => a (3 + i)) z d n i al))) 0 0) := by
  have hinX2 : ∀ w ∈ u_ws RX2 TX2 11, w ∈ wsX6_hasEnoughAlarms := by decide +kernel
  have hX0 := hX
  obtain ⟨⟨hx1, hx2, hx3, hx4, hx5, hx6, hx7, hx8⟩, hRing, ⟨hz1, hz2, hz3, hz⟩, ⟨hu1, hu2, hu3, hu⟩, ⟨ho1, ho2, ho3⟩, hPad, hLog⟩ := hX
  have hRing0 := hRing
  obtain ⟨⟨hr1, hr2, hr3, hr4⟩, ⟨hp1, hp2, hp3⟩, ⟨hw1, hw2, hw3⟩, hpl⟩ := hRing
  have hLog0 := hLog
  obtain ⟨hg1, hg2, hg3, hv1, hv2, hv3⟩ := hLog
  have hPad0 := hPad
  obtain ⟨hP1, hP2, hP3, hT1, hT2, hT3⟩ := hPad
  intro n
  induction n with
  | zero =>
    intro i al hn
    obtain rfl : i = 16 := by omega
    refine j_iload E dX6_hasEnoughAlarms_19 rfl ?_
    refine j_iload E dX6_hasEnoughAlarms_21 rfl ?_
    refine j_icmp_ge (tgt := 70) E dX6_hasEnoughAlarms_23 (by decide) (fun h => ?_) (fun h => absurd (by decide) h)
    refine j_iload_n E dX6_hasEnoughAlarms_70 rfl rfl ?_
    refine j_iload_n E dX6_hasEnoughAlarms_71 rfl rfl ?_
    refine j_icmp_lt (tgt := 79) E dX6_hasEnoughAlarms_72 (by decide) (fun h72 => ?_) (fun h72 => ?_)
    · refine j_iconst (v := 0) E dX6_hasEnoughAlarms_79 (by decide) ?_
      exact j_zret E dX6_hasEnoughAlarms_80 rfl (by first | rfl | (simp [xEnL, h72]; done)) rfl (by first | rfl | (simp [xEnL, h72]; done))
    · refine j_iconst (v := 1) E dX6_hasEnoughAlarms_75 (by decide) ?_
      refine j_goto (tgt := 80) E dX6_hasEnoughAlarms_76 (by decide) ?_
      exact j_zret E dX6_hasEnoughAlarms_80 rfl (by first | rfl | (simp [xEnL, h72]; done)) rfl (by first | rfl | (simp [xEnL, h72]; done))
  | succ n ih =>
    intro i al hn
    have hi : i < 16 := by omega
    obtain ⟨q1, q2, q3⟩ := hpl i hi
    refine j_iload E dX6_hasEnoughAlarms_19 rfl ?_
    refine j_iload E dX6_hasEnoughAlarms_21 rfl ?_
    refine j_icmp_ge (tgt := 70) E dX6_hasEnoughAlarms_23 (by decide) (fun h23 => ?_) (fun h23 => ?_)
    · exact absurd h23 (nI_ge (b := 16) hi (by decide))
    · refine j_aload E dX6_hasEnoughAlarms_26 rfl ?_
      refine j_iload E dX6_hasEnoughAlarms_28 rfl ?_
      refine j_aldP E dX6_hasEnoughAlarms_30 hp1 hp3 rfl hi (by decide) hp2 q1 ?_
      refine j_astore E dX6_hasEnoughAlarms_31 (by decide) ?_
      refine j_aload E dX6_hasEnoughAlarms_33 rfl ?_
      refine j_iload_n E dX6_hasEnoughAlarms_35 rfl rfl ?_
      refine j_callV1 (ci := 2) (n := 1) E (k_X2_watches q2 q3) dX6_hasEnoughAlarms_36 gX6_hasEnoughAlarms_X2_watches rfl (by decide +kernel) ⟨rfl, rfl, by decide, by decide⟩ ⟨Nat.zero_le _, Nat.zero_le _⟩ q2 q3 rfl rfl rfl (Nat.le_of_ble_eq_true rfl) rfl ?_
      refine j_if_eq (tgt := 64) E dX6_hasEnoughAlarms_39 (by decide) (fun h39 => ?_) (fun h39 => ?_)
      · refine j_iinc E dX6_hasEnoughAlarms_64 rfl (by decide) ?_
        refine j_goto (tgt := 19) E dX6_hasEnoughAlarms_67 (by decide) ?_
        exact j_lv [0, 1, 2, 3, 4, 5, 6] rfl (by rw [nI_inc]; exact j_r (by simp [xEnL, h23, h39]; try rfl) rfl (ih (i + 1) _ (by omega)))
      · refine j_aload E dX6_hasEnoughAlarms_42 rfl ?_
        refine j_getI (ci := 2) (k := 7) (Cn := RX2) (T := TX2) (N := 11) E dX6_hasEnoughAlarms_44 q2 q3 rfl (by decide) hinX2 (by decide +kernel) rfl ?_
        refine j_if_eq (tgt := 64) E dX6_hasEnoughAlarms_47 (by decide) (fun h47 => ?_) (fun h47 => ?_)
        · refine j_iinc E dX6_hasEnoughAlarms_64 rfl (by decide) ?_
          refine j_goto (tgt := 19) E dX6_hasEnoughAlarms_67 (by decide) ?_
          exact j_lv [0, 1, 2, 3, 4, 5, 6] rfl (by rw [nI_inc]; exact j_r (by simp [xEnL, h23, h39, h47]; try rfl) rfl (ih (i + 1) _ (by omega)))
        · refine j_aload E dX6_hasEnoughAlarms_50 rfl ?_
          refine j_getI (ci := 2) (k := 0) (Cn := RX2) (T := TX2) (N := 11) E dX6_hasEnoughAlarms_52 q2 q3 rfl (by decide) hinX2 (by decide +kernel) rfl ?_
          refine j_iconst (v := 3) E dX6_hasEnoughAlarms_55 (by decide) ?_
          refine j_icmp_ne (tgt := 61) E dX6_hasEnoughAlarms_56 (by decide) (fun h56 => ?_) (fun h56 => ?_)
          · refine j_iinc E dX6_hasEnoughAlarms_61 rfl (by decide) ?_
            refine j_iinc E dX6_hasEnoughAlarms_64 rfl (by decide) ?_
            refine j_goto (tgt := 19) E dX6_hasEnoughAlarms_67 (by decide) ?_
            exact j_lv [0, 1, 2, 3, 4, 5, 6] rfl (by rw [nI_inc]; exact j_r (by simp [xEnL, h23, h39, h47, h56]; try rfl) rfl (ih (i + 1) _ (by omega)))
          · refine j_iconst (v := 1) E dX6_hasEnoughAlarms_59 (by decide) ?_
            exact j_zret E dX6_hasEnoughAlarms_60 rfl (by first | rfl | (simp [xEnL, h23, h39, h47, h56]; done)) rfl (by first | rfl | (simp [xEnL, h23, h39, h47, h56]; done))

set_option maxHeartbeats 1600000 in
set_option maxRecDepth 100000 in
theorem k_X6_hasEnoughAlarms {l : Launch} {D : va_G} {cy : Nat → ClassId} {X : va_W} {G : pG} {M : pM} {a : Nat → Nat} {z d : Int32} (hX : wX G a) : jK l yX6_hasEnoughAlarms wsX6_hasEnoughAlarms ({ frames := 2, cells := 0, slots := 0, locals := 41 } : Room) D cy X G M [.ref (a 0), .int z, .int d] (some (.int (xEnL M (fun i => a (3 + i)) z d 16 0 0))) X M := by
  refine jK_of (own := RX6) (by decide) rfl rfl (Nat.le_of_ble_eq_true rfl) (fun C E hl hD hcy hG => ?_)
  subst hl; subst hD; subst hcy; subst hG
  have hinX3 : ∀ w ∈ u_ws RX3 TX3 2, w ∈ wsX6_hasEnoughAlarms := by decide +kernel
  have hinX6 : ∀ w ∈ u_ws RX6 TX6 10, w ∈ wsX6_hasEnoughAlarms := by decide +kernel
  have hX0 := hX
  obtain ⟨⟨hx1, hx2, hx3, hx4, hx5, hx6, hx7, hx8⟩, hRing, ⟨hz1, hz2, hz3, hz⟩, ⟨hu1, hu2, hu3, hu⟩, ⟨ho1, ho2, ho3⟩, hPad, hLog⟩ := hX
  have hRing0 := hRing
  obtain ⟨⟨hr1, hr2, hr3, hr4⟩, ⟨hp1, hp2, hp3⟩, ⟨hw1, hw2, hw3⟩, hpl⟩ := hRing
  have hLog0 := hLog
  obtain ⟨hg1, hg2, hg3, hv1, hv2, hv3⟩ := hLog
  have hPad0 := hPad
  obtain ⟨hP1, hP2, hP3, hT1, hT2, hT3⟩ := hPad
  refine j_iconst (v := 0) E dX6_hasEnoughAlarms_0 (by decide) ?_
  refine j_istore_n E dX6_hasEnoughAlarms_1 rfl (by decide) ?_
  refine j_aload_n E dX6_hasEnoughAlarms_2 rfl rfl ?_
  refine j_getP (ci := 6) (k := 0) (Cn := RX6) (T := TX6) (N := 10) E dX6_hasEnoughAlarms_3 hx1 hx2 rfl (by decide) hinX6 (by decide +kernel) rfl hx3 ?_
  refine j_getP (ci := 3) (k := 0) (Cn := RX3) (T := TX3) (N := 2) E dX6_hasEnoughAlarms_6 hr1 hr2 rfl (by decide) hinX3 (by decide +kernel) rfl hr3 ?_
  refine j_astore E dX6_hasEnoughAlarms_9 (by decide) ?_
  refine j_aload E dX6_hasEnoughAlarms_11 rfl ?_
  refine j_lenP (v := 16) E dX6_hasEnoughAlarms_13 hp1 hp3 hp2 rfl ?_
  refine j_istore E dX6_hasEnoughAlarms_14 (by decide) ?_
  refine j_iconst (v := 0) E dX6_hasEnoughAlarms_16 (by decide) ?_
  refine j_istore E dX6_hasEnoughAlarms_17 (by decide) ?_
  exact j_lv [0, 1, 2, 3, 4, 5, 6] rfl (kl_X6_hasEnoughAlarms_19 E hX0 16 0 0 (by omega))

set_option maxHeartbeats 1600000 in
set_option maxRecDepth 100000 in
theorem kl_X6_hasWarning_14 {C : jC} (E : jE C cX6_hasWarning 6 wsX6_hasWarning RX6 (some .boolean) ({ frames := 2, cells := 0, slots := 0, locals := 41 } : Room)) {X : va_W} {M : pM} {a : Nat → Nat} {z : Int32} (hX : wX (jG C) a) (hok : ∀ i, i < 16 → okW M (a (3 + i))) : ∀ (n i : Nat), i + n = 16 → jW C 6 14 [(0, .ref (a 0)), (1, .int z), (2, .ref (a 2)), (3, .int 16), (4, .int (nI i))] [] X M 0 0 (jZ C X M (some (.int (xHwL M (fun i => a (3 + i)) z n i))) 0 0) := by

  have hX0 := hX
  obtain ⟨⟨hx1, hx2, hx3, hx4, hx5, hx6, hx7, hx8⟩, hRing, ⟨hz1, hz2, hz3, hz⟩, ⟨hu1, hu2, hu3, hu⟩, ⟨ho1, ho2, ho3⟩, hPad, hLog⟩ := hX
  have hRing0 := hRing
  obtain ⟨⟨hr1, hr2, hr3, hr4⟩, ⟨hp1, hp2, hp3⟩, ⟨hw1, hw2, hw3⟩, hpl⟩ := hRing
  have hLog0 := hLog
  obtain ⟨hg1, hg2, hg3, hv1, hv2, hv3⟩ := hLog
  have hPad0 := hPad
  obtain ⟨hP1, hP2, hP3, hT1, hT2, hT3⟩ := hPad
  intro n
  induction n with
  | zero =>
    intro i hn
    obtain rfl : i = 16 := by omega
    refine j_iload E dX6_hasWarning_14 rfl ?_
    refine j_iload_n E dX6_hasWarning_16 rfl rfl ?_
    refine j_icmp_ge (tgt := 51) E dX6_hasWarning_17 (by decide) (fun h => ?_) (fun h => absurd (by decide) h)
    refine j_iconst (v := 0) E dX6_hasWarning_51 (by decide) ?_
    exact j_zret E dX6_hasWarning_52 rfl (by first | rfl | (simp [xHwL, true_and]; done)) rfl (by first | rfl | (simp [xHwL, true_and]; done))
  | succ n ih =>
    intro i hn
    have hi : i < 16 := by omega
    obtain ⟨q1, q2, q3⟩ := hpl i hi
    refine j_iload E dX6_hasWarning_14 rfl ?_
    refine j_iload_n E dX6_hasWarning_16 rfl rfl ?_
    refine j_icmp_ge (tgt := 51) E dX6_hasWarning_17 (by decide) (fun h17 => ?_) (fun h17 => ?_)
    · exact absurd h17 (nI_ge (b := 16) hi (by decide))
    · refine j_aload_n E dX6_hasWarning_20 rfl rfl ?_
      refine j_iload E dX6_hasWarning_21 rfl ?_
      refine j_aldP E dX6_hasWarning_23 hp1 hp3 rfl hi (by decide) hp2 q1 ?_
      refine j_astore E dX6_hasWarning_24 (by decide) ?_
      refine j_aload E dX6_hasWarning_26 rfl ?_
      refine j_iload_n E dX6_hasWarning_28 rfl rfl ?_
      refine j_callV1 (ci := 2) (n := 1) E (k_X2_watches q2 q3) dX6_hasWarning_29 gX6_hasWarning_X2_watches rfl (by decide +kernel) ⟨rfl, rfl, by decide, by decide⟩ ⟨Nat.zero_le _, Nat.zero_le _⟩ q2 q3 rfl rfl rfl (Nat.le_of_ble_eq_true rfl) rfl ?_
      refine j_if_eq (tgt := 45) E dX6_hasWarning_32 (by decide) (fun h32 => ?_) (fun h32 => ?_)
      · refine j_iinc E dX6_hasWarning_45 rfl (by decide) ?_
        refine j_goto (tgt := 14) E dX6_hasWarning_48 (by decide) ?_
        exact j_lv [0, 1, 2, 3, 4] rfl (by rw [nI_inc]; exact j_r (by simp [xHwL, h17, h32]) rfl (ih (i + 1) (by omega)))
      · refine j_aload E dX6_hasWarning_35 rfl ?_
        refine j_callV1 (ci := 2) (n := 0) E (k_X2_warns q2 q3 (hok i hi)) dX6_hasWarning_37 gX6_hasWarning_X2_warns rfl (by decide +kernel) ⟨rfl, rfl, by decide, by decide⟩ ⟨Nat.zero_le _, Nat.zero_le _⟩ q2 q3 rfl rfl rfl (Nat.le_of_ble_eq_true rfl) rfl ?_
        refine j_if_eq (tgt := 45) E dX6_hasWarning_40 (by decide) (fun h40 => ?_) (fun h40 => ?_)
        · refine j_iinc E dX6_hasWarning_45 rfl (by decide) ?_
          refine j_goto (tgt := 14) E dX6_hasWarning_48 (by decide) ?_
          exact j_lv [0, 1, 2, 3, 4] rfl (by rw [nI_inc]; exact j_r (by simp [xHwL, h17, h32, h40]) rfl (ih (i + 1) (by omega)))
        · refine j_iconst (v := 1) E dX6_hasWarning_43 (by decide) ?_
          exact j_zret E dX6_hasWarning_44 rfl (by first | rfl | (simp [xHwL, h17, h32, h40]; done)) rfl (by first | rfl | (simp [xHwL, h17, h32, h40]; done))

set_option maxHeartbeats 1600000 in
set_option maxRecDepth 100000 in
theorem k_X6_hasWarning {l : Launch} {D : va_G} {cy : Nat → ClassId} {X : va_W} {G : pG} {M : pM} {a : Nat → Nat} {z : Int32} (hX : wX G a) (hok : ∀ i, i < 16 → okW M (a (3 + i))) : jK l yX6_hasWarning wsX6_hasWarning ({ frames := 2, cells := 0, slots := 0, locals := 41 } : Room) D cy X G M [.ref (a 0), .int z] (some (.int (xHwL M (fun i => a (3 + i)) z 16 0))) X M := by
  refine jK_of (own := RX6) (by decide) rfl rfl (Nat.le_of_ble_eq_true rfl) (fun C E hl hD hcy hG => ?_)
  subst hl; subst hD; subst hcy; subst hG
  have hinX3 : ∀ w ∈ u_ws RX3 TX3 2, w ∈ wsX6_hasWarning := by decide +kernel
  have hinX6 : ∀ w ∈ u_ws RX6 TX6 10, w ∈ wsX6_hasWarning := by decide +kernel
  have hX0 := hX
  obtain ⟨⟨hx1, hx2, hx3, hx4, hx5, hx6, hx7, hx8⟩, hRing, ⟨hz1, hz2, hz3, hz⟩, ⟨hu1, hu2, hu3, hu⟩, ⟨ho1, ho2, ho3⟩, hPad, hLog⟩ := hX
  have hRing0 := hRing
  obtain ⟨⟨hr1, hr2, hr3, hr4⟩, ⟨hp1, hp2, hp3⟩, ⟨hw1, hw2, hw3⟩, hpl⟩ := hRing
  have hLog0 := hLog
  obtain ⟨hg1, hg2, hg3, hv1, hv2, hv3⟩ := hLog
  have hPad0 := hPad
  obtain ⟨hP1, hP2, hP3, hT1, hT2, hT3⟩ := hPad
  refine j_aload_n E dX6_hasWarning_0 rfl rfl ?_
  refine j_getP (ci := 6) (k := 0) (Cn := RX6) (T := TX6) (N := 10) E dX6_hasWarning_1 hx1 hx2 rfl (by decide) hinX6 (by decide +kernel) rfl hx3 ?_
  refine j_getP (ci := 3) (k := 0) (Cn := RX3) (T := TX3) (N := 2) E dX6_hasWarning_4 hr1 hr2 rfl (by decide) hinX3 (by decide +kernel) rfl hr3 ?_
  refine j_astore_n E dX6_hasWarning_7 rfl (by decide) ?_
  refine j_aload_n E dX6_hasWarning_8 rfl rfl ?_
  refine j_lenP (v := 16) E dX6_hasWarning_9 hp1 hp3 hp2 rfl ?_
  refine j_istore_n E dX6_hasWarning_10 rfl (by decide) ?_
  refine j_iconst (v := 0) E dX6_hasWarning_11 (by decide) ?_
  refine j_istore E dX6_hasWarning_12 (by decide) ?_
  exact j_lv [0, 1, 2, 3, 4] rfl (kl_X6_hasWarning_14 E hX0 hok 16 0 (by omega))

set_option maxHeartbeats 1600000 in
set_option maxRecDepth 100000 in
theorem kl_X6_faults_16 {C : jC} (E : jE C cX6_faults 6 wsX6_faults RX6 (some .int) ({ frames := 0, cells := 0, slots := 0, locals := 0 } : Room)) {X : va_W} {M : pM} {a : Nat → Nat} (hX : wX (jG C) a) : ∀ (n i : Nat) (c : Int32), i + n = 16 → jW C 6 16 [(0, .ref (a 0)), (1, .int c), (2, .ref (a 2)), (3, .int 16), (4, .int (nI i))] [] X M 0 0 (jZ C X M (some (.int (xFtL M (fun i => a (3 + i)) n i c))) 0 0) := by
  have hinX2 : ∀ w ∈ u_ws RX2 TX2 11, w ∈ wsX6_faults := by decide +kernel
  have hX0 := hX
  obtain ⟨⟨hx1, hx2, hx3, hx4, hx5, hx6, hx7, hx8⟩, hRing, ⟨hz1, hz2, hz3, hz⟩, ⟨hu1, hu2, hu3, hu⟩, ⟨ho1, ho2, ho3⟩, hPad, hLog⟩ := hX
  have hRing0 := hRing
  obtain ⟨⟨hr1, hr2, hr3, hr4⟩, ⟨hp1, hp2, hp3⟩, ⟨hw1, hw2, hw3⟩, hpl⟩ := hRing
  have hLog0 := hLog
  obtain ⟨hg1, hg2, hg3, hv1, hv2, hv3⟩ := hLog
  have hPad0 := hPad
  obtain ⟨hP1, hP2, hP3, hT1, hT2, hT3⟩ := hPad
  intro n
  induction n with
  | zero =>
    intro i c hn
    obtain rfl : i = 16 := by omega
    refine j_iload E dX6_faults_16 rfl ?_
    refine j_iload_n E dX6_faults_18 rfl rfl ?_
    refine j_icmp_ge (tgt := 50) E dX6_faults_19 (by decide) (fun h => ?_) (fun h => absurd (by decide) h)
    refine j_iload_n E dX6_faults_50 rfl rfl ?_
    exact j_iret E dX6_faults_51 (by rfl) rfl (by rfl)
  | succ n ih =>
    intro i c hn
    have hi : i < 16 := by omega
    obtain ⟨q1, q2, q3⟩ := hpl i hi
    refine j_iload E dX6_faults_16 rfl ?_
    refine j_iload_n E dX6_faults_18 rfl rfl ?_
    refine j_icmp_ge (tgt := 50) E dX6_faults_19 (by decide) (fun h19 => ?_) (fun h19 => ?_)
    · exact absurd h19 (nI_ge (b := 16) hi (by decide))
    · refine j_aload_n E dX6_faults_22 rfl rfl ?_
      refine j_iload E dX6_faults_23 rfl ?_
      refine j_aldP E dX6_faults_25 hp1 hp3 rfl hi (by decide) hp2 q1 ?_
      refine j_astore E dX6_faults_26 (by decide) ?_
      refine j_iload_n E dX6_faults_28 rfl rfl ?_
      refine j_aload E dX6_faults_29 rfl ?_
      refine j_getI (ci := 2) (k := 9) (Cn := RX2) (T := TX2) (N := 11) E dX6_faults_31 q2 q3 rfl (by decide) hinX2 (by decide +kernel) rfl ?_
      refine j_if_eq (tgt := 41) E dX6_faults_34 (by decide) (fun h34 => ?_) (fun h34 => ?_)
      · refine j_iconst (v := 0) E dX6_faults_41 (by decide) ?_
        refine j_iadd E dX6_faults_42 ?_
        refine j_istore_n E dX6_faults_43 rfl (by decide) ?_
        refine j_iinc E dX6_faults_44 rfl (by decide) ?_
        refine j_goto (tgt := 16) E dX6_faults_47 (by decide) ?_
        exact j_lv [0, 1, 2, 3, 4] rfl (by rw [nI_inc]; exact j_r (by simp [xFtL, h19, h34]) rfl (ih (i + 1) _ (by omega)))
      · refine j_iconst (v := 1) E dX6_faults_37 (by decide) ?_
        refine j_goto (tgt := 42) E dX6_faults_38 (by decide) ?_
        refine j_iadd E dX6_faults_42 ?_
        refine j_istore_n E dX6_faults_43 rfl (by decide) ?_
        refine j_iinc E dX6_faults_44 rfl (by decide) ?_
        refine j_goto (tgt := 16) E dX6_faults_47 (by decide) ?_
        exact j_lv [0, 1, 2, 3, 4] rfl (by rw [nI_inc]; exact j_r (by simp [xFtL, h19, h34]) rfl (ih (i + 1) _ (by omega)))

set_option maxHeartbeats 1600000 in
set_option maxRecDepth 100000 in
theorem k_X6_faults {l : Launch} {D : va_G} {cy : Nat → ClassId} {X : va_W} {G : pG} {M : pM} {a : Nat → Nat} (hX : wX G a) : jK l yX6_faults wsX6_faults ({ frames := 0, cells := 0, slots := 0, locals := 0 } : Room) D cy X G M [.ref (a 0)] (some (.int (xFtL M (fun i => a (3 + i)) 16 0 0))) X M := by
  refine jK_of (own := RX6) (by decide) rfl rfl (Nat.le_of_ble_eq_true rfl) (fun C E hl hD hcy hG => ?_)
  subst hl; subst hD; subst hcy; subst hG
  have hinX3 : ∀ w ∈ u_ws RX3 TX3 2, w ∈ wsX6_faults := by decide +kernel
  have hinX6 : ∀ w ∈ u_ws RX6 TX6 10, w ∈ wsX6_faults := by decide +kernel
  have hX0 := hX
  obtain ⟨⟨hx1, hx2, hx3, hx4, hx5, hx6, hx7, hx8⟩, hRing, ⟨hz1, hz2, hz3, hz⟩, ⟨hu1, hu2, hu3, hu⟩, ⟨ho1, ho2, ho3⟩, hPad, hLog⟩ := hX
  have hRing0 := hRing
  obtain ⟨⟨hr1, hr2, hr3, hr4⟩, ⟨hp1, hp2, hp3⟩, ⟨hw1, hw2, hw3⟩, hpl⟩ := hRing
  have hLog0 := hLog
  obtain ⟨hg1, hg2, hg3, hv1, hv2, hv3⟩ := hLog
  have hPad0 := hPad
  obtain ⟨hP1, hP2, hP3, hT1, hT2, hT3⟩ := hPad
  refine j_iconst (v := 0) E dX6_faults_0 (by decide) ?_
  refine j_istore_n E dX6_faults_1 rfl (by decide) ?_
  refine j_aload_n E dX6_faults_2 rfl rfl ?_
  refine j_getP (ci := 6) (k := 0) (Cn := RX6) (T := TX6) (N := 10) E dX6_faults_3 hx1 hx2 rfl (by decide) hinX6 (by decide +kernel) rfl hx3 ?_
  refine j_getP (ci := 3) (k := 0) (Cn := RX3) (T := TX3) (N := 2) E dX6_faults_6 hr1 hr2 rfl (by decide) hinX3 (by decide +kernel) rfl hr3 ?_
  refine j_astore_n E dX6_faults_9 rfl (by decide) ?_
  refine j_aload_n E dX6_faults_10 rfl rfl ?_
  refine j_lenP (v := 16) E dX6_faults_11 hp1 hp3 hp2 rfl ?_
  refine j_istore_n E dX6_faults_12 rfl (by decide) ?_
  refine j_iconst (v := 0) E dX6_faults_13 (by decide) ?_
  refine j_istore E dX6_faults_14 (by decide) ?_
  exact j_lv [0, 1, 2, 3, 4] rfl (kl_X6_faults_16 E hX0 16 0 0 (by omega))

set_option maxHeartbeats 1600000 in
set_option maxRecDepth 100000 in
theorem kl_X6_facts_17 {C : jC} (E : jE C cX6_facts 3 wsX6_facts RX6 (some .int) ({ frames := 3, cells := 0, slots := 0, locals := 66 } : Room)) {X : va_W} {M : pM} {a : Nat → Nat} (hX : wX (jG C) a) (hok : ∀ i, i < 16 → okW M (a (3 + i))) : ∀ (n i : Nat) (f : Int32), i + n = 4 → jW C 3 17 [(0, .ref (a 0)), (1, .int f), (2, .int (nI i))] [] X M 0 0 (jZ C X M (some (.int (xFcL a M n i f))) 0 0) := by
  have hinX5 : ∀ w ∈ u_ws RX5 TX5 3, w ∈ wsX6_facts := by decide +kernel
  have hinX6 : ∀ w ∈ u_ws RX6 TX6 10, w ∈ wsX6_facts := by decide +kernel
  have hX0 := hX
  obtain ⟨⟨hx1, hx2, hx3, hx4, hx5, hx6, hx7, hx8⟩, hRing, ⟨hz1, hz2, hz3, hz⟩, ⟨hu1, hu2, hu3, hu⟩, ⟨ho1, ho2, ho3⟩, hPad, hLog⟩ := hX
  have hRing0 := hRing
  obtain ⟨⟨hr1, hr2, hr3, hr4⟩, ⟨hp1, hp2, hp3⟩, ⟨hw1, hw2, hw3⟩, hpl⟩ := hRing
  have hLog0 := hLog
  obtain ⟨hg1, hg2, hg3, hv1, hv2, hv3⟩ := hLog
  have hPad0 := hPad
  obtain ⟨hP1, hP2, hP3, hT1, hT2, hT3⟩ := hPad
  intro n
  induction n with
  | zero =>
    intro i f hn
    obtain rfl : i = 4 := by omega
    refine j_iload_n E dX6_facts_17 rfl rfl ?_
    refine j_iconst (v := 4) E dX6_facts_18 (by decide) ?_
    refine j_icmp_ge (tgt := 64) E dX6_facts_19 (by decide) (fun h => ?_) (fun h => absurd (by decide) h)
    refine j_iload_n E dX6_facts_64 rfl rfl ?_
    exact j_iret E dX6_facts_65 (by rfl) rfl (by rfl)
  | succ n ih =>
    intro i f hn
    have hi : i < 4 := by omega
    obtain ⟨q1, q2, q3⟩ := hz i hi
    refine j_iload_n E dX6_facts_17 rfl rfl ?_
    refine j_iconst (v := 4) E dX6_facts_18 (by decide) ?_
    refine j_icmp_ge (tgt := 64) E dX6_facts_19 (by decide) (fun h19 => ?_) (fun h19 => ?_)
    · exact absurd h19 (nI_ge (b := 4) hi (by decide))
    · refine j_aload_n E dX6_facts_22 rfl rfl ?_
      refine j_getP (ci := 6) (k := 1) (Cn := RX6) (T := TX6) (N := 10) E dX6_facts_23 hx1 hx2 rfl (by decide) hinX6 (by decide +kernel) rfl hx4 ?_
      refine j_iload_n E dX6_facts_26 rfl rfl ?_
      refine j_aldZ E dX6_facts_27 hz1 hz3 rfl hi (by decide) hz2 q1 ?_
      refine j_getI (ci := 5) (k := 1) (Cn := RX5) (T := TX5) (N := 3) E dX6_facts_28 q2 q3 rfl (by decide) hinX5 (by decide +kernel) rfl ?_
      refine j_if_eq (tgt := 42) E dX6_facts_31 (by decide) (fun h31 => ?_) (fun h31 => ?_)
      · refine j_aload_n E dX6_facts_42 rfl rfl ?_
        refine j_iload_n E dX6_facts_43 rfl rfl ?_
        refine j_callV1 (ci := 6) (n := 1) E (k_X6_hasWarning hX0 hok) dX6_facts_44 gX6_facts_X6_hasWarning rfl (by decide +kernel) ⟨rfl, rfl, by decide, by decide⟩ ⟨Nat.zero_le _, Nat.zero_le _⟩ hx1 hx2 rfl rfl rfl (Nat.le_of_ble_eq_true rfl) rfl ?_
        refine j_if_eq (tgt := 58) E dX6_facts_47 (by decide) (fun h47 => ?_) (fun h47 => ?_)
        · refine j_iinc E dX6_facts_58 rfl (by decide) ?_
          refine j_goto (tgt := 17) E dX6_facts_61 (by decide) ?_
          exact j_lv [0, 1, 2] rfl (by rw [nI_inc]; exact j_r (by simp [xFcL, h19, h31, h47]) rfl (ih (i + 1) _ (by omega)))
        · refine j_iload_n E dX6_facts_50 rfl rfl ?_
          refine j_iconst (v := 1) E dX6_facts_51 (by decide) ?_
          refine j_iconst (v := 4) E dX6_facts_52 (by decide) ?_
          refine j_iload_n E dX6_facts_53 rfl rfl ?_
          refine j_iadd E dX6_facts_54 ?_
          refine j_ishl E dX6_facts_55 ?_
          refine j_ior E dX6_facts_56 ?_
          refine j_istore_n E dX6_facts_57 rfl (by decide) ?_
          refine j_iinc E dX6_facts_58 rfl (by decide) ?_
          refine j_goto (tgt := 17) E dX6_facts_61 (by decide) ?_
          exact j_lv [0, 1, 2] rfl (by rw [nI_inc]; exact j_r (by simp [xFcL, h19, h31, h47]) rfl (ih (i + 1) _ (by omega)))
      · refine j_iload_n E dX6_facts_34 rfl rfl ?_
        refine j_iconst (v := 1) E dX6_facts_35 (by decide) ?_
        refine j_iconst (v := 0) E dX6_facts_36 (by decide) ?_
        refine j_iload_n E dX6_facts_37 rfl rfl ?_
        refine j_iadd E dX6_facts_38 ?_
        refine j_ishl E dX6_facts_39 ?_
        refine j_ior E dX6_facts_40 ?_
        refine j_istore_n E dX6_facts_41 rfl (by decide) ?_
        refine j_aload_n E dX6_facts_42 rfl rfl ?_
        refine j_iload_n E dX6_facts_43 rfl rfl ?_
        refine j_callV1 (ci := 6) (n := 1) E (k_X6_hasWarning hX0 hok) dX6_facts_44 gX6_facts_X6_hasWarning rfl (by decide +kernel) ⟨rfl, rfl, by decide, by decide⟩ ⟨Nat.zero_le _, Nat.zero_le _⟩ hx1 hx2 rfl rfl rfl (Nat.le_of_ble_eq_true rfl) rfl ?_
        refine j_if_eq (tgt := 58) E dX6_facts_47 (by decide) (fun h47 => ?_) (fun h47 => ?_)
        · refine j_iinc E dX6_facts_58 rfl (by decide) ?_
          refine j_goto (tgt := 17) E dX6_facts_61 (by decide) ?_
          exact j_lv [0, 1, 2] rfl (by rw [nI_inc]; exact j_r (by simp [xFcL, h19, h31, h47]) rfl (ih (i + 1) _ (by omega)))
        · refine j_iload_n E dX6_facts_50 rfl rfl ?_
          refine j_iconst (v := 1) E dX6_facts_51 (by decide) ?_
          refine j_iconst (v := 4) E dX6_facts_52 (by decide) ?_
          refine j_iload_n E dX6_facts_53 rfl rfl ?_
          refine j_iadd E dX6_facts_54 ?_
          refine j_ishl E dX6_facts_55 ?_
          refine j_ior E dX6_facts_56 ?_
          refine j_istore_n E dX6_facts_57 rfl (by decide) ?_
          refine j_iinc E dX6_facts_58 rfl (by decide) ?_
          refine j_goto (tgt := 17) E dX6_facts_61 (by decide) ?_
          exact j_lv [0, 1, 2] rfl (by rw [nI_inc]; exact j_r (by simp [xFcL, h19, h31, h47]) rfl (ih (i + 1) _ (by omega)))

set_option maxHeartbeats 1600000 in
set_option maxRecDepth 100000 in
theorem k_X6_facts {l : Launch} {D : va_G} {cy : Nat → ClassId} {X : va_W} {G : pG} {M : pM} {a : Nat → Nat} (hX : wX G a) (hok : ∀ i, i < 16 → okW M (a (3 + i))) : jK l yX6_facts wsX6_facts ({ frames := 3, cells := 0, slots := 0, locals := 66 } : Room) D cy X G M [.ref (a 0)] (some (.int (xFacts a M))) X M := by
  refine jK_of (own := RX6) (by decide) rfl rfl (Nat.le_of_ble_eq_true rfl) (fun C E hl hD hcy hG => ?_)
  subst hl; subst hD; subst hcy; subst hG

  have hX0 := hX
  obtain ⟨⟨hx1, hx2, hx3, hx4, hx5, hx6, hx7, hx8⟩, hRing, ⟨hz1, hz2, hz3, hz⟩, ⟨hu1, hu2, hu3, hu⟩, ⟨ho1, ho2, ho3⟩, hPad, hLog⟩ := hX
  have hRing0 := hRing
  obtain ⟨⟨hr1, hr2, hr3, hr4⟩, ⟨hp1, hp2, hp3⟩, ⟨hw1, hw2, hw3⟩, hpl⟩ := hRing
  have hLog0 := hLog
  obtain ⟨hg1, hg2, hg3, hv1, hv2, hv3⟩ := hLog
  have hPad0 := hPad
  obtain ⟨hP1, hP2, hP3, hT1, hT2, hT3⟩ := hPad
  refine j_aload_n E dX6_facts_0 rfl rfl ?_
  refine j_callV1 (ci := 6) (n := 0) E (k_X6_faults hX0) dX6_facts_1 gX6_facts_X6_faults rfl (by decide +kernel) ⟨rfl, rfl, by decide, by decide⟩ ⟨Nat.zero_le _, Nat.zero_le _⟩ hx1 hx2 rfl rfl rfl (Nat.le_of_ble_eq_true rfl) rfl ?_
  refine j_if_le (tgt := 13) E dX6_facts_4 (by decide) (fun h4 => ?_) (fun h4 => ?_)
  · refine j_iconst (v := 0) E dX6_facts_13 (by decide) ?_
    refine j_istore_n E dX6_facts_14 rfl (by decide) ?_
    refine j_iconst (v := 0) E dX6_facts_15 (by decide) ?_
    refine j_istore_n E dX6_facts_16 rfl (by decide) ?_
    exact j_lv [0, 1, 2] rfl (j_r (by simp [xFacts, h4]) rfl (kl_X6_facts_17 E hX0 hok 4 0 _ (by omega)))
  · refine j_sipush (v := 256) E dX6_facts_7 (by decide) ?_
    refine j_goto (tgt := 14) E dX6_facts_10 (by decide) ?_
    refine j_istore_n E dX6_facts_14 rfl (by decide) ?_
    refine j_iconst (v := 0) E dX6_facts_15 (by decide) ?_
    refine j_istore_n E dX6_facts_16 rfl (by decide) ?_
    exact j_lv [0, 1, 2] rfl (j_r (by simp [xFacts, h4]) rfl (kl_X6_facts_17 E hX0 hok 4 0 _ (by omega)))
end
section
theorem nar01 {v : Int32} (h : v = 0 ∨ v = 1) : vp_nar .boolean v = v := by rcases h with rfl | rfl <;> rfl
theorem xApp_01 (M : pM) (P T : Nat) (c : Int32) : (xApp M P T c).1 = 0 ∨ (xApp M P T c).1 = 1 := by
  unfold xApp
  split
  · exact Or.inl rfl
  · split
    · exact Or.inl rfl
    · split
      · exact Or.inr rfl
      · exact Or.inl rfl

set_option maxHeartbeats 1600000 in
set_option maxRecDepth 100000 in
theorem kl_X6_watchZones_4 {C : jC} (E : jE C cX6_watchZones 4 wsX6_watchZones RX6 (some .int) ({ frames := 3, cells := 0, slots := 0, locals := 83 } : Room)) {X : va_W} {M : pM} {a : Nat → Nat} (hX : wX (jG C) a) : ∀ (n i : Nat), i + n = 4 → jW C 4 4 [(0, .ref (a 0)), (1, .int (xWzN a i M).1), (2, .int (nI i))] [] X (xWzN a i M).2 0 0 (jZ C X (xWzN a 4 M).2 (some (.int (xWzN a 4 M).1)) 0 0) := by
  have hinX5 : ∀ w ∈ u_ws RX5 TX5 3, w ∈ wsX6_watchZones := by decide +kernel
  have hinX6 : ∀ w ∈ u_ws RX6 TX6 10, w ∈ wsX6_watchZones := by decide +kernel
  have hX0 := hX
  obtain ⟨⟨hx1, hx2, hx3, hx4, hx5, hx6, hx7, hx8⟩, hRing, ⟨hz1, hz2, hz3, hz⟩, ⟨hu1, hu2, hu3, hu⟩, ⟨ho1, ho2, ho3⟩, hPad, hLog⟩ := hX
  have hRing0 := hRing
  obtain ⟨⟨hr1, hr2, hr3, hr4⟩, ⟨hp1, hp2, hp3⟩, ⟨hw1, hw2, hw3⟩, hpl⟩ := hRing
  have hLog0 := hLog
  obtain ⟨hg1, hg2, hg3, hv1, hv2, hv3⟩ := hLog
  have hPad0 := hPad
  obtain ⟨hP1, hP2, hP3, hT1, hT2, hT3⟩ := hPad
  intro n
  induction n with
  | zero =>
    intro i hn
    obtain rfl : i = 4 := by omega
    refine j_iload_n E dX6_watchZones_4 rfl rfl ?_
    refine j_iconst (v := 4) E dX6_watchZones_5 (by decide) ?_
    refine j_icmp_ge (tgt := 74) E dX6_watchZones_6 (by decide) (fun h => ?_) (fun h => absurd (by decide) h)
    refine j_iload_n E dX6_watchZones_74 rfl rfl ?_
    exact j_iret E dX6_watchZones_75 (by rfl) rfl (by rfl)
  | succ n ih =>
    intro i hn
    have hi : i < 4 := by omega
    obtain ⟨q1, q2, q3⟩ := hz i hi
    have h0z : a 0 ≠ a (21 + i) := ne_kind hx2 q3 (by decide)
    refine j_iload_n E dX6_watchZones_4 rfl rfl ?_
    refine j_iconst (v := 4) E dX6_watchZones_5 (by decide) ?_
    refine j_icmp_ge (tgt := 74) E dX6_watchZones_6 (by decide) (fun h6 => ?_) (fun h6 => ?_)
    · exact absurd h6 (nI_ge (b := 4) hi (by decide))
    · refine j_aload_n E dX6_watchZones_9 rfl rfl ?_
      refine j_getP (ci := 6) (k := 1) (Cn := RX6) (T := TX6) (N := 10) E dX6_watchZones_10 hx1 hx2 rfl (by decide) hinX6 (by decide +kernel) rfl hx4 ?_
      refine j_iload_n E dX6_watchZones_13 rfl rfl ?_
      refine j_aldZ E dX6_watchZones_14 hz1 hz3 rfl hi (by decide) hz2 q1 ?_
      refine j_astore_n E dX6_watchZones_15 rfl (by decide) ?_
      refine j_aload_n E dX6_watchZones_16 rfl rfl ?_
      refine j_getI (ci := 5) (k := 2) (Cn := RX5) (T := TX5) (N := 3) E dX6_watchZones_17 q2 q3 rfl (by decide) hinX5 (by decide +kernel) rfl ?_
      refine j_if_ne (tgt := 68) E dX6_watchZones_20 (by decide) (fun h20 => ?_) (fun h20 => ?_)
      · refine j_iinc E dX6_watchZones_68 rfl (by decide) ?_
        refine j_goto (tgt := 4) E dX6_watchZones_71 (by decide) ?_
        exact j_lv [0, 1, 2] rfl (by rw [nI_inc]; have h9 := ih (i + 1) (by omega); simp only [xWzN, xWz1, h6, h20, ↓reduceIte] at h9; exact h9)
      · refine j_aload_n E dX6_watchZones_23 rfl rfl ?_
        refine j_getI (ci := 5) (k := 1) (Cn := RX5) (T := TX5) (N := 3) E dX6_watchZones_24 q2 q3 rfl (by decide) hinX5 (by decide +kernel) rfl ?_
        refine j_if_ne (tgt := 68) E dX6_watchZones_27 (by decide) (fun h27 => ?_) (fun h27 => ?_)
        · refine j_iinc E dX6_watchZones_68 rfl (by decide) ?_
          refine j_goto (tgt := 4) E dX6_watchZones_71 (by decide) ?_
          exact j_lv [0, 1, 2] rfl (by rw [nI_inc]; have h9 := ih (i + 1) (by omega); simp only [xWzN, xWz1, h6, h20, h27, ↓reduceIte] at h9; exact h9)
        · refine j_aload_n E dX6_watchZones_30 rfl rfl ?_
          refine j_iload_n E dX6_watchZones_31 rfl rfl ?_
          refine j_aload_n E dX6_watchZones_32 rfl rfl ?_
          refine j_getI (ci := 5) (k := 0) (Cn := RX5) (T := TX5) (N := 3) E dX6_watchZones_33 q2 q3 rfl (by decide) hinX5 (by decide +kernel) rfl ?_
          refine j_callV1 (ci := 6) (n := 2) E (k_X6_hasEnoughAlarms hX0) dX6_watchZones_36 gX6_watchZones_X6_hasEnoughAlarms rfl (by decide +kernel) ⟨rfl, rfl, by decide, by decide⟩ ⟨Nat.zero_le _, Nat.zero_le _⟩ hx1 hx2 rfl rfl rfl (Nat.le_of_ble_eq_true rfl) rfl ?_
          refine j_if_eq (tgt := 68) E dX6_watchZones_39 (by decide) (fun h39 => ?_) (fun h39 => ?_)
          · refine j_iinc E dX6_watchZones_68 rfl (by decide) ?_
            refine j_goto (tgt := 4) E dX6_watchZones_71 (by decide) ?_
            exact j_lv [0, 1, 2] rfl (by rw [nI_inc]; have h9 := ih (i + 1) (by omega); simp only [xWzN, xWz1, h6, h20, h27, h39, ↓reduceIte] at h9; exact h9)
          · refine j_aload_n E dX6_watchZones_42 rfl rfl ?_
            refine j_iconst (v := 1) E dX6_watchZones_43 (by decide) ?_
            refine j_putI (ci := 5) (k := 1) (Cn := RX5) (T := TX5) (N := 3) E dX6_watchZones_44 q2 q3 rfl (by decide) hinX5 (by decide +kernel) rfl tyX5 tyX5_ok nmX5 rfl rfl rfl rfl ?_
            refine j_aload_n E dX6_watchZones_47 rfl rfl ?_
            refine j_iconst (v := 0) E dX6_watchZones_48 (by decide) ?_
            refine j_putI (ci := 6) (k := 9) (Cn := RX6) (T := TX6) (N := 10) E dX6_watchZones_49 hx1 hx2 rfl (by decide) hinX6 (by decide +kernel) rfl tyX6 tyX6_ok nmX6 rfl rfl rfl rfl ?_
            refine j_aload_n E dX6_watchZones_52 rfl rfl ?_
            refine j_getP (ci := 6) (k := 5) (Cn := RX6) (T := TX6) (N := 10) E dX6_watchZones_53 hx1 hx2 rfl (by decide) hinX6 (by decide +kernel) rfl hx8 ?_
            refine j_iconst (v := 1) E dX6_watchZones_56 (by decide) ?_
            refine j_iload_n E dX6_watchZones_57 rfl rfl ?_
            refine j_aload_n E dX6_watchZones_58 rfl rfl ?_
            refine j_getI (ci := 6) (k := 7) (Cn := RX6) (T := TX6) (N := 10) E dX6_watchZones_59 hx1 hx2 rfl (by decide) hinX6 (by decide +kernel) rfl ?_
            try simp only [pI_rd, pF_rd, pR_rd, pI_2, pF_1, pR_2, Nat.reduceEqDiff, ↓reduceIte, (fun M k v => pI_1n M k v h0z)]
            refine j_callV0 (ci := 0) (n := 3) E (k_X0_add hLog0) dX6_watchZones_62 gX6_watchZones_X0_add rfl (by decide +kernel) ⟨rfl, rfl, by decide, by decide⟩ ⟨Nat.zero_le _, Nat.zero_le _⟩ hg1 hg2 rfl rfl rfl (Nat.le_of_ble_eq_true rfl) rfl ?_
            refine j_iinc E dX6_watchZones_65 rfl (by decide) ?_
            refine j_iinc E dX6_watchZones_68 rfl (by decide) ?_
            refine j_goto (tgt := 4) E dX6_watchZones_71 (by decide) ?_
            exact j_lv [0, 1, 2] rfl (by rw [nI_inc]; have h9 := ih (i + 1) (by omega); simp only [xWzN, xWz1, h6, h20, h27, h39, ↓reduceIte] at h9; exact h9)

set_option maxHeartbeats 1600000 in
set_option maxRecDepth 100000 in
theorem k_X6_watchZones {l : Launch} {D : va_G} {cy : Nat → ClassId} {X : va_W} {G : pG} {M : pM} {a : Nat → Nat} (hX : wX G a) : jK l yX6_watchZones wsX6_watchZones ({ frames := 3, cells := 0, slots := 0, locals := 83 } : Room) D cy X G M [.ref (a 0)] (some (.int (xWzN a 4 M).1)) X (xWzN a 4 M).2 := by
  refine jK_of (own := RX6) (by decide) rfl rfl (Nat.le_of_ble_eq_true rfl) (fun C E hl hD hcy hG => ?_)
  subst hl; subst hD; subst hcy; subst hG

  have hX0 := hX
  obtain ⟨⟨hx1, hx2, hx3, hx4, hx5, hx6, hx7, hx8⟩, hRing, ⟨hz1, hz2, hz3, hz⟩, ⟨hu1, hu2, hu3, hu⟩, ⟨ho1, ho2, ho3⟩, hPad, hLog⟩ := hX
  have hRing0 := hRing
  obtain ⟨⟨hr1, hr2, hr3, hr4⟩, ⟨hp1, hp2, hp3⟩, ⟨hw1, hw2, hw3⟩, hpl⟩ := hRing
  have hLog0 := hLog
  obtain ⟨hg1, hg2, hg3, hv1, hv2, hv3⟩ := hLog
  have hPad0 := hPad
  obtain ⟨hP1, hP2, hP3, hT1, hT2, hT3⟩ := hPad
  refine j_iconst (v := 0) E dX6_watchZones_0 (by decide) ?_
  refine j_istore_n E dX6_watchZones_1 rfl (by decide) ?_
  refine j_iconst (v := 0) E dX6_watchZones_2 (by decide) ?_
  refine j_istore_n E dX6_watchZones_3 rfl (by decide) ?_
  exact j_lv [0, 1, 2] rfl (kl_X6_watchZones_4 E hX0 4 0 (by omega))

set_option maxHeartbeats 1600000 in
set_option maxRecDepth 100000 in
theorem kl_X6_followRules_7 {C : jC} (E : jE C cX6_followRules 4 wsX6_followRules RX6 none ({ frames := 4, cells := 0, slots := 0, locals := 88 } : Room)) {X : va_W} {a : Nat → Nat} {f : Int32} (hX : wX (jG C) a) : ∀ (n i : Nat) (M : pM), i ≤ 6 → i + n = 7 → jW C 4 7 [(0, .ref (a 0)), (1, .int f), (2, .int (nI i))] [] X M 0 0 (jZ C X (xFo a f n i M) none 0 0) := by
  have hinX4 : ∀ w ∈ u_ws RX4 TX4 5, w ∈ wsX6_followRules := by decide +kernel
  have hinX6 : ∀ w ∈ u_ws RX6 TX6 10, w ∈ wsX6_followRules := by decide +kernel
  have hX0 := hX
  obtain ⟨⟨hx1, hx2, hx3, hx4, hx5, hx6, hx7, hx8⟩, hRing, ⟨hz1, hz2, hz3, hz⟩, ⟨hu1, hu2, hu3, hu⟩, ⟨ho1, ho2, ho3⟩, hPad, hLog⟩ := hX
  have hRing0 := hRing
  obtain ⟨⟨hr1, hr2, hr3, hr4⟩, ⟨hp1, hp2, hp3⟩, ⟨hw1, hw2, hw3⟩, hpl⟩ := hRing
  have hLog0 := hLog
  obtain ⟨hg1, hg2, hg3, hv1, hv2, hv3⟩ := hLog
  have hPad0 := hPad
  obtain ⟨hP1, hP2, hP3, hT1, hT2, hT3⟩ := hPad
  intro n
  induction n with
  | zero => intro i M h1 h2; omega
  | succ n ih =>
    intro i M hi6 hn
    refine j_iload_n E dX6_followRules_7 rfl rfl ?_
    refine j_aload_n E dX6_followRules_8 rfl rfl ?_
    refine j_getI (ci := 6) (k := 6) (Cn := RX6) (T := TX6) (N := 10) E dX6_followRules_9 hx1 hx2 rfl (by decide) hinX6 (by decide +kernel) rfl ?_
    refine j_icmp_ge (tgt := 56) E dX6_followRules_12 (by decide) (fun h12 => ?_) (fun h12 => ?_)
    · exact j_vret E dX6_followRules_56 rfl (by first | rfl | (simp [xFo, h12]; done))
    · refine j_iload_n E dX6_followRules_15 rfl rfl ?_
      refine j_bipush (v := 6) E dX6_followRules_16 (by decide) ?_
      refine j_icmp_ge (tgt := 56) E dX6_followRules_18 (by decide) (fun h18 => ?_) (fun h18 => ?_)
      · exact j_vret E dX6_followRules_56 rfl (by first | rfl | (simp [xFo, h12, h18]; done))
      · have hi : i < 6 := lt_of_nge h18 (by omega)
        obtain ⟨q1, qR⟩ := hu i hi
        have qR0 := qR
        obtain ⟨q2, q3, q4, q5, q6, q7⟩ := qR
        refine j_aload_n E dX6_followRules_21 rfl rfl ?_
        refine j_getP (ci := 6) (k := 2) (Cn := RX6) (T := TX6) (N := 10) E dX6_followRules_22 hx1 hx2 rfl (by decide) hinX6 (by decide +kernel) rfl hx5 ?_
        refine j_iload_n E dX6_followRules_25 rfl rfl ?_
        refine j_aldR E dX6_followRules_26 hu1 hu3 rfl hi (by decide) hu2 q1 ?_
        refine j_astore_n E dX6_followRules_27 rfl (by decide) ?_
        refine j_aload_n E dX6_followRules_28 rfl rfl ?_
        refine j_aload_n E dX6_followRules_29 rfl rfl ?_
        refine j_iload_n E dX6_followRules_30 rfl rfl ?_
        refine j_callV1 (ci := 4) (n := 1) E (k_X4_isTrue qR0) dX6_followRules_31 gX6_followRules_X4_isTrue rfl (by decide +kernel) ⟨rfl, rfl, by decide, by decide⟩ ⟨Nat.zero_le _, Nat.zero_le _⟩ q2 q3 rfl rfl rfl (Nat.le_of_ble_eq_true rfl) rfl ?_
        refine j_if_eq (tgt := 46) E dX6_followRules_34 (by decide) (fun h34 => ?_) (fun h34 => ?_)
        · refine j_iconst (v := 0) E dX6_followRules_46 (by decide) ?_
          refine j_putI (ci := 4) (k := 4) (Cn := RX4) (T := TX4) (N := 5) E dX6_followRules_47 q2 q3 rfl (by decide) hinX4 (by decide +kernel) rfl tyX4 tyX4_ok nmX4 rfl rfl rfl rfl ?_
          refine j_iinc E dX6_followRules_50 rfl (by decide) ?_
          refine j_goto (tgt := 7) E dX6_followRules_53 (by decide) ?_
          exact j_lv [0, 1, 2] rfl (by rw [nI_inc]; exact j_r rfl (by simp [xFo, xFo1, h12, h18, h34]) (ih (i + 1) _ (by omega) (by omega)))
        · refine j_aload_n E dX6_followRules_37 rfl rfl ?_
          refine j_getI (ci := 4) (k := 4) (Cn := RX4) (T := TX4) (N := 5) E dX6_followRules_38 q2 q3 rfl (by decide) hinX4 (by decide +kernel) rfl ?_
          refine j_iconst (v := 1) E dX6_followRules_41 (by decide) ?_
          refine j_iadd E dX6_followRules_42 ?_
          refine j_goto (tgt := 47) E dX6_followRules_43 (by decide) ?_
          refine j_putI (ci := 4) (k := 4) (Cn := RX4) (T := TX4) (N := 5) E dX6_followRules_47 q2 q3 rfl (by decide) hinX4 (by decide +kernel) rfl tyX4 tyX4_ok nmX4 rfl rfl rfl rfl ?_
          refine j_iinc E dX6_followRules_50 rfl (by decide) ?_
          refine j_goto (tgt := 7) E dX6_followRules_53 (by decide) ?_
          exact j_lv [0, 1, 2] rfl (by rw [nI_inc]; exact j_r rfl (by simp [xFo, xFo1, h12, h18, h34]) (ih (i + 1) _ (by omega) (by omega)))

set_option maxHeartbeats 1600000 in
set_option maxRecDepth 100000 in
theorem k_X6_followRules {l : Launch} {D : va_G} {cy : Nat → ClassId} {X : va_W} {G : pG} {M : pM} {a : Nat → Nat} (hX : wX G a) (hok : ∀ i, i < 16 → okW M (a (3 + i))) : jK l yX6_followRules wsX6_followRules ({ frames := 4, cells := 0, slots := 0, locals := 88 } : Room) D cy X G M [.ref (a 0)] none X (xFo a (xFacts a M) 7 0 M) := by
  refine jK_of (own := RX6) (by decide) rfl rfl (Nat.le_of_ble_eq_true rfl) (fun C E hl hD hcy hG => ?_)
  subst hl; subst hD; subst hcy; subst hG

  have hX0 := hX
  obtain ⟨⟨hx1, hx2, hx3, hx4, hx5, hx6, hx7, hx8⟩, hRing, ⟨hz1, hz2, hz3, hz⟩, ⟨hu1, hu2, hu3, hu⟩, ⟨ho1, ho2, ho3⟩, hPad, hLog⟩ := hX
  have hRing0 := hRing
  obtain ⟨⟨hr1, hr2, hr3, hr4⟩, ⟨hp1, hp2, hp3⟩, ⟨hw1, hw2, hw3⟩, hpl⟩ := hRing
  have hLog0 := hLog
  obtain ⟨hg1, hg2, hg3, hv1, hv2, hv3⟩ := hLog
  have hPad0 := hPad
  obtain ⟨hP1, hP2, hP3, hT1, hT2, hT3⟩ := hPad
  refine j_aload_n E dX6_followRules_0 rfl rfl ?_
  refine j_callV1 (ci := 6) (n := 0) E (k_X6_facts hX0 hok) dX6_followRules_1 gX6_followRules_X6_facts rfl (by decide +kernel) ⟨rfl, rfl, by decide, by decide⟩ ⟨Nat.zero_le _, Nat.zero_le _⟩ hx1 hx2 rfl rfl rfl (Nat.le_of_ble_eq_true rfl) rfl ?_
  refine j_istore_n E dX6_followRules_4 rfl (by decide) ?_
  refine j_iconst (v := 0) E dX6_followRules_5 (by decide) ?_
  refine j_istore_n E dX6_followRules_6 rfl (by decide) ?_
  exact j_lv [0, 1, 2] rfl (kl_X6_followRules_7 E hX0 7 0 M (by omega) (by omega))

set_option maxHeartbeats 1600000 in
set_option maxRecDepth 100000 in
theorem kl_X6_isDriven_2 {C : jC} (E : jE C cX6_isDriven 3 wsX6_isDriven RX6 (some .boolean) ({ frames := 0, cells := 0, slots := 0, locals := 0 } : Room)) {X : va_W} {a : Nat → Nat} {M : pM} {o : Int32} (hX : wX (jG C) a) : ∀ (n i : Nat), i ≤ 6 → i + n = 7 → jW C 3 2 [(0, .ref (a 0)), (1, .int o), (2, .int (nI i))] [] X M 0 0 (jZ C X M (some (.int (xDvL a M o n i))) 0 0) := by
  have hinX4 : ∀ w ∈ u_ws RX4 TX4 5, w ∈ wsX6_isDriven := by decide +kernel
  have hinX6 : ∀ w ∈ u_ws RX6 TX6 10, w ∈ wsX6_isDriven := by decide +kernel
  have hX0 := hX
  obtain ⟨⟨hx1, hx2, hx3, hx4, hx5, hx6, hx7, hx8⟩, hRing, ⟨hz1, hz2, hz3, hz⟩, ⟨hu1, hu2, hu3, hu⟩, ⟨ho1, ho2, ho3⟩, hPad, hLog⟩ := hX
  have hRing0 := hRing
  obtain ⟨⟨hr1, hr2, hr3, hr4⟩, ⟨hp1, hp2, hp3⟩, ⟨hw1, hw2, hw3⟩, hpl⟩ := hRing
  have hLog0 := hLog
  obtain ⟨hg1, hg2, hg3, hv1, hv2, hv3⟩ := hLog
  have hPad0 := hPad
  obtain ⟨hP1, hP2, hP3, hT1, hT2, hT3⟩ := hPad
  intro n
  induction n with
  | zero => intro i h1 h2; omega
  | succ n ih =>
    intro i hi6 hn
    refine j_iload_n E dX6_isDriven_2 rfl rfl ?_
    refine j_aload_n E dX6_isDriven_3 rfl rfl ?_
    refine j_getI (ci := 6) (k := 6) (Cn := RX6) (T := TX6) (N := 10) E dX6_isDriven_4 hx1 hx2 rfl (by decide) hinX6 (by decide +kernel) rfl ?_
    refine j_icmp_ge (tgt := 58) E dX6_isDriven_7 (by decide) (fun h7 => ?_) (fun h7 => ?_)
    · refine j_iconst (v := 0) E dX6_isDriven_58 (by decide) ?_
      exact j_zret E dX6_isDriven_59 rfl (by first | rfl | (simp [xDvL, h7]; done)) rfl (by first | rfl | (simp [xDvL, h7]; done))
    · refine j_iload_n E dX6_isDriven_10 rfl rfl ?_
      refine j_bipush (v := 6) E dX6_isDriven_11 (by decide) ?_
      refine j_icmp_ge (tgt := 58) E dX6_isDriven_13 (by decide) (fun h13 => ?_) (fun h13 => ?_)
      · refine j_iconst (v := 0) E dX6_isDriven_58 (by decide) ?_
        exact j_zret E dX6_isDriven_59 rfl (by first | rfl | (simp [xDvL, h7, h13]; done)) rfl (by first | rfl | (simp [xDvL, h7, h13]; done))
      · have hi : i < 6 := lt_of_nge h13 (by omega)
        obtain ⟨q1, qR⟩ := hu i hi
        have qR0 := qR
        obtain ⟨q2, q3, q4, q5, q6, q7⟩ := qR
        refine j_aload_n E dX6_isDriven_16 rfl rfl ?_
        refine j_getP (ci := 6) (k := 2) (Cn := RX6) (T := TX6) (N := 10) E dX6_isDriven_17 hx1 hx2 rfl (by decide) hinX6 (by decide +kernel) rfl hx5 ?_
        refine j_iload_n E dX6_isDriven_20 rfl rfl ?_
        refine j_aldR E dX6_isDriven_21 hu1 hu3 rfl hi (by decide) hu2 q1 ?_
        refine j_getI (ci := 4) (k := 2) (Cn := RX4) (T := TX4) (N := 5) E dX6_isDriven_22 q2 q3 rfl (by decide) hinX4 (by decide +kernel) rfl ?_
        refine j_iload_n E dX6_isDriven_25 rfl rfl ?_
        refine j_icmp_ne (tgt := 52) E dX6_isDriven_26 (by decide) (fun h26 => ?_) (fun h26 => ?_)
        · refine j_iinc E dX6_isDriven_52 rfl (by decide) ?_
          refine j_goto (tgt := 2) E dX6_isDriven_55 (by decide) ?_
          exact j_lv [0, 1, 2] rfl (by rw [nI_inc]; exact j_r (by simp [xDvL, h7, h13, h26]) rfl (ih (i + 1) (by omega) (by omega)))
        · refine j_aload_n E dX6_isDriven_29 rfl rfl ?_
          refine j_getP (ci := 6) (k := 2) (Cn := RX6) (T := TX6) (N := 10) E dX6_isDriven_30 hx1 hx2 rfl (by decide) hinX6 (by decide +kernel) rfl hx5 ?_
          refine j_iload_n E dX6_isDriven_33 rfl rfl ?_
          refine j_aldR E dX6_isDriven_34 hu1 hu3 rfl hi (by decide) hu2 q1 ?_
          refine j_getI (ci := 4) (k := 4) (Cn := RX4) (T := TX4) (N := 5) E dX6_isDriven_35 q2 q3 rfl (by decide) hinX4 (by decide +kernel) rfl ?_
          refine j_aload_n E dX6_isDriven_38 rfl rfl ?_
          refine j_getP (ci := 6) (k := 2) (Cn := RX6) (T := TX6) (N := 10) E dX6_isDriven_39 hx1 hx2 rfl (by decide) hinX6 (by decide +kernel) rfl hx5 ?_
          refine j_iload_n E dX6_isDriven_42 rfl rfl ?_
          refine j_aldR E dX6_isDriven_43 hu1 hu3 rfl hi (by decide) hu2 q1 ?_
          refine j_getI (ci := 4) (k := 3) (Cn := RX4) (T := TX4) (N := 5) E dX6_isDriven_44 q2 q3 rfl (by decide) hinX4 (by decide +kernel) rfl ?_
          refine j_icmp_le (tgt := 52) E dX6_isDriven_47 (by decide) (fun h47 => ?_) (fun h47 => ?_)
          · refine j_iinc E dX6_isDriven_52 rfl (by decide) ?_
            refine j_goto (tgt := 2) E dX6_isDriven_55 (by decide) ?_
            exact j_lv [0, 1, 2] rfl (by rw [nI_inc]; exact j_r (by simp [xDvL, h7, h13, h26, h47]) rfl (ih (i + 1) (by omega) (by omega)))
          · refine j_iconst (v := 1) E dX6_isDriven_50 (by decide) ?_
            exact j_zret E dX6_isDriven_51 rfl (by first | rfl | (simp [xDvL, h7, h13, h26, h47]; done)) rfl (by first | rfl | (simp [xDvL, h7, h13, h26, h47]; done))

set_option maxHeartbeats 1600000 in
set_option maxRecDepth 100000 in
theorem k_X6_isDriven {l : Launch} {D : va_G} {cy : Nat → ClassId} {X : va_W} {G : pG} {M : pM} {a : Nat → Nat} {o : Int32} (hX : wX G a) : jK l yX6_isDriven wsX6_isDriven ({ frames := 0, cells := 0, slots := 0, locals := 0 } : Room) D cy X G M [.ref (a 0), .int o] (some (.int (xDvL a M o 7 0))) X M := by
  refine jK_of (own := RX6) (by decide) rfl rfl (Nat.le_of_ble_eq_true rfl) (fun C E hl hD hcy hG => ?_)
  subst hl; subst hD; subst hcy; subst hG

  have hX0 := hX
  refine j_iconst (v := 0) E dX6_isDriven_0 (by decide) ?_
  refine j_istore_n E dX6_isDriven_1 rfl (by decide) ?_
  exact j_lv [0, 1, 2] rfl (kl_X6_isDriven_2 E hX0 7 0 (by omega) (by omega))

set_option maxHeartbeats 1600000 in
set_option maxRecDepth 100000 in
theorem kl_X6_driveOutputs_2 {C : jC} (E : jE C cX6_driveOutputs 3 wsX6_driveOutputs RX6 none ({ frames := 2, cells := 0, slots := 0, locals := 83 } : Room)) {X : va_W} {M : pM} {a : Nat → Nat} (hX : wX (jG C) a) : ∀ (n i : Nat), i + n = 6 → jW C 3 2 [(0, .ref (a 0)), (1, .int (nI i))] [] X (xDrN a i M) 0 0 (jZ C X (xDrN a 6 M) none 0 0) := by
  have hinX6 : ∀ w ∈ u_ws RX6 TX6 10, w ∈ wsX6_driveOutputs := by decide +kernel
  have hX0 := hX
  obtain ⟨⟨hx1, hx2, hx3, hx4, hx5, hx6, hx7, hx8⟩, hRing, ⟨hz1, hz2, hz3, hz⟩, ⟨hu1, hu2, hu3, hu⟩, ⟨ho1, ho2, ho3⟩, hPad, hLog⟩ := hX
  have hRing0 := hRing
  obtain ⟨⟨hr1, hr2, hr3, hr4⟩, ⟨hp1, hp2, hp3⟩, ⟨hw1, hw2, hw3⟩, hpl⟩ := hRing
  have hLog0 := hLog
  obtain ⟨hg1, hg2, hg3, hv1, hv2, hv3⟩ := hLog
  have hPad0 := hPad
  obtain ⟨hP1, hP2, hP3, hT1, hT2, hT3⟩ := hPad
  intro n
  induction n with
  | zero =>
    intro i hn
    obtain rfl : i = 6 := by omega
    refine j_iload_n E dX6_driveOutputs_2 rfl rfl ?_
    refine j_bipush (v := 6) E dX6_driveOutputs_3 (by decide) ?_
    refine j_icmp_ge (tgt := 53) E dX6_driveOutputs_5 (by decide) (fun h => ?_) (fun h => absurd (by decide) h)
    exact j_vret E dX6_driveOutputs_53 rfl rfl
  | succ n ih =>
    intro i hn
    have hi : i < 6 := by omega
    refine j_iload_n E dX6_driveOutputs_2 rfl rfl ?_
    refine j_bipush (v := 6) E dX6_driveOutputs_3 (by decide) ?_
    refine j_icmp_ge (tgt := 53) E dX6_driveOutputs_5 (by decide) (fun h5 => ?_) (fun h5 => ?_)
    · exact absurd h5 (nI_ge (b := 6) hi (by decide))
    · refine j_aload_n E dX6_driveOutputs_8 rfl rfl ?_
      refine j_iload_n E dX6_driveOutputs_9 rfl rfl ?_
      refine j_callV1 (ci := 6) (n := 1) E (k_X6_isDriven hX0) dX6_driveOutputs_10 gX6_driveOutputs_X6_isDriven rfl (by decide +kernel) ⟨rfl, rfl, by decide, by decide⟩ ⟨Nat.zero_le _, Nat.zero_le _⟩ hx1 hx2 rfl rfl rfl (Nat.le_of_ble_eq_true rfl) rfl ?_
      refine j_istore_n E dX6_driveOutputs_13 rfl (by decide) ?_
      refine j_iload_n E dX6_driveOutputs_14 rfl rfl ?_
      refine j_if_eq (tgt := 40) E dX6_driveOutputs_15 (by decide) (fun h15 => ?_) (fun h15 => ?_)
      · refine j_aload_n E dX6_driveOutputs_40 rfl rfl ?_
        refine j_getP (ci := 6) (k := 3) (Cn := RX6) (T := TX6) (N := 10) E dX6_driveOutputs_41 hx1 hx2 rfl (by decide) hinX6 (by decide +kernel) rfl hx6 ?_
        refine j_iload_n E dX6_driveOutputs_44 rfl rfl ?_
        refine j_iload_n E dX6_driveOutputs_45 rfl rfl ?_
        refine j_zast E dX6_driveOutputs_46 ho1 ho3 rfl hi (by decide) ho2 (nar01 (xDvL_01 _ _ _ _ _)) ?_
        refine j_iinc E dX6_driveOutputs_47 rfl (by decide) ?_
        refine j_goto (tgt := 2) E dX6_driveOutputs_50 (by decide) ?_
        exact j_lv [0, 1] rfl (by rw [nI_inc]; exact j_M (M' := xDrN a (i + 1) M) (by first | (simp [xDrN, xDr1, h5, h15]; done) | (simp [xDrN, xDr1, h5, h15, hd1]; done)) (ih (i + 1) (by omega)))
      · have hd1 : xDvL a (xDrN a i M) (nI i) 7 0 = 1 := (xDvL_01 _ _ _ _ _).resolve_left h15
        refine j_aload_n E dX6_driveOutputs_18 rfl rfl ?_
        refine j_getP (ci := 6) (k := 3) (Cn := RX6) (T := TX6) (N := 10) E dX6_driveOutputs_19 hx1 hx2 rfl (by decide) hinX6 (by decide +kernel) rfl hx6 ?_
        refine j_iload_n E dX6_driveOutputs_22 rfl rfl ?_
        refine j_zald E dX6_driveOutputs_23 ho1 ho3 rfl hi (by decide) ho2 ?_
        refine j_if_ne (tgt := 40) E dX6_driveOutputs_24 (by decide) (fun h24 => ?_) (fun h24 => ?_)
        · refine j_aload_n E dX6_driveOutputs_40 rfl rfl ?_
          refine j_getP (ci := 6) (k := 3) (Cn := RX6) (T := TX6) (N := 10) E dX6_driveOutputs_41 hx1 hx2 rfl (by decide) hinX6 (by decide +kernel) rfl hx6 ?_
          refine j_iload_n E dX6_driveOutputs_44 rfl rfl ?_
          refine j_iload_n E dX6_driveOutputs_45 rfl rfl ?_
          refine j_zast E dX6_driveOutputs_46 ho1 ho3 rfl hi (by decide) ho2 (nar01 (xDvL_01 _ _ _ _ _)) ?_
          refine j_iinc E dX6_driveOutputs_47 rfl (by decide) ?_
          refine j_goto (tgt := 2) E dX6_driveOutputs_50 (by decide) ?_
          exact j_lv [0, 1] rfl (by rw [nI_inc]; exact j_M (M' := xDrN a (i + 1) M) (by first | (simp [xDrN, xDr1, h5, h15, h24]; done) | (simp [xDrN, xDr1, h5, h15, h24, hd1]; done)) (ih (i + 1) (by omega)))
        · refine j_aload_n E dX6_driveOutputs_27 rfl rfl ?_
          refine j_getP (ci := 6) (k := 5) (Cn := RX6) (T := TX6) (N := 10) E dX6_driveOutputs_28 hx1 hx2 rfl (by decide) hinX6 (by decide +kernel) rfl hx8 ?_
          refine j_iconst (v := 4) E dX6_driveOutputs_31 (by decide) ?_
          refine j_iload_n E dX6_driveOutputs_32 rfl rfl ?_
          refine j_aload_n E dX6_driveOutputs_33 rfl rfl ?_
          refine j_getI (ci := 6) (k := 7) (Cn := RX6) (T := TX6) (N := 10) E dX6_driveOutputs_34 hx1 hx2 rfl (by decide) hinX6 (by decide +kernel) rfl ?_
          refine j_callV0 (ci := 0) (n := 3) E (k_X0_add hLog0) dX6_driveOutputs_37 gX6_driveOutputs_X0_add rfl (by decide +kernel) ⟨rfl, rfl, by decide, by decide⟩ ⟨Nat.zero_le _, Nat.zero_le _⟩ hg1 hg2 rfl rfl rfl (Nat.le_of_ble_eq_true rfl) rfl ?_
          refine j_aload_n E dX6_driveOutputs_40 rfl rfl ?_
          refine j_getP (ci := 6) (k := 3) (Cn := RX6) (T := TX6) (N := 10) E dX6_driveOutputs_41 hx1 hx2 rfl (by decide) hinX6 (by decide +kernel) rfl hx6 ?_
          refine j_iload_n E dX6_driveOutputs_44 rfl rfl ?_
          refine j_iload_n E dX6_driveOutputs_45 rfl rfl ?_
          refine j_zast E dX6_driveOutputs_46 ho1 ho3 rfl hi (by decide) ho2 (nar01 (xDvL_01 _ _ _ _ _)) ?_
          refine j_iinc E dX6_driveOutputs_47 rfl (by decide) ?_
          refine j_goto (tgt := 2) E dX6_driveOutputs_50 (by decide) ?_
          exact j_lv [0, 1] rfl (by rw [nI_inc]; exact j_M (M' := xDrN a (i + 1) M) (by first | (simp [xDrN, xDr1, h5, h15, h24]; done) | (simp [xDrN, xDr1, h5, h15, h24, hd1]; done)) (ih (i + 1) (by omega)))

set_option maxHeartbeats 1600000 in
set_option maxRecDepth 100000 in
theorem k_X6_driveOutputs {l : Launch} {D : va_G} {cy : Nat → ClassId} {X : va_W} {G : pG} {M : pM} {a : Nat → Nat} (hX : wX G a) : jK l yX6_driveOutputs wsX6_driveOutputs ({ frames := 2, cells := 0, slots := 0, locals := 83 } : Room) D cy X G M [.ref (a 0)] none X (xDrN a 6 M) := by
  refine jK_of (own := RX6) (by decide) rfl rfl (Nat.le_of_ble_eq_true rfl) (fun C E hl hD hcy hG => ?_)
  subst hl; subst hD; subst hcy; subst hG

  have hX0 := hX
  refine j_iconst (v := 0) E dX6_driveOutputs_0 (by decide) ?_
  refine j_istore_n E dX6_driveOutputs_1 rfl (by decide) ?_
  exact j_lv [0, 1] rfl (kl_X6_driveOutputs_2 E hX0 6 0 (by omega))

set_option maxHeartbeats 1600000 in
set_option maxRecDepth 100000 in
theorem kl_X6_allOutputsOff_2 {C : jC} (E : jE C cX6_allOutputsOff 2 wsX6_allOutputsOff RX6 none ({ frames := 0, cells := 0, slots := 0, locals := 0 } : Room)) {X : va_W} {M : pM} {a : Nat → Nat} (hX : wX (jG C) a) : ∀ (n i : Nat), i + n = 6 → jW C 2 2 [(0, .ref (a 0)), (1, .int (nI i))] [] X (xOffN a i M) 0 0 (jZ C X (xOffN a 6 M) none 0 0) := by
  have hinX6 : ∀ w ∈ u_ws RX6 TX6 10, w ∈ wsX6_allOutputsOff := by decide +kernel
  have hX0 := hX
  obtain ⟨⟨hx1, hx2, hx3, hx4, hx5, hx6, hx7, hx8⟩, hRing, ⟨hz1, hz2, hz3, hz⟩, ⟨hu1, hu2, hu3, hu⟩, ⟨ho1, ho2, ho3⟩, hPad, hLog⟩ := hX
  have hRing0 := hRing
  obtain ⟨⟨hr1, hr2, hr3, hr4⟩, ⟨hp1, hp2, hp3⟩, ⟨hw1, hw2, hw3⟩, hpl⟩ := hRing
  have hLog0 := hLog
  obtain ⟨hg1, hg2, hg3, hv1, hv2, hv3⟩ := hLog
  have hPad0 := hPad
  obtain ⟨hP1, hP2, hP3, hT1, hT2, hT3⟩ := hPad
  intro n
  induction n with
  | zero =>
    intro i hn
    obtain rfl : i = 6 := by omega
    refine j_iload_n E dX6_allOutputsOff_2 rfl rfl ?_
    refine j_bipush (v := 6) E dX6_allOutputsOff_3 (by decide) ?_
    refine j_icmp_ge (tgt := 21) E dX6_allOutputsOff_5 (by decide) (fun h => ?_) (fun h => absurd (by decide) h)
    exact j_vret E dX6_allOutputsOff_21 rfl rfl
  | succ n ih =>
    intro i hn
    have hi : i < 6 := by omega
    refine j_iload_n E dX6_allOutputsOff_2 rfl rfl ?_
    refine j_bipush (v := 6) E dX6_allOutputsOff_3 (by decide) ?_
    refine j_icmp_ge (tgt := 21) E dX6_allOutputsOff_5 (by decide) (fun h5 => ?_) (fun h5 => ?_)
    · exact absurd h5 (nI_ge (b := 6) hi (by decide))
    · refine j_aload_n E dX6_allOutputsOff_8 rfl rfl ?_
      refine j_getP (ci := 6) (k := 3) (Cn := RX6) (T := TX6) (N := 10) E dX6_allOutputsOff_9 hx1 hx2 rfl (by decide) hinX6 (by decide +kernel) rfl hx6 ?_
      refine j_iload_n E dX6_allOutputsOff_12 rfl rfl ?_
      refine j_iconst (v := 0) E dX6_allOutputsOff_13 (by decide) ?_
      refine j_zast E dX6_allOutputsOff_14 ho1 ho3 rfl hi (by decide) ho2 rfl ?_
      refine j_iinc E dX6_allOutputsOff_15 rfl (by decide) ?_
      refine j_goto (tgt := 2) E dX6_allOutputsOff_18 (by decide) ?_
      exact j_lv [0, 1] rfl (by rw [nI_inc]; exact ih (i + 1) (by omega))

set_option maxHeartbeats 1600000 in
set_option maxRecDepth 100000 in
theorem k_X6_allOutputsOff {l : Launch} {D : va_G} {cy : Nat → ClassId} {X : va_W} {G : pG} {M : pM} {a : Nat → Nat} (hX : wX G a) : jK l yX6_allOutputsOff wsX6_allOutputsOff ({ frames := 0, cells := 0, slots := 0, locals := 0 } : Room) D cy X G M [.ref (a 0)] none X (xOffN a 6 M) := by
  refine jK_of (own := RX6) (by decide) rfl rfl (Nat.le_of_ble_eq_true rfl) (fun C E hl hD hcy hG => ?_)
  subst hl; subst hD; subst hcy; subst hG

  have hX0 := hX
  refine j_iconst (v := 0) E dX6_allOutputsOff_0 (by decide) ?_
  refine j_istore_n E dX6_allOutputsOff_1 rfl (by decide) ?_
  exact j_lv [0, 1] rfl (kl_X6_allOutputsOff_2 E hX0 6 0 (by omega))

set_option maxHeartbeats 1600000 in
set_option maxRecDepth 100000 in
theorem k_X6_poll {l : Launch} {D : va_G} {cy : Nat → ClassId} {X : va_W} {G : pG} {M : pM} {a : Nat → Nat} (hX : wX G a) (hok : ∀ i, i < 16 → okS (xAskN a (xReach (pI M (a 0) 7 (M.1 (a 0) 7 + 1)) (fun i => a (3 + i)) (a 19)) i (pI M (a 0) 7 (M.1 (a 0) 7 + 1))) (a (3 + i))) (hokw : ∀ i, i < 16 → okW (xP2 a M) (a (3 + i))) : jK l yX6_poll wsX6_poll ({ frames := 5, cells := 0, slots := 0, locals := 128 } : Room) D cy X G M [.ref (a 0)] (some (.int (xWzN a 4 (xP1 a M)).1)) X (xPoll a M) := by
  refine jK_of (own := RX6) (by decide) rfl rfl (Nat.le_of_ble_eq_true rfl) (fun C E hl hD hcy hG => ?_)
  subst hl; subst hD; subst hcy; subst hG
  have hinX6 : ∀ w ∈ u_ws RX6 TX6 10, w ∈ wsX6_poll := by decide +kernel
  have hX0 := hX
  obtain ⟨⟨hx1, hx2, hx3, hx4, hx5, hx6, hx7, hx8⟩, hRing, ⟨hz1, hz2, hz3, hz⟩, ⟨hu1, hu2, hu3, hu⟩, ⟨ho1, ho2, ho3⟩, hPad, hLog⟩ := hX
  have hRing0 := hRing
  obtain ⟨⟨hr1, hr2, hr3, hr4⟩, ⟨hp1, hp2, hp3⟩, ⟨hw1, hw2, hw3⟩, hpl⟩ := hRing
  have hLog0 := hLog
  obtain ⟨hg1, hg2, hg3, hv1, hv2, hv3⟩ := hLog
  have hPad0 := hPad
  obtain ⟨hP1, hP2, hP3, hT1, hT2, hT3⟩ := hPad
  refine j_aload_n E dX6_poll_0 rfl rfl ?_
  refine j_dup E dX6_poll_1 rfl ?_
  refine j_getI (ci := 6) (k := 7) (Cn := RX6) (T := TX6) (N := 10) E dX6_poll_2 hx1 hx2 rfl (by decide) hinX6 (by decide +kernel) rfl ?_
  refine j_iconst (v := 1) E dX6_poll_5 (by decide) ?_
  refine j_iadd E dX6_poll_6 ?_
  refine j_putI (ci := 6) (k := 7) (Cn := RX6) (T := TX6) (N := 10) E dX6_poll_7 hx1 hx2 rfl (by decide) hinX6 (by decide +kernel) rfl tyX6 tyX6_ok nmX6 rfl rfl rfl rfl ?_
  refine j_aload_n E dX6_poll_10 rfl rfl ?_
  refine j_callV0 (ci := 6) (n := 0) E (k_X6_askPlaces hX0 hok) dX6_poll_11 gX6_poll_X6_askPlaces rfl (by decide +kernel) ⟨rfl, rfl, by decide, by decide⟩ ⟨Nat.zero_le _, Nat.zero_le _⟩ hx1 hx2 rfl rfl rfl (Nat.le_of_ble_eq_true rfl) rfl ?_
  refine j_aload_n E dX6_poll_14 rfl rfl ?_
  refine j_callV1 (ci := 6) (n := 0) E (k_X6_watchZones hX0) dX6_poll_15 gX6_poll_X6_watchZones rfl (by decide +kernel) ⟨rfl, rfl, by decide, by decide⟩ ⟨Nat.zero_le _, Nat.zero_le _⟩ hx1 hx2 rfl rfl rfl (Nat.le_of_ble_eq_true rfl) rfl ?_
  refine j_istore_n E dX6_poll_18 rfl (by decide) ?_
  refine j_aload_n E dX6_poll_19 rfl rfl ?_
  refine j_callV0 (ci := 6) (n := 0) E (k_X6_followRules hX0 hokw) dX6_poll_20 gX6_poll_X6_followRules rfl (by decide +kernel) ⟨rfl, rfl, by decide, by decide⟩ ⟨Nat.zero_le _, Nat.zero_le _⟩ hx1 hx2 rfl rfl rfl (Nat.le_of_ble_eq_true rfl) rfl ?_
  refine j_aload_n E dX6_poll_23 rfl rfl ?_
  refine j_callV0 (ci := 6) (n := 0) E (k_X6_driveOutputs hX0) dX6_poll_24 gX6_poll_X6_driveOutputs rfl (by decide +kernel) ⟨rfl, rfl, by decide, by decide⟩ ⟨Nat.zero_le _, Nat.zero_le _⟩ hx1 hx2 rfl rfl rfl (Nat.le_of_ble_eq_true rfl) rfl ?_
  refine j_iload_n E dX6_poll_27 rfl rfl ?_
  exact j_iret E dX6_poll_28 (by rfl) rfl (by rfl)

set_option maxHeartbeats 1600000 in
set_option maxRecDepth 100000 in
theorem k_X6_key {l : Launch} {D : va_G} {cy : Nat → ClassId} {X : va_W} {G : pG} {M : pM} {a : Nat → Nat} {c : Int32} (hX : wX G a) : jK l yX6_key wsX6_key ({ frames := 0, cells := 0, slots := 0, locals := 0 } : Room) D cy X G M [.ref (a 0), .int c] (some (.int (xKey c))) X (pI M (a 0) 8 (xKey c)) := by
  refine jK_of (own := RX6) (by decide) rfl rfl (Nat.le_of_ble_eq_true rfl) (fun C E hl hD hcy hG => ?_)
  subst hl; subst hD; subst hcy; subst hG
  have hinX6 : ∀ w ∈ u_ws RX6 TX6 10, w ∈ wsX6_key := by decide +kernel
  have hX0 := hX
  obtain ⟨⟨hx1, hx2, hx3, hx4, hx5, hx6, hx7, hx8⟩, hRing, ⟨hz1, hz2, hz3, hz⟩, ⟨hu1, hu2, hu3, hu⟩, ⟨ho1, ho2, ho3⟩, hPad, hLog⟩ := hX
  have hRing0 := hRing
  obtain ⟨⟨hr1, hr2, hr3, hr4⟩, ⟨hp1, hp2, hp3⟩, ⟨hw1, hw2, hw3⟩, hpl⟩ := hRing
  have hLog0 := hLog
  obtain ⟨hg1, hg2, hg3, hv1, hv2, hv3⟩ := hLog
  have hPad0 := hPad
  obtain ⟨hP1, hP2, hP3, hT1, hT2, hT3⟩ := hPad
  refine j_aload_n E dX6_key_0 rfl rfl ?_
  refine j_iload_n E dX6_key_1 rfl rfl ?_
  refine j_sipush (v := 2468) E dX6_key_2 (by decide) ?_
  refine j_icmp_ne (tgt := 12) E dX6_key_5 (by decide) (fun h5 => ?_) (fun h5 => ?_)
  · refine j_iload_n E dX6_key_12 rfl rfl ?_
    refine j_sipush (v := 1357) E dX6_key_13 (by decide) ?_
    refine j_icmp_ne (tgt := 23) E dX6_key_16 (by decide) (fun h16 => ?_) (fun h16 => ?_)
    · refine j_iconst (v := 0) E dX6_key_23 (by decide) ?_
      refine j_putI (ci := 6) (k := 8) (Cn := RX6) (T := TX6) (N := 10) E dX6_key_24 hx1 hx2 rfl (by decide) hinX6 (by decide +kernel) rfl tyX6 tyX6_ok nmX6 rfl rfl rfl rfl ?_
      refine j_aload_n E dX6_key_27 rfl rfl ?_
      refine j_getI (ci := 6) (k := 8) (Cn := RX6) (T := TX6) (N := 10) E dX6_key_28 hx1 hx2 rfl (by decide) hinX6 (by decide +kernel) rfl ?_
      try simp only [pI_rd, pF_rd, pR_rd, pI_2, pF_1, pR_2, Nat.reduceEqDiff, ↓reduceIte]
      exact j_iret E dX6_key_31 (by simp [xKey, h5, h16]) rfl (by simp [xKey, h5, h16])
    · refine j_iconst (v := 1) E dX6_key_19 (by decide) ?_
      refine j_goto (tgt := 24) E dX6_key_20 (by decide) ?_
      refine j_putI (ci := 6) (k := 8) (Cn := RX6) (T := TX6) (N := 10) E dX6_key_24 hx1 hx2 rfl (by decide) hinX6 (by decide +kernel) rfl tyX6 tyX6_ok nmX6 rfl rfl rfl rfl ?_
      refine j_aload_n E dX6_key_27 rfl rfl ?_
      refine j_getI (ci := 6) (k := 8) (Cn := RX6) (T := TX6) (N := 10) E dX6_key_28 hx1 hx2 rfl (by decide) hinX6 (by decide +kernel) rfl ?_
      try simp only [pI_rd, pF_rd, pR_rd, pI_2, pF_1, pR_2, Nat.reduceEqDiff, ↓reduceIte]
      exact j_iret E dX6_key_31 (by simp [xKey, h5, h16]) rfl (by simp [xKey, h5, h16])
  · refine j_iconst (v := 2) E dX6_key_8 (by decide) ?_
    refine j_goto (tgt := 24) E dX6_key_9 (by decide) ?_
    refine j_putI (ci := 6) (k := 8) (Cn := RX6) (T := TX6) (N := 10) E dX6_key_24 hx1 hx2 rfl (by decide) hinX6 (by decide +kernel) rfl tyX6 tyX6_ok nmX6 rfl rfl rfl rfl ?_
    refine j_aload_n E dX6_key_27 rfl rfl ?_
    refine j_getI (ci := 6) (k := 8) (Cn := RX6) (T := TX6) (N := 10) E dX6_key_28 hx1 hx2 rfl (by decide) hinX6 (by decide +kernel) rfl ?_
    try simp only [pI_rd, pF_rd, pR_rd, pI_2, pF_1, pR_2, Nat.reduceEqDiff, ↓reduceIte]
    exact j_iret E dX6_key_31 (by simp [xKey, h5]) rfl (by simp [xKey, h5])

set_option maxHeartbeats 1600000 in
set_option maxRecDepth 100000 in
theorem k_X6_type {l : Launch} {D : va_G} {cy : Nat → ClassId} {X : va_W} {G : pG} {M : pM} {a : Nat → Nat} {c : Int32} (hX : wX G a) (hc : vp_nar .char c = c) : jK l yX6_type wsX6_type ({ frames := 2, cells := 0, slots := 0, locals := 41 } : Room) D cy X G M [.ref (a 0), .int c] (some (.int (xApp M (a 39) (a 40) c).1)) X (xApp M (a 39) (a 40) c).2 := by
  refine jK_of (own := RX6) (by decide) rfl rfl (Nat.le_of_ble_eq_true rfl) (fun C E hl hD hcy hG => ?_)
  subst hl; subst hD; subst hcy; subst hG
  have hinX6 : ∀ w ∈ u_ws RX6 TX6 10, w ∈ wsX6_type := by decide +kernel
  have hX0 := hX
  obtain ⟨⟨hx1, hx2, hx3, hx4, hx5, hx6, hx7, hx8⟩, hRing, ⟨hz1, hz2, hz3, hz⟩, ⟨hu1, hu2, hu3, hu⟩, ⟨ho1, ho2, ho3⟩, hPad, hLog⟩ := hX
  have hRing0 := hRing
  obtain ⟨⟨hr1, hr2, hr3, hr4⟩, ⟨hp1, hp2, hp3⟩, ⟨hw1, hw2, hw3⟩, hpl⟩ := hRing
  have hLog0 := hLog
  obtain ⟨hg1, hg2, hg3, hv1, hv2, hv3⟩ := hLog
  have hPad0 := hPad
  obtain ⟨hP1, hP2, hP3, hT1, hT2, hT3⟩ := hPad
  refine j_aload_n E dX6_type_0 rfl rfl ?_
  refine j_getP (ci := 6) (k := 4) (Cn := RX6) (T := TX6) (N := 10) E dX6_type_1 hx1 hx2 rfl (by decide) hinX6 (by decide +kernel) rfl hx7 ?_
  refine j_iload_n E dX6_type_4 rfl rfl ?_
  refine j_callV1 (ci := 1) (n := 1) E (k_X1_append hPad0 hc) dX6_type_5 gX6_type_X1_append rfl (by decide +kernel) ⟨rfl, rfl, by decide, by decide⟩ ⟨Nat.zero_le _, Nat.zero_le _⟩ hP1 hP2 rfl rfl rfl (Nat.le_of_ble_eq_true rfl) rfl ?_
  exact j_zret E dX6_type_8 (nz01 (xApp_01 _ _ _ _)) (by rfl) rfl (by rfl)
end
section
/-! FirePanelModel: m 0 its address, m k the array in its slot k. -/
def wMt : Nat → Option (Nat × Nat)
  | 1 => some (10, 17)
  | 2 => some (10, 16)
  | 3 => some (10, 16)
  | 4 => some (9, 16)
  | 5 => some (9, 16)
  | 6 => some (9, 16)
  | 7 => some (9, 16)
  | 8 => some (10, 16)
  | 9 => some (11, 16)
  | 10 => some (10, 16)
  | 11 => some (11, 16)
  | 12 => some (11, 16)
  | 13 => some (11, 4)
  | 14 => some (10, 4)
  | 15 => some (11, 4)
  | 17 => some (10, 120)
  | 18 => some (10, 6)
  | 19 => some (10, 6)
  | 20 => some (10, 6)
  | 21 => some (10, 6)
  | 22 => some (11, 6)
  | 24 => some (8, 20)
  | 29 => some (10, 48)
  | 31 => some (8, 24)
  | 33 => some (10, 24)
  | _ => none
def wM (G : pG) (m : Nat → Nat) : Prop := m 0 ∈ G.1 ∧ G.2.1 (m 0) = 7 ∧ (∀ k kd n, wMt k = some (kd, n) → G.2.2.2 (m 0) k = some (m k) ∧ m k ∈ G.1 ∧ G.2.1 (m k) = kd ∧ G.2.2.1 (m k) = n) ∧ ∀ i j, i < 34 → j < 34 → m i = m j → i = j
theorem pI_m {m : Nat → Nat} (hinj : ∀ i j, i < 34 → j < 34 → m i = m j → i = j) (M : pM) (i j k x : Nat) (v : Int32) (hi : i < 34) (hj : j < 34) : (pI M (m i) k v).1 (m j) x = if j = i then (if x = k then v else M.1 (m j) x) else M.1 (m j) x := by
  by_cases h : j = i
  · subst h; rw [if_pos rfl, pI_rd]
  · rw [if_neg h, pI_1n M k v (fun e => h (hinj j i hj hi e))]
theorem pF_m {m : Nat → Nat} (hinj : ∀ i j, i < 34 → j < 34 → m i = m j → i = j) (M : pM) (i j k x : Nat) (v : UInt32) (hi : i < 34) (hj : j < 34) : (pF M (m i) k v).2 (m j) x = if j = i then (if x = k then v else M.2 (m j) x) else M.2 (m j) x := by
  by_cases h : j = i
  · subst h; rw [if_pos rfl, pF_rd]
  · rw [if_neg h, pF_2n M k v (fun e => h (hinj j i hj hi e))]
def mIn (v lo hi : Int32) : Int32 := if v < lo then 0 else if hi < v then 0 else 1
theorem mIn_01 (v lo hi : Int32) : mIn v lo hi = 0 ∨ mIn v lo hi = 1 := by unfold mIn; split; exact Or.inl rfl; split; exact Or.inl rfl; exact Or.inr rfl
def mOr (s w : Int32) : Int32 := if s = 0 then (if w = 2 then 1 else 0) else 1
def mAnd (l g : Int32) : Int32 := if l = 0 then 0 else if g = 0 then 0 else 1
def mSL (M : pM) (m : Nat → Nat) : Nat → Int32 → Int32
  | 0, s => s
  | k + 1, s => if M.1 (m 2) k = 4 then s else mSL M m k (mOr s (M.1 (m 1) k))
def mSR (M : pM) (m : Nat → Nat) : Nat → Nat → Int32 → Int32
  | 0, _, s => s
  | n + 1, k, s => if 16 ≤ nI k then s else if M.1 (m 2) k = 4 then s else mSR M m n (k + 1) (mOr s (M.1 (m 1) (k + 1)))
def mSS (M : pM) (m : Nat → Nat) (w : Nat) : Int32 := mSR M m (17 - w) w (mSL M m w (if M.1 (m 1) w = 2 then 1 else 0))
def mGo (M : pM) (m : Nat → Nat) (w : Nat) : Int32 := if M.1 (m 1) w = 1 then 0 else if mSS M m w = 0 then 1 else 0
def mRL (M : pM) (m : Nat → Nat) (p : Nat) : Nat → Nat → Int32 → Int32
  | 0, _, l => l
  | n + 1, k, l => if nI p < nI k then l else mRL M m p n (k + 1) (mAnd l (mGo M m k))
def mRR (M : pM) (m : Nat → Nat) : Nat → Nat → Int32 → Int32
  | 0, _, r => r
  | n + 1, k, r => mRR M m n (k + 1) (mAnd r (mGo M m k))
def mReach (M : pM) (m : Nat → Nat) (p : Nat) : Int32 := if mRL M m p (p + 2) 0 1 = 0 then (if mRR M m (17 - (p + 1)) (p + 1) 1 = 0 then 0 else 1) else 1
def mSens (M : pM) (m : Nat → Nat) (p : Nat) : Int32 := mIn (M.1 (m 2) p) 1 3
def mNt (m : Nat → Nat) : Nat → pM → pM
  | 0, M => M
  | j + 1, M => mNt m j (pI M (m 29) (j + 3) (M.1 (m 29) j))
theorem mNt_0 {m : Nat → Nat} (hinj : ∀ i j, i < 34 → j < 34 → m i = m j → i = j) : ∀ (j : Nat) (M : pM), (mNt m j M).1 (m 0) = M.1 (m 0)
  | 0, M => rfl
  | j + 1, M => by
    rw [mNt, mNt_0 hinj j, pI_1n _ _ _ (fun e => absurd (hinj 0 29 (by decide) (by decide) e) (by decide))]
def mNote (M : pM) (m : Nat → Nat) (u v : Int32) : pM := pI (pI (pI (pI (mNt m 45 M) (m 29) 0 u) (m 29) 1 v) (m 29) 2 (M.1 (m 0) 25)) (m 0) 28 (if 16 ≤ M.1 (m 0) 28 then 16 else M.1 (m 0) 28 + 1)
theorem nI_m3 (j : Nat) : nI (j + 3) - 3 = nI j := by
  have h := pk_sub (a := j + 3) (b := 3) (by omega)
  rw [show j + 3 - 3 = j by omega] at h
  exact h
def mFt (M : pM) (m : Nat → Nat) : Nat → Nat → Int32 → Int32
  | 0, _, c => c
  | n + 1, i, c => mFt M m n (i + 1) (if M.1 (m 11) i = 0 then c else c + 1)
def mMine (M : pM) (m : Nat → Nat) (z : Int32) (p : Nat) : Int32 := if mSens M m p = 0 then 0 else if M.1 (m 3) p = z then (if M.1 (m 12) p = 0 then 1 else 0) else 0
def mWn1 (M : pM) (m : Nat → Nat) (z : Int32) (p : Nat) (s : Int32) : Int32 := if s = 0 then (if mMine M m z p = 0 then 0 else if M.1 (m 9) p = 0 then (if M.1 (m 2) p = 1 then (if Op.cmpValue (FP.fcmp (M.2 (m 7) p) (FP.fmul (M.2 (m 4) p) 1061158912)) .l < 0 then 0 else 1) else 0) else 1) else 1
def mWn (M : pM) (m : Nat → Nat) (z : Int32) : Nat → Nat → Int32 → Int32
  | 0, _, s => s
  | n + 1, p, s => mWn M m z n (p + 1) (mWn1 M m z p s)

set_option maxHeartbeats 1600000 in
set_option maxRecDepth 100000 in
theorem k_X7_thrown {l : Launch} {D : va_G} {cy : Nat → ClassId} {X : va_W} {G : pG} {M : pM} {m : Nat → Nat} (hM : wM G m) : jK l yX7_thrown wsX7_thrown ({ frames := 0, cells := 0, slots := 0, locals := 0 } : Room) D cy X G M [.ref (m 0)] (some (.int (M.1 (m 0) 0))) X M := by
  refine jK_of (own := RX7) (by decide) rfl rfl (Nat.le_of_ble_eq_true rfl) (fun C E hl hD hcy hG => ?_)
  subst hl; subst hD; subst hcy; subst hG
  have hinX7 : ∀ w ∈ u_ws RX7 TX7 34, w ∈ wsX7_thrown := by decide +kernel
  have hM0 := hM
  obtain ⟨hm1, hm2, hmt, hinj⟩ := hM
  refine j_aload_n E dX7_thrown_0 rfl rfl ?_
  refine j_getI (ci := 7) (k := 0) (Cn := RX7) (T := TX7) (N := 34) E dX7_thrown_1 hm1 hm2 rfl (by decide) hinX7 (by decide +kernel) rfl ?_
  exact j_iret E dX7_thrown_4 (by rfl) rfl (by rfl)

set_option maxHeartbeats 1600000 in
set_option maxRecDepth 100000 in
theorem k_X7_in {l : Launch} {D : va_G} {cy : Nat → ClassId} {X : va_W} {G : pG} {M : pM} {v lo hi : Int32}  : jK l yX7_in wsX7_in ({ frames := 0, cells := 0, slots := 0, locals := 0 } : Room) D cy X G M [.int v, .int lo, .int hi] (some (.int (mIn v lo hi))) X M := by
  refine jK_of (own := RX7) (by decide) rfl rfl (Nat.le_of_ble_eq_true rfl) (fun C E hl hD hcy hG => ?_)
  subst hl; subst hD; subst hcy; subst hG
  refine j_iload_n E dX7_in_0 rfl rfl ?_
  refine j_iload_n E dX7_in_1 rfl rfl ?_
  refine j_icmp_lt (tgt := 14) E dX7_in_2 (by decide) (fun h2 => ?_) (fun h2 => ?_)
  · refine j_iconst (v := 0) E dX7_in_14 (by decide) ?_
    exact j_zret E dX7_in_15 rfl (by simp [mIn, h2]) rfl (by simp [mIn, h2])
  · refine j_iload_n E dX7_in_5 rfl rfl ?_
    refine j_iload_n E dX7_in_6 rfl rfl ?_
    refine j_icmp_gt (tgt := 14) E dX7_in_7 (by decide) (fun h7 => ?_) (fun h7 => ?_)
    · refine j_iconst (v := 0) E dX7_in_14 (by decide) ?_
      exact j_zret E dX7_in_15 rfl (by simp [mIn, h2, h7]) rfl (by simp [mIn, h2, h7])
    · refine j_iconst (v := 1) E dX7_in_10 (by decide) ?_
      refine j_goto (tgt := 15) E dX7_in_11 (by decide) ?_
      exact j_zret E dX7_in_15 rfl (by simp [mIn, h2, h7]) rfl (by simp [mIn, h2, h7])

set_option maxHeartbeats 1600000 in
set_option maxRecDepth 100000 in
theorem kl_X7_stretchShort_64 {C : jC} (E : jE C cX7_stretchShort 4 wsX7_stretchShort RX7 (some .boolean) ({ frames := 0, cells := 0, slots := 0, locals := 0 } : Room)) {X : va_W} {M : pM} {m : Nat → Nat} {w : Int32} (hM : wM (jG C) m) : ∀ (n k : Nat) (s : Int32), k ≤ 16 → k + n = 17 → (s = 0 ∨ s = 1) → jW C 4 64 [(0, .ref (m 0)), (1, .int w), (2, .int s), (3, .int (nI k))] [] X M 0 0 (jZ C X M (some (.int (mSR M m n k s))) 0 0) := by
  have hinX7 : ∀ w ∈ u_ws RX7 TX7 34, w ∈ wsX7_stretchShort := by decide +kernel
  have hM0 := hM
  obtain ⟨hm1, hm2, hmt, hinj⟩ := hM
  obtain ⟨mp1, ml1, mk1, mn1⟩ := hmt 1 10 17 rfl
  obtain ⟨mp2, ml2, mk2, mn2⟩ := hmt 2 10 16 rfl
  intro n
  induction n with
  | zero => intro k s h1 h2; omega
  | succ n ih =>
    intro k s hk hn hs
    refine j_iload_n E dX7_stretchShort_64 rfl rfl ?_
    refine j_bipush (v := 16) E dX7_stretchShort_65 (by decide) ?_
    refine j_icmp_ge (tgt := 108) E dX7_stretchShort_67 (by decide) (fun h67 => ?_) (fun h67 => ?_)
    · refine j_iload_n E dX7_stretchShort_108 rfl rfl ?_
      exact j_zret E dX7_stretchShort_109 (nz01 hs) (by first | rfl | (simp [mSR, h67]; done)) rfl (by first | rfl | (simp [mSR, h67]; done))
    · have hk16 : k < 16 := lt_of_nge (n := 16) h67 (by omega)
      refine j_aload_n E dX7_stretchShort_70 rfl rfl ?_
      refine j_getP (ci := 7) (k := 2) (Cn := RX7) (T := TX7) (N := 34) E dX7_stretchShort_71 hm1 hm2 rfl (by decide) hinX7 (by decide +kernel) rfl mp2 ?_
      refine j_iload_n E dX7_stretchShort_74 rfl rfl ?_
      refine j_iald E dX7_stretchShort_75 ml2 mn2 rfl hk16 (by decide) mk2 ?_
      refine j_iconst (v := 4) E dX7_stretchShort_76 (by decide) ?_
      refine j_icmp_eq (tgt := 108) E dX7_stretchShort_77 (by decide) (fun h77 => ?_) (fun h77 => ?_)
      · refine j_iload_n E dX7_stretchShort_108 rfl rfl ?_
        exact j_zret E dX7_stretchShort_109 (nz01 hs) (by first | rfl | (simp [mSR, h67, h77]; done)) rfl (by first | rfl | (simp [mSR, h67, h77]; done))
      · refine j_iload_n E dX7_stretchShort_80 rfl rfl ?_
        refine j_if_ne (tgt := 96) E dX7_stretchShort_81 (by decide) (fun h81 => ?_) (fun h81 => ?_)
        · refine j_iconst (v := 1) E dX7_stretchShort_96 (by decide) ?_
          refine j_goto (tgt := 101) E dX7_stretchShort_97 (by decide) ?_
          refine j_istore_n E dX7_stretchShort_101 rfl (by decide) ?_
          refine j_iinc E dX7_stretchShort_102 rfl (by decide) ?_
          refine j_goto (tgt := 64) E dX7_stretchShort_105 (by decide) ?_
          exact j_lv [0, 1, 2, 3] rfl (by rw [nI_inc]; exact j_r (by simp [mSR, mOr, h67, h77, h81]) rfl (ih (k + 1) _ (by omega) (by omega) (by simp)))
        · refine j_aload_n E dX7_stretchShort_84 rfl rfl ?_
          refine j_getP (ci := 7) (k := 1) (Cn := RX7) (T := TX7) (N := 34) E dX7_stretchShort_85 hm1 hm2 rfl (by decide) hinX7 (by decide +kernel) rfl mp1 ?_
          refine j_iload_n E dX7_stretchShort_88 rfl rfl ?_
          refine j_iconst (v := 1) E dX7_stretchShort_89 (by decide) ?_
          refine j_iadd E dX7_stretchShort_90 ?_
          refine j_iald E dX7_stretchShort_91 ml1 mn1 (nI_1 k) (by omega) (by decide) mk1 ?_
          refine j_iconst (v := 2) E dX7_stretchShort_92 (by decide) ?_
          refine j_icmp_ne (tgt := 100) E dX7_stretchShort_93 (by decide) (fun h93 => ?_) (fun h93 => ?_)
          · refine j_iconst (v := 0) E dX7_stretchShort_100 (by decide) ?_
            refine j_istore_n E dX7_stretchShort_101 rfl (by decide) ?_
            refine j_iinc E dX7_stretchShort_102 rfl (by decide) ?_
            refine j_goto (tgt := 64) E dX7_stretchShort_105 (by decide) ?_
            exact j_lv [0, 1, 2, 3] rfl (by rw [nI_inc]; exact j_r (by simp [mSR, mOr, h67, h77, h81, h93]) rfl (ih (k + 1) _ (by omega) (by omega) (by simp)))
          · refine j_iconst (v := 1) E dX7_stretchShort_96 (by decide) ?_
            refine j_goto (tgt := 101) E dX7_stretchShort_97 (by decide) ?_
            refine j_istore_n E dX7_stretchShort_101 rfl (by decide) ?_
            refine j_iinc E dX7_stretchShort_102 rfl (by decide) ?_
            refine j_goto (tgt := 64) E dX7_stretchShort_105 (by decide) ?_
            exact j_lv [0, 1, 2, 3] rfl (by rw [nI_inc]; exact j_r (by simp [mSR, mOr, h67, h77, h81, h93]) rfl (ih (k + 1) _ (by omega) (by omega) (by simp)))

set_option maxHeartbeats 1600000 in
set_option maxRecDepth 100000 in
theorem kl_X7_stretchShort_18 {C : jC} (E : jE C cX7_stretchShort 4 wsX7_stretchShort RX7 (some .boolean) ({ frames := 0, cells := 0, slots := 0, locals := 0 } : Room)) {X : va_W} {M : pM} {m : Nat → Nat} {w : Nat} (hM : wM (jG C) m) (hw : w ≤ 16) : ∀ (k : Nat) (s : Int32), k ≤ w → (s = 0 ∨ s = 1) → jW C 4 18 [(0, .ref (m 0)), (1, .int (nI w)), (2, .int s), (3, .int (nI k))] [] X M 0 0 (jZ C X M (some (.int (mSR M m (17 - w) w (mSL M m k s)))) 0 0) := by
  have hinX7 : ∀ w ∈ u_ws RX7 TX7 34, w ∈ wsX7_stretchShort := by decide +kernel
  have hM0 := hM
  obtain ⟨hm1, hm2, hmt, hinj⟩ := hM
  obtain ⟨mp1, ml1, mk1, mn1⟩ := hmt 1 10 17 rfl
  obtain ⟨mp2, ml2, mk2, mn2⟩ := hmt 2 10 16 rfl
  have hsl : ∀ (k : Nat) (s : Int32), (s = 0 ∨ s = 1) → (mSL M m k s = 0 ∨ mSL M m k s = 1) := by
    intro k
    induction k with
    | zero => intro s h; exact h
    | succ k ih =>
      intro s h
      unfold mSL
      split
      · exact h
      · exact ih _ (by unfold mOr; split; split; exact Or.inr rfl; exact Or.inl rfl; exact Or.inr rfl)
  intro k
  induction k with
  | zero =>
    intro s hk hs
    refine j_iload_n E dX7_stretchShort_18 rfl rfl ?_
    refine j_if_le (tgt := 62) E dX7_stretchShort_19 (by decide) (fun h => ?_) (fun h => absurd (by decide) h)
    refine j_iload_n E dX7_stretchShort_62 rfl rfl ?_
    refine j_istore_n E dX7_stretchShort_63 rfl (by decide) ?_
    exact j_lv [0, 1, 2, 3] rfl (j_r (by simp [mSL, true_and]) rfl (kl_X7_stretchShort_64 E hM0 (17 - w) w _ hw (by omega) hs))
  | succ k ih =>
    intro s hk hs
    refine j_iload_n E dX7_stretchShort_18 rfl rfl ?_
    refine j_if_le (tgt := 62) E dX7_stretchShort_19 (by decide) (fun h19 => ?_) (fun h19 => ?_)
    · exact absurd h19 (nI_nle (by omega) (by omega))
    · refine j_aload_n E dX7_stretchShort_22 rfl rfl ?_
      refine j_getP (ci := 7) (k := 2) (Cn := RX7) (T := TX7) (N := 34) E dX7_stretchShort_23 hm1 hm2 rfl (by decide) hinX7 (by decide +kernel) rfl mp2 ?_
      refine j_iload_n E dX7_stretchShort_26 rfl rfl ?_
      refine j_iconst (v := 1) E dX7_stretchShort_27 (by decide) ?_
      refine j_isub E dX7_stretchShort_28 ?_
      refine j_iald E dX7_stretchShort_29 ml2 mn2 (nI_pred k) (by omega) (by decide) mk2 ?_
      refine j_iconst (v := 4) E dX7_stretchShort_30 (by decide) ?_
      refine j_icmp_eq (tgt := 62) E dX7_stretchShort_31 (by decide) (fun h31 => ?_) (fun h31 => ?_)
      · refine j_iload_n E dX7_stretchShort_62 rfl rfl ?_
        refine j_istore_n E dX7_stretchShort_63 rfl (by decide) ?_
        exact j_lv [0, 1, 2, 3] rfl (j_r (by simp [mSL, h19, h31]) rfl (kl_X7_stretchShort_64 E hM0 (17 - w) w _ hw (by omega) hs))
      · refine j_iload_n E dX7_stretchShort_34 rfl rfl ?_
        refine j_if_ne (tgt := 50) E dX7_stretchShort_35 (by decide) (fun h35 => ?_) (fun h35 => ?_)
        · refine j_iconst (v := 1) E dX7_stretchShort_50 (by decide) ?_
          refine j_goto (tgt := 55) E dX7_stretchShort_51 (by decide) ?_
          refine j_istore_n E dX7_stretchShort_55 rfl (by decide) ?_
          refine j_iinc E dX7_stretchShort_56 rfl (by decide) ?_
          refine j_goto (tgt := 18) E dX7_stretchShort_59 (by decide) ?_
          exact j_lv [0, 1, 2, 3] rfl (by rw [show nI (k + 1) + Int32.ofInt (-1) = nI k from pk_m1 k]; exact j_r (by simp [mSL, mOr, h19, h31, h35]) rfl (ih _ (by omega) (by simp)))
        · refine j_aload_n E dX7_stretchShort_38 rfl rfl ?_
          refine j_getP (ci := 7) (k := 1) (Cn := RX7) (T := TX7) (N := 34) E dX7_stretchShort_39 hm1 hm2 rfl (by decide) hinX7 (by decide +kernel) rfl mp1 ?_
          refine j_iload_n E dX7_stretchShort_42 rfl rfl ?_
          refine j_iconst (v := 1) E dX7_stretchShort_43 (by decide) ?_
          refine j_isub E dX7_stretchShort_44 ?_
          refine j_iald E dX7_stretchShort_45 ml1 mn1 (nI_pred k) (by omega) (by decide) mk1 ?_
          refine j_iconst (v := 2) E dX7_stretchShort_46 (by decide) ?_
          refine j_icmp_ne (tgt := 54) E dX7_stretchShort_47 (by decide) (fun h47 => ?_) (fun h47 => ?_)
          · refine j_iconst (v := 0) E dX7_stretchShort_54 (by decide) ?_
            refine j_istore_n E dX7_stretchShort_55 rfl (by decide) ?_
            refine j_iinc E dX7_stretchShort_56 rfl (by decide) ?_
            refine j_goto (tgt := 18) E dX7_stretchShort_59 (by decide) ?_
            exact j_lv [0, 1, 2, 3] rfl (by rw [show nI (k + 1) + Int32.ofInt (-1) = nI k from pk_m1 k]; exact j_r (by simp [mSL, mOr, h19, h31, h35, h47]) rfl (ih _ (by omega) (by simp)))
          · refine j_iconst (v := 1) E dX7_stretchShort_50 (by decide) ?_
            refine j_goto (tgt := 55) E dX7_stretchShort_51 (by decide) ?_
            refine j_istore_n E dX7_stretchShort_55 rfl (by decide) ?_
            refine j_iinc E dX7_stretchShort_56 rfl (by decide) ?_
            refine j_goto (tgt := 18) E dX7_stretchShort_59 (by decide) ?_
            exact j_lv [0, 1, 2, 3] rfl (by rw [show nI (k + 1) + Int32.ofInt (-1) = nI k from pk_m1 k]; exact j_r (by simp [mSL, mOr, h19, h31, h35, h47]) rfl (ih _ (by omega) (by simp)))

set_option maxHeartbeats 1600000 in
set_option maxRecDepth 100000 in
theorem k_X7_stretchShort {l : Launch} {D : va_G} {cy : Nat → ClassId} {X : va_W} {G : pG} {M : pM} {m : Nat → Nat} {w : Nat} (hM : wM G m) (hw : w < 17) : jK l yX7_stretchShort wsX7_stretchShort ({ frames := 0, cells := 0, slots := 0, locals := 0 } : Room) D cy X G M [.ref (m 0), .int (nI w)] (some (.int (mSS M m w))) X M := by
  refine jK_of (own := RX7) (by decide) rfl rfl (Nat.le_of_ble_eq_true rfl) (fun C E hl hD hcy hG => ?_)
  subst hl; subst hD; subst hcy; subst hG
  have hinX7 : ∀ w ∈ u_ws RX7 TX7 34, w ∈ wsX7_stretchShort := by decide +kernel
  have hM0 := hM
  obtain ⟨hm1, hm2, hmt, hinj⟩ := hM
  obtain ⟨mp1, ml1, mk1, mn1⟩ := hmt 1 10 17 rfl
  obtain ⟨mp2, ml2, mk2, mn2⟩ := hmt 2 10 16 rfl
  refine j_aload_n E dX7_stretchShort_0 rfl rfl ?_
  refine j_getP (ci := 7) (k := 1) (Cn := RX7) (T := TX7) (N := 34) E dX7_stretchShort_1 hm1 hm2 rfl (by decide) hinX7 (by decide +kernel) rfl mp1 ?_
  refine j_iload_n E dX7_stretchShort_4 rfl rfl ?_
  refine j_iald E dX7_stretchShort_5 ml1 mn1 rfl hw (by decide) mk1 ?_
  refine j_iconst (v := 2) E dX7_stretchShort_6 (by decide) ?_
  refine j_icmp_ne (tgt := 14) E dX7_stretchShort_7 (by decide) (fun h7 => ?_) (fun h7 => ?_)
  · refine j_iconst (v := 0) E dX7_stretchShort_14 (by decide) ?_
    refine j_istore_n E dX7_stretchShort_15 rfl (by decide) ?_
    refine j_iload_n E dX7_stretchShort_16 rfl rfl ?_
    refine j_istore_n E dX7_stretchShort_17 rfl (by decide) ?_
    exact j_lv [0, 1, 2, 3] rfl (j_r (by simp [mSS, h7]) rfl (kl_X7_stretchShort_18 E hM0 (by omega) w _ (Nat.le_refl w) (by simp)))
  · refine j_iconst (v := 1) E dX7_stretchShort_10 (by decide) ?_
    refine j_goto (tgt := 15) E dX7_stretchShort_11 (by decide) ?_
    refine j_istore_n E dX7_stretchShort_15 rfl (by decide) ?_
    refine j_iload_n E dX7_stretchShort_16 rfl rfl ?_
    refine j_istore_n E dX7_stretchShort_17 rfl (by decide) ?_
    exact j_lv [0, 1, 2, 3] rfl (j_r (by simp [mSS, h7]) rfl (kl_X7_stretchShort_18 E hM0 (by omega) w _ (Nat.le_refl w) (by simp)))

set_option maxHeartbeats 1600000 in
set_option maxRecDepth 100000 in
theorem k_X7_goes {l : Launch} {D : va_G} {cy : Nat → ClassId} {X : va_W} {G : pG} {M : pM} {m : Nat → Nat} {w : Nat} (hM : wM G m) (hw : w < 17) : jK l yX7_goes wsX7_goes ({ frames := 1, cells := 0, slots := 0, locals := 23 } : Room) D cy X G M [.ref (m 0), .int (nI w)] (some (.int (mGo M m w))) X M := by
  refine jK_of (own := RX7) (by decide) rfl rfl (Nat.le_of_ble_eq_true rfl) (fun C E hl hD hcy hG => ?_)
  subst hl; subst hD; subst hcy; subst hG
  have hinX7 : ∀ w ∈ u_ws RX7 TX7 34, w ∈ wsX7_goes := by decide +kernel
  have hM0 := hM
  obtain ⟨hm1, hm2, hmt, hinj⟩ := hM
  obtain ⟨mp1, ml1, mk1, mn1⟩ := hmt 1 10 17 rfl
  refine j_aload_n E dX7_goes_0 rfl rfl ?_
  refine j_getP (ci := 7) (k := 1) (Cn := RX7) (T := TX7) (N := 34) E dX7_goes_1 hm1 hm2 rfl (by decide) hinX7 (by decide +kernel) rfl mp1 ?_
  refine j_iload_n E dX7_goes_4 rfl rfl ?_
  refine j_iald E dX7_goes_5 ml1 mn1 rfl hw (by decide) mk1 ?_
  refine j_iconst (v := 1) E dX7_goes_6 (by decide) ?_
  refine j_icmp_eq (tgt := 22) E dX7_goes_7 (by decide) (fun h7 => ?_) (fun h7 => ?_)
  · refine j_iconst (v := 0) E dX7_goes_22 (by decide) ?_
    exact j_zret E dX7_goes_23 rfl (by simp [mGo, h7]) rfl (by simp [mGo, h7])
  · refine j_aload_n E dX7_goes_10 rfl rfl ?_
    refine j_iload_n E dX7_goes_11 rfl rfl ?_
    refine j_callV1 (ci := 7) (n := 1) E (k_X7_stretchShort hM0 hw) dX7_goes_12 gX7_goes_X7_stretchShort rfl (by decide +kernel) ⟨rfl, rfl, by decide, by decide⟩ ⟨Nat.zero_le _, Nat.zero_le _⟩ hm1 hm2 rfl rfl rfl (Nat.le_of_ble_eq_true rfl) rfl ?_
    refine j_if_ne (tgt := 22) E dX7_goes_15 (by decide) (fun h15 => ?_) (fun h15 => ?_)
    · refine j_iconst (v := 0) E dX7_goes_22 (by decide) ?_
      exact j_zret E dX7_goes_23 rfl (by simp [mGo, h7, h15]) rfl (by simp [mGo, h7, h15])
    · refine j_iconst (v := 1) E dX7_goes_18 (by decide) ?_
      refine j_goto (tgt := 23) E dX7_goes_19 (by decide) ?_
      exact j_zret E dX7_goes_23 rfl (by simp [mGo, h7, h15]) rfl (by simp [mGo, h7, h15])

set_option maxHeartbeats 1600000 in
set_option maxRecDepth 100000 in
theorem kl_X7_reached_40 {C : jC} (E : jE C cX7_reached 5 wsX7_reached RX7 (some .boolean) ({ frames := 2, cells := 0, slots := 0, locals := 44 } : Room)) {X : va_W} {M : pM} {m : Nat → Nat} {p : Nat} {l : Int32} (hM : wM (jG C) m) : ∀ (n k : Nat) (r : Int32), k + n = 17 → jW C 5 40 [(0, .ref (m 0)), (1, .int (nI p)), (2, .int l), (3, .int r), (4, .int (nI k))] [] X M 0 0 (jZ C X M (some (.int (if l = 0 then (if mRR M m n k r = 0 then 0 else 1) else 1))) 0 0) := by

  have hM0 := hM
  obtain ⟨hm1, hm2, hmt, hinj⟩ := hM
  intro n
  induction n with
  | zero =>
    intro k r hn
    obtain rfl : k = 17 := by omega
    refine j_iload E dX7_reached_40 rfl ?_
    refine j_bipush (v := 17) E dX7_reached_42 (by decide) ?_
    refine j_icmp_ge (tgt := 72) E dX7_reached_44 (by decide) (fun h => ?_) (fun h => absurd (by decide) h)
    refine j_iload_n E dX7_reached_72 rfl rfl ?_
    refine j_if_ne (tgt := 80) E dX7_reached_73 (by decide) (fun h73 => ?_) (fun h73 => ?_)
    · refine j_iconst (v := 1) E dX7_reached_80 (by decide) ?_
      refine j_goto (tgt := 85) E dX7_reached_81 (by decide) ?_
      exact j_zret E dX7_reached_85 rfl (by simp [mRR, h73]) rfl (by simp [mRR, h73])
    · refine j_iload_n E dX7_reached_76 rfl rfl ?_
      refine j_if_eq (tgt := 84) E dX7_reached_77 (by decide) (fun h77 => ?_) (fun h77 => ?_)
      · refine j_iconst (v := 0) E dX7_reached_84 (by decide) ?_
        exact j_zret E dX7_reached_85 rfl (by simp [mRR, h73, h77]) rfl (by simp [mRR, h73, h77])
      · refine j_iconst (v := 1) E dX7_reached_80 (by decide) ?_
        refine j_goto (tgt := 85) E dX7_reached_81 (by decide) ?_
        exact j_zret E dX7_reached_85 rfl (by simp [mRR, h73, h77]) rfl (by simp [mRR, h73, h77])
  | succ n ih =>
    intro k r hn
    have hk : k < 17 := by omega
    refine j_iload E dX7_reached_40 rfl ?_
    refine j_bipush (v := 17) E dX7_reached_42 (by decide) ?_
    refine j_icmp_ge (tgt := 72) E dX7_reached_44 (by decide) (fun h44 => ?_) (fun h44 => ?_)
    · exact absurd h44 (nI_ge (b := 17) hk (by decide))
    · refine j_iload_n E dX7_reached_47 rfl rfl ?_
      refine j_if_eq (tgt := 64) E dX7_reached_48 (by decide) (fun h48 => ?_) (fun h48 => ?_)
      · refine j_iconst (v := 0) E dX7_reached_64 (by decide) ?_
        refine j_istore_n E dX7_reached_65 rfl (by decide) ?_
        refine j_iinc E dX7_reached_66 rfl (by decide) ?_
        refine j_goto (tgt := 40) E dX7_reached_69 (by decide) ?_
        exact j_lv [0, 1, 2, 3, 4] rfl (by rw [nI_inc]; exact j_r (by simp [mRR, mAnd, h44, h48]) rfl (ih (k + 1) _ (by omega)))
      · refine j_aload_n E dX7_reached_51 rfl rfl ?_
        refine j_iload E dX7_reached_52 rfl ?_
        refine j_callV1 (ci := 7) (n := 1) E (k_X7_goes hM0 hk) dX7_reached_54 gX7_reached_X7_goes rfl (by decide +kernel) ⟨rfl, rfl, by decide, by decide⟩ ⟨Nat.zero_le _, Nat.zero_le _⟩ hm1 hm2 rfl rfl rfl (Nat.le_of_ble_eq_true rfl) rfl ?_
        refine j_if_eq (tgt := 64) E dX7_reached_57 (by decide) (fun h57 => ?_) (fun h57 => ?_)
        · refine j_iconst (v := 0) E dX7_reached_64 (by decide) ?_
          refine j_istore_n E dX7_reached_65 rfl (by decide) ?_
          refine j_iinc E dX7_reached_66 rfl (by decide) ?_
          refine j_goto (tgt := 40) E dX7_reached_69 (by decide) ?_
          exact j_lv [0, 1, 2, 3, 4] rfl (by rw [nI_inc]; exact j_r (by simp [mRR, mAnd, h44, h48, h57]) rfl (ih (k + 1) _ (by omega)))
        · refine j_iconst (v := 1) E dX7_reached_60 (by decide) ?_
          refine j_goto (tgt := 65) E dX7_reached_61 (by decide) ?_
          refine j_istore_n E dX7_reached_65 rfl (by decide) ?_
          refine j_iinc E dX7_reached_66 rfl (by decide) ?_
          refine j_goto (tgt := 40) E dX7_reached_69 (by decide) ?_
          exact j_lv [0, 1, 2, 3, 4] rfl (by rw [nI_inc]; exact j_r (by simp [mRR, mAnd, h44, h48, h57]) rfl (ih (k + 1) _ (by omega)))

set_option maxHeartbeats 1600000 in
set_option maxRecDepth 100000 in
theorem kl_X7_reached_4 {C : jC} (E : jE C cX7_reached 5 wsX7_reached RX7 (some .boolean) ({ frames := 2, cells := 0, slots := 0, locals := 44 } : Room)) {X : va_W} {M : pM} {m : Nat → Nat} {p : Nat} (hM : wM (jG C) m) (hp : p < 16) : ∀ (n k : Nat) (l : Int32), k ≤ p + 1 → k + n = p + 2 → jW C 5 4 [(0, .ref (m 0)), (1, .int (nI p)), (2, .int l), (3, .int (nI k))] [] X M 0 0 (jZ C X M (some (.int (if mRL M m p n k l = 0 then (if mRR M m (17 - (p + 1)) (p + 1) 1 = 0 then 0 else 1) else 1))) 0 0) := by

  have hM0 := hM
  obtain ⟨hm1, hm2, hmt, hinj⟩ := hM
  intro n
  induction n with
  | zero => intro k l h1 h2; omega
  | succ n ih =>
    intro k l hk hn
    refine j_iload_n E dX7_reached_4 rfl rfl ?_
    refine j_iload_n E dX7_reached_5 rfl rfl ?_
    refine j_icmp_gt (tgt := 33) E dX7_reached_6 (by decide) (fun h6 => ?_) (fun h6 => ?_)
    · refine j_iconst (v := 1) E dX7_reached_33 (by decide) ?_
      refine j_istore_n E dX7_reached_34 rfl (by decide) ?_
      refine j_iload_n E dX7_reached_35 rfl rfl ?_
      refine j_iconst (v := 1) E dX7_reached_36 (by decide) ?_
      refine j_iadd E dX7_reached_37 ?_
      refine j_istore E dX7_reached_38 (by decide) ?_
      exact j_lv [0, 1, 2, 3, 4] rfl (by rw [show nI p + 1 = nI (p + 1) from nI_1 p]; exact j_r (by simp [mRL, h6]) rfl (kl_X7_reached_40 E hM0 (17 - (p + 1)) (p + 1) 1 (by omega)))
    · have hkp : k ≤ p := by
        rcases Nat.lt_or_ge p k with q | q
        · exact absurd (nI_lt q (by omega)) h6
        · exact q
      refine j_iload_n E dX7_reached_9 rfl rfl ?_
      refine j_if_eq (tgt := 25) E dX7_reached_10 (by decide) (fun h10 => ?_) (fun h10 => ?_)
      · refine j_iconst (v := 0) E dX7_reached_25 (by decide) ?_
        refine j_istore_n E dX7_reached_26 rfl (by decide) ?_
        refine j_iinc E dX7_reached_27 rfl (by decide) ?_
        refine j_goto (tgt := 4) E dX7_reached_30 (by decide) ?_
        exact j_lv [0, 1, 2, 3] rfl (by rw [nI_inc]; exact j_r (by simp [mRL, mAnd, h6, h10]) rfl (ih (k + 1) _ (by omega) (by omega)))
      · refine j_aload_n E dX7_reached_13 rfl rfl ?_
        refine j_iload_n E dX7_reached_14 rfl rfl ?_
        refine j_callV1 (ci := 7) (n := 1) E (k_X7_goes hM0 (by omega)) dX7_reached_15 gX7_reached_X7_goes rfl (by decide +kernel) ⟨rfl, rfl, by decide, by decide⟩ ⟨Nat.zero_le _, Nat.zero_le _⟩ hm1 hm2 rfl rfl rfl (Nat.le_of_ble_eq_true rfl) rfl ?_
        refine j_if_eq (tgt := 25) E dX7_reached_18 (by decide) (fun h18 => ?_) (fun h18 => ?_)
        · refine j_iconst (v := 0) E dX7_reached_25 (by decide) ?_
          refine j_istore_n E dX7_reached_26 rfl (by decide) ?_
          refine j_iinc E dX7_reached_27 rfl (by decide) ?_
          refine j_goto (tgt := 4) E dX7_reached_30 (by decide) ?_
          exact j_lv [0, 1, 2, 3] rfl (by rw [nI_inc]; exact j_r (by simp [mRL, mAnd, h6, h10, h18]) rfl (ih (k + 1) _ (by omega) (by omega)))
        · refine j_iconst (v := 1) E dX7_reached_21 (by decide) ?_
          refine j_goto (tgt := 26) E dX7_reached_22 (by decide) ?_
          refine j_istore_n E dX7_reached_26 rfl (by decide) ?_
          refine j_iinc E dX7_reached_27 rfl (by decide) ?_
          refine j_goto (tgt := 4) E dX7_reached_30 (by decide) ?_
          exact j_lv [0, 1, 2, 3] rfl (by rw [nI_inc]; exact j_r (by simp [mRL, mAnd, h6, h10, h18]) rfl (ih (k + 1) _ (by omega) (by omega)))

set_option maxHeartbeats 1600000 in
set_option maxRecDepth 100000 in
theorem k_X7_reached {l : Launch} {D : va_G} {cy : Nat → ClassId} {X : va_W} {G : pG} {M : pM} {m : Nat → Nat} {p : Nat} (hM : wM G m) (hp : p < 16) : jK l yX7_reached wsX7_reached ({ frames := 2, cells := 0, slots := 0, locals := 44 } : Room) D cy X G M [.ref (m 0), .int (nI p)] (some (.int (mReach M m p))) X M := by
  refine jK_of (own := RX7) (by decide) rfl rfl (Nat.le_of_ble_eq_true rfl) (fun C E hl hD hcy hG => ?_)
  subst hl; subst hD; subst hcy; subst hG

  have hM0 := hM
  obtain ⟨hm1, hm2, hmt, hinj⟩ := hM
  refine j_iconst (v := 1) E dX7_reached_0 (by decide) ?_
  refine j_istore_n E dX7_reached_1 rfl (by decide) ?_
  refine j_iconst (v := 0) E dX7_reached_2 (by decide) ?_
  refine j_istore_n E dX7_reached_3 rfl (by decide) ?_
  exact j_lv [0, 1, 2, 3] rfl (kl_X7_reached_4 E hM0 hp (p + 2) 0 1 (by omega) (by omega))

set_option maxHeartbeats 1600000 in
set_option maxRecDepth 100000 in
theorem k_X7_isSensor {l : Launch} {D : va_G} {cy : Nat → ClassId} {X : va_W} {G : pG} {M : pM} {m : Nat → Nat} {p : Nat} (hM : wM G m) (hp : p < 16) : jK l yX7_isSensor wsX7_isSensor ({ frames := 1, cells := 0, slots := 0, locals := 22 } : Room) D cy X G M [.ref (m 0), .int (nI p)] (some (.int (mSens M m p))) X M := by
  refine jK_of (own := RX7) (by decide) rfl rfl (Nat.le_of_ble_eq_true rfl) (fun C E hl hD hcy hG => ?_)
  subst hl; subst hD; subst hcy; subst hG
  have hinX7 : ∀ w ∈ u_ws RX7 TX7 34, w ∈ wsX7_isSensor := by decide +kernel
  have hM0 := hM
  obtain ⟨hm1, hm2, hmt, hinj⟩ := hM
  obtain ⟨mp2, ml2, mk2, mn2⟩ := hmt 2 10 16 rfl
  refine j_aload_n E dX7_isSensor_0 rfl rfl ?_
  refine j_getP (ci := 7) (k := 2) (Cn := RX7) (T := TX7) (N := 34) E dX7_isSensor_1 hm1 hm2 rfl (by decide) hinX7 (by decide +kernel) rfl mp2 ?_
  refine j_iload_n E dX7_isSensor_4 rfl rfl ?_
  refine j_iald E dX7_isSensor_5 ml2 mn2 rfl hp (by decide) mk2 ?_
  refine j_iconst (v := 1) E dX7_isSensor_6 (by decide) ?_
  refine j_iconst (v := 3) E dX7_isSensor_7 (by decide) ?_
  refine j_callS1 (n := 3) E (k_X7_in ) dX7_isSensor_8 gX7_isSensor_X7_in rfl (by decide +kernel) ⟨rfl, rfl, by decide, by decide⟩ ⟨Nat.zero_le _, Nat.zero_le _⟩ rfl rfl (Nat.le_of_ble_eq_true rfl) rfl ?_
  exact j_zret E dX7_isSensor_11 (nz01 (mIn_01 _ _ _)) (by rfl) rfl (by rfl)

set_option maxHeartbeats 1600000 in
set_option maxRecDepth 100000 in
theorem kl_X7_note_3 {C : jC} (E : jE C cX7_note 4 wsX7_note RX7 none ({ frames := 0, cells := 0, slots := 0, locals := 0 } : Room)) {X : va_W} {m : Nat → Nat} {u v : Int32} (hM : wM (jG C) m) : ∀ (j : Nat) (M : pM), j ≤ 45 → jW C 4 3 [(0, .ref (m 0)), (1, .int u), (2, .int v), (3, .int (nI (j + 2)))] [] X M 0 0 (jZ C X (pI (pI (pI (pI (mNt m j M) (m 29) 0 u) (m 29) 1 v) (m 29) 2 (M.1 (m 0) 25)) (m 0) 28 (if 16 ≤ M.1 (m 0) 28 then 16 else M.1 (m 0) 28 + 1)) none 0 0) := by
  have hinX7 : ∀ w ∈ u_ws RX7 TX7 34, w ∈ wsX7_note := by decide +kernel
  have hM0 := hM
  obtain ⟨hm1, hm2, hmt, hinj⟩ := hM
  obtain ⟨mp29, ml29, mk29, mn29⟩ := hmt 29 10 48 rfl
  intro j
  induction j with
  | zero =>
    intro M hj
    refine j_iload_n E dX7_note_3 rfl rfl ?_
    refine j_iconst (v := 2) E dX7_note_4 (by decide) ?_
    refine j_icmp_le (tgt := 28) E dX7_note_5 (by decide) (fun h => ?_) (fun h => absurd (by decide) h)
    refine j_aload_n E dX7_note_28 rfl rfl ?_
    refine j_getP (ci := 7) (k := 29) (Cn := RX7) (T := TX7) (N := 34) E dX7_note_29 hm1 hm2 rfl (by decide) hinX7 (by decide +kernel) rfl mp29 ?_
    refine j_iconst (v := 0) E dX7_note_32 (by decide) ?_
    refine j_iload_n E dX7_note_33 rfl rfl ?_
    refine j_iast E dX7_note_34 ml29 mn29 (j := 0) rfl (by decide) (by decide) mk29 ?_
    refine j_aload_n E dX7_note_35 rfl rfl ?_
    refine j_getP (ci := 7) (k := 29) (Cn := RX7) (T := TX7) (N := 34) E dX7_note_36 hm1 hm2 rfl (by decide) hinX7 (by decide +kernel) rfl mp29 ?_
    refine j_iconst (v := 1) E dX7_note_39 (by decide) ?_
    refine j_iload_n E dX7_note_40 rfl rfl ?_
    refine j_iast E dX7_note_41 ml29 mn29 (j := 1) rfl (by decide) (by decide) mk29 ?_
    refine j_aload_n E dX7_note_42 rfl rfl ?_
    refine j_getP (ci := 7) (k := 29) (Cn := RX7) (T := TX7) (N := 34) E dX7_note_43 hm1 hm2 rfl (by decide) hinX7 (by decide +kernel) rfl mp29 ?_
    refine j_iconst (v := 2) E dX7_note_46 (by decide) ?_
    refine j_aload_n E dX7_note_47 rfl rfl ?_
    refine j_getI (ci := 7) (k := 25) (Cn := RX7) (T := TX7) (N := 34) E dX7_note_48 hm1 hm2 rfl (by decide) hinX7 (by decide +kernel) rfl ?_
    try simp only [pI_m hinj, pF_m hinj, pI_2, pF_1, Nat.reduceEqDiff, Nat.reduceLT, Nat.reduceLeDiff, eq_self, ↓reduceIte]
    refine j_iast E dX7_note_51 ml29 mn29 (j := 2) rfl (by decide) (by decide) mk29 ?_
    refine j_aload_n E dX7_note_52 rfl rfl ?_
    refine j_aload_n E dX7_note_53 rfl rfl ?_
    refine j_getI (ci := 7) (k := 28) (Cn := RX7) (T := TX7) (N := 34) E dX7_note_54 hm1 hm2 rfl (by decide) hinX7 (by decide +kernel) rfl ?_
    try simp only [pI_m hinj, pF_m hinj, pI_2, pF_1, Nat.reduceEqDiff, Nat.reduceLT, Nat.reduceLeDiff, eq_self, ↓reduceIte]
    refine j_bipush (v := 16) E dX7_note_57 (by decide) ?_
    refine j_icmp_ge (tgt := 71) E dX7_note_59 (by decide) (fun h59 => ?_) (fun h59 => ?_)
    · refine j_bipush (v := 16) E dX7_note_71 (by decide) ?_
      refine j_putI (ci := 7) (k := 28) (Cn := RX7) (T := TX7) (N := 34) E dX7_note_73 hm1 hm2 rfl (by decide) hinX7 (by decide +kernel) rfl tyX7 tyX7_ok nmX7 rfl rfl rfl rfl ?_
      exact j_vret E dX7_note_76 rfl (by simp [mNt, h59])
    · refine j_aload_n E dX7_note_62 rfl rfl ?_
      refine j_getI (ci := 7) (k := 28) (Cn := RX7) (T := TX7) (N := 34) E dX7_note_63 hm1 hm2 rfl (by decide) hinX7 (by decide +kernel) rfl ?_
      try simp only [pI_m hinj, pF_m hinj, pI_2, pF_1, Nat.reduceEqDiff, Nat.reduceLT, Nat.reduceLeDiff, eq_self, ↓reduceIte]
      refine j_iconst (v := 1) E dX7_note_66 (by decide) ?_
      refine j_iadd E dX7_note_67 ?_
      refine j_goto (tgt := 73) E dX7_note_68 (by decide) ?_
      refine j_putI (ci := 7) (k := 28) (Cn := RX7) (T := TX7) (N := 34) E dX7_note_73 hm1 hm2 rfl (by decide) hinX7 (by decide +kernel) rfl tyX7 tyX7_ok nmX7 rfl rfl rfl rfl ?_
      exact j_vret E dX7_note_76 rfl (by simp [mNt, h59])
  | succ j ih =>
    intro M hj
    refine j_iload_n E dX7_note_3 rfl rfl ?_
    refine j_iconst (v := 2) E dX7_note_4 (by decide) ?_
    refine j_icmp_le (tgt := 28) E dX7_note_5 (by decide) (fun h5 => ?_) (fun h5 => ?_)
    · exact absurd h5 (nI_ge (b := j + 1 + 2) (a := 2) (by omega) (by omega))
    · refine j_aload_n E dX7_note_8 rfl rfl ?_
      refine j_getP (ci := 7) (k := 29) (Cn := RX7) (T := TX7) (N := 34) E dX7_note_9 hm1 hm2 rfl (by decide) hinX7 (by decide +kernel) rfl mp29 ?_
      refine j_iload_n E dX7_note_12 rfl rfl ?_
      refine j_aload_n E dX7_note_13 rfl rfl ?_
      refine j_getP (ci := 7) (k := 29) (Cn := RX7) (T := TX7) (N := 34) E dX7_note_14 hm1 hm2 rfl (by decide) hinX7 (by decide +kernel) rfl mp29 ?_
      refine j_iload_n E dX7_note_17 rfl rfl ?_
      refine j_iconst (v := 3) E dX7_note_18 (by decide) ?_
      refine j_isub E dX7_note_19 ?_
      refine j_iald E dX7_note_20 ml29 mn29 (nI_m3 j) (by omega) (by decide) mk29 ?_
      refine j_iast E dX7_note_21 ml29 mn29 rfl (by omega) (by decide) mk29 ?_
      refine j_iinc E dX7_note_22 rfl (by decide) ?_
      refine j_goto (tgt := 3) E dX7_note_25 (by decide) ?_
      exact j_lv [0, 1, 2, 3] rfl (by rw [show nI (j + 1 + 2) + Int32.ofInt (-1) = nI (j + 2) from pk_m1 (j + 2)]; have h9 := ih (pI M (m 29) (j + 3) (M.1 (m 29) j)) (by omega); simp only [pI_m hinj, Nat.reduceEqDiff, Nat.reduceLT, Nat.reduceLeDiff, ↓reduceIte] at h9; exact h9)

set_option maxHeartbeats 1600000 in
set_option maxRecDepth 100000 in
theorem k_X7_note {l : Launch} {D : va_G} {cy : Nat → ClassId} {X : va_W} {G : pG} {M : pM} {m : Nat → Nat} {u v : Int32} (hM : wM G m) : jK l yX7_note wsX7_note ({ frames := 0, cells := 0, slots := 0, locals := 0 } : Room) D cy X G M [.ref (m 0), .int u, .int v] none X (mNote M m u v) := by
  refine jK_of (own := RX7) (by decide) rfl rfl (Nat.le_of_ble_eq_true rfl) (fun C E hl hD hcy hG => ?_)
  subst hl; subst hD; subst hcy; subst hG

  have hM0 := hM
  obtain ⟨hm1, hm2, hmt, hinj⟩ := hM
  obtain ⟨mp29, ml29, mk29, mn29⟩ := hmt 29 10 48 rfl
  refine j_bipush (v := 47) E dX7_note_0 (by decide) ?_
  refine j_istore_n E dX7_note_2 rfl (by decide) ?_
  exact j_lv [0, 1, 2, 3] rfl (kl_X7_note_3 E hM0 45 M (by omega))
end
