theorem dX0_init_0 : decode cX0_init 0 = .ok (.aload_n 0, 1) := by decide +kernel
theorem dX0_init_1 : decode cX0_init 1 = .ok (.invokespecial 3, 3) := by decide +kernel
theorem dX0_init_4 : decode cX0_init 4 = .ok (.aload_n 0, 1) := by decide +kernel
theorem dX0_init_5 : decode cX0_init 5 = .ok (.bipush 48, 2) := by decide +kernel
theorem dX0_init_7 : decode cX0_init 7 = .ok (.newarray .int, 2) := by decide +kernel
theorem dX0_init_9 : decode cX0_init 9 = .ok (.putfield 9, 3) := by decide +kernel
theorem dX0_init_12 : decode cX0_init 12 = .ok (.return_, 1) := by decide +kernel
theorem dX0_add_0 : decode cX0_add 0 = .ok (.aload_n 0, 1) := by decide +kernel
theorem dX0_add_1 : decode cX0_add 1 = .ok (.getfield 9, 3) := by decide +kernel
theorem dX0_add_4 : decode cX0_add 4 = .ok (.iconst 0, 1) := by decide +kernel
theorem dX0_add_5 : decode cX0_add 5 = .ok (.aload_n 0, 1) := by decide +kernel
theorem dX0_add_6 : decode cX0_add 6 = .ok (.getfield 9, 3) := by decide +kernel
theorem dX0_add_9 : decode cX0_add 9 = .ok (.iconst 3, 1) := by decide +kernel
theorem dX0_add_10 : decode cX0_add 10 = .ok (.bipush 45, 2) := by decide +kernel
theorem dX0_add_12 : decode cX0_add 12 = .ok (.invokestatic 15, 3) := by decide +kernel
theorem dX0_add_15 : decode cX0_add 15 = .ok (.aload_n 0, 1) := by decide +kernel
theorem dX0_add_16 : decode cX0_add 16 = .ok (.getfield 9, 3) := by decide +kernel
theorem dX0_add_19 : decode cX0_add 19 = .ok (.iconst 0, 1) := by decide +kernel
theorem dX0_add_20 : decode cX0_add 20 = .ok (.iload_n 1, 1) := by decide +kernel
theorem dX0_add_21 : decode cX0_add 21 = .ok (.iastore, 1) := by decide +kernel
theorem dX0_add_22 : decode cX0_add 22 = .ok (.aload_n 0, 1) := by decide +kernel
theorem dX0_add_23 : decode cX0_add 23 = .ok (.getfield 9, 3) := by decide +kernel
theorem dX0_add_26 : decode cX0_add 26 = .ok (.iconst 1, 1) := by decide +kernel
theorem dX0_add_27 : decode cX0_add 27 = .ok (.iload_n 2, 1) := by decide +kernel
theorem dX0_add_28 : decode cX0_add 28 = .ok (.iastore, 1) := by decide +kernel
theorem dX0_add_29 : decode cX0_add 29 = .ok (.aload_n 0, 1) := by decide +kernel
theorem dX0_add_30 : decode cX0_add 30 = .ok (.getfield 9, 3) := by decide +kernel
theorem dX0_add_33 : decode cX0_add 33 = .ok (.iconst 2, 1) := by decide +kernel
theorem dX0_add_34 : decode cX0_add 34 = .ok (.iload_n 3, 1) := by decide +kernel
theorem dX0_add_35 : decode cX0_add 35 = .ok (.iastore, 1) := by decide +kernel
theorem dX0_add_36 : decode cX0_add 36 = .ok (.aload_n 0, 1) := by decide +kernel
theorem dX0_add_37 : decode cX0_add 37 = .ok (.aload_n 0, 1) := by decide +kernel
theorem dX0_add_38 : decode cX0_add 38 = .ok (.getfield 21, 3) := by decide +kernel
theorem dX0_add_41 : decode cX0_add 41 = .ok (.iconst 1, 1) := by decide +kernel
theorem dX0_add_42 : decode cX0_add 42 = .ok (.iadd, 1) := by decide +kernel
theorem dX0_add_43 : decode cX0_add 43 = .ok (.bipush 16, 2) := by decide +kernel
theorem dX0_add_45 : decode cX0_add 45 = .ok (.invokestatic 25, 3) := by decide +kernel
theorem dX0_add_48 : decode cX0_add 48 = .ok (.putfield 21, 3) := by decide +kernel
theorem dX0_add_51 : decode cX0_add 51 = .ok (.return_, 1) := by decide +kernel
theorem dX1_init_0 : decode cX1_init 0 = .ok (.aload_n 0, 1) := by decide +kernel
theorem dX1_init_1 : decode cX1_init 1 = .ok (.invokespecial 3, 3) := by decide +kernel
theorem dX1_init_4 : decode cX1_init 4 = .ok (.aload_n 0, 1) := by decide +kernel
theorem dX1_init_5 : decode cX1_init 5 = .ok (.bipush 20, 2) := by decide +kernel
theorem dX1_init_7 : decode cX1_init 7 = .ok (.newarray .char, 2) := by decide +kernel
theorem dX1_init_9 : decode cX1_init 9 = .ok (.putfield 9, 3) := by decide +kernel
theorem dX1_init_12 : decode cX1_init 12 = .ok (.return_, 1) := by decide +kernel
set_option maxRecDepth 20000 in
theorem ggX1_append_X1_standsInRules : GoodIn wsX1_append wsX1_standsInRules := goodIn_r _ [6] (by decide +kernel) (by decide +kernel)
set_option maxRecDepth 20000 in
theorem gX1_append_X1_standsInRules : GoodIn wsX1_append (va_wsS RX1 15 yX1_standsInRules wsX1_standsInRules) := goodIn_app (goodIn_of _ (by decide +kernel)) ggX1_append_X1_standsInRules
theorem dX1_append_0 : decode cX1_append 0 = .ok (.iload_n 1, 1) := by decide +kernel
theorem dX1_append_1 : decode cX1_append 1 = .ok (.invokestatic 15, 3) := by decide +kernel
theorem dX1_append_4 : decode cX1_append 4 = .ok (.ifCond .eq 19, 3) := by decide +kernel
theorem dX1_append_7 : decode cX1_append 7 = .ok (.aload_n 0, 1) := by decide +kernel
theorem dX1_append_8 : decode cX1_append 8 = .ok (.getfield 19, 3) := by decide +kernel
theorem dX1_append_11 : decode cX1_append 11 = .ok (.ifCond .lt 12, 3) := by decide +kernel
theorem dX1_append_14 : decode cX1_append 14 = .ok (.aload_n 0, 1) := by decide +kernel
theorem dX1_append_15 : decode cX1_append 15 = .ok (.getfield 19, 3) := by decide +kernel
theorem dX1_append_18 : decode cX1_append 18 = .ok (.bipush 20, 2) := by decide +kernel
theorem dX1_append_20 : decode cX1_append 20 = .ok (.if_icmp .lt 5, 3) := by decide +kernel
theorem dX1_append_23 : decode cX1_append 23 = .ok (.iconst 0, 1) := by decide +kernel
theorem dX1_append_24 : decode cX1_append 24 = .ok (.ireturn, 1) := by decide +kernel
theorem dX1_append_25 : decode cX1_append 25 = .ok (.aload_n 0, 1) := by decide +kernel
theorem dX1_append_26 : decode cX1_append 26 = .ok (.getfield 9, 3) := by decide +kernel
theorem dX1_append_29 : decode cX1_append 29 = .ok (.aload_n 0, 1) := by decide +kernel
theorem dX1_append_30 : decode cX1_append 30 = .ok (.getfield 19, 3) := by decide +kernel
theorem dX1_append_33 : decode cX1_append 33 = .ok (.iload_n 1, 1) := by decide +kernel
theorem dX1_append_34 : decode cX1_append 34 = .ok (.castore, 1) := by decide +kernel
theorem dX1_append_35 : decode cX1_append 35 = .ok (.aload_n 0, 1) := by decide +kernel
theorem dX1_append_36 : decode cX1_append 36 = .ok (.dup, 1) := by decide +kernel
theorem dX1_append_37 : decode cX1_append 37 = .ok (.getfield 19, 3) := by decide +kernel
theorem dX1_append_40 : decode cX1_append 40 = .ok (.iconst 1, 1) := by decide +kernel
theorem dX1_append_41 : decode cX1_append 41 = .ok (.iadd, 1) := by decide +kernel
theorem dX1_append_42 : decode cX1_append 42 = .ok (.putfield 19, 3) := by decide +kernel
theorem dX1_append_45 : decode cX1_append 45 = .ok (.iconst 1, 1) := by decide +kernel
theorem dX1_append_46 : decode cX1_append 46 = .ok (.ireturn, 1) := by decide +kernel
set_option maxRecDepth 20000 in
theorem ggX1_readInto_X4_clear : GoodIn wsX1_readInto wsX4_clear := goodIn_r _ [7, 8, 9, 10, 11, 52, 53, 54, 55, 56] (by decide +kernel) (by decide +kernel)
set_option maxRecDepth 20000 in
theorem gX1_readInto_X4_clear : GoodIn wsX1_readInto (wsV RX1 26 RX4 yX4_clear wsX4_clear) := goodIn_app (goodIn_of _ (by decide +kernel)) ggX1_readInto_X4_clear
set_option maxRecDepth 20000 in
theorem ggX1_readInto_X1_readCondition : GoodIn wsX1_readInto wsX1_readCondition := goodIn_r _ [16, 1, 17, 18, 19, 15, 20, 21, 22, 23, 2, 24, 25, 26, 27, 6, 28, 8, 29, 30, 31, 32, 33, 34, 35, 36, 37, 38, 39, 40, 41, 42, 12, 13, 14, 49, 50, 51, 52, 53, 54, 55, 56] (by decide +kernel) (by decide +kernel)
set_option maxRecDepth 20000 in
theorem gX1_readInto_X1_readCondition : GoodIn wsX1_readInto (wsV RX1 31 RX1 yX1_readCondition wsX1_readCondition) := goodIn_app (goodIn_of _ (by decide +kernel)) ggX1_readInto_X1_readCondition
set_option maxRecDepth 20000 in
theorem ggX1_readInto_X1_readTarget : GoodIn wsX1_readInto wsX1_readTarget := goodIn_r _ [46, 47, 48, 31, 32, 33, 15, 34, 1, 20, 21, 22, 23, 2, 24, 39, 40, 41, 42, 52, 53, 54, 55, 56, 49, 50, 51] (by decide +kernel) (by decide +kernel)
set_option maxRecDepth 20000 in
theorem gX1_readInto_X1_readTarget : GoodIn wsX1_readInto (wsV RX1 35 RX1 yX1_readTarget wsX1_readTarget) := goodIn_app (goodIn_of _ (by decide +kernel)) ggX1_readInto_X1_readTarget
theorem dX1_readInto_0 : decode cX1_readInto 0 = .ok (.aload_n 0, 1) := by decide +kernel
theorem dX1_readInto_1 : decode cX1_readInto 1 = .ok (.iconst 0, 1) := by decide +kernel
theorem dX1_readInto_2 : decode cX1_readInto 2 = .ok (.putfield 23, 3) := by decide +kernel
theorem dX1_readInto_5 : decode cX1_readInto 5 = .ok (.aload_n 1, 1) := by decide +kernel
theorem dX1_readInto_6 : decode cX1_readInto 6 = .ok (.invokevirtual 26, 3) := by decide +kernel
theorem dX1_readInto_9 : decode cX1_readInto 9 = .ok (.aload_n 0, 1) := by decide +kernel
theorem dX1_readInto_10 : decode cX1_readInto 10 = .ok (.aload_n 1, 1) := by decide +kernel
theorem dX1_readInto_11 : decode cX1_readInto 11 = .ok (.iconst 0, 1) := by decide +kernel
theorem dX1_readInto_12 : decode cX1_readInto 12 = .ok (.invokevirtual 31, 3) := by decide +kernel
theorem dX1_readInto_15 : decode cX1_readInto 15 = .ok (.ifCond .eq 26, 3) := by decide +kernel
theorem dX1_readInto_18 : decode cX1_readInto 18 = .ok (.aload_n 0, 1) := by decide +kernel
theorem dX1_readInto_19 : decode cX1_readInto 19 = .ok (.aload_n 1, 1) := by decide +kernel
theorem dX1_readInto_20 : decode cX1_readInto 20 = .ok (.invokevirtual 35, 3) := by decide +kernel
theorem dX1_readInto_23 : decode cX1_readInto 23 = .ok (.ifCond .eq 18, 3) := by decide +kernel
theorem dX1_readInto_26 : decode cX1_readInto 26 = .ok (.aload_n 0, 1) := by decide +kernel
theorem dX1_readInto_27 : decode cX1_readInto 27 = .ok (.getfield 23, 3) := by decide +kernel
theorem dX1_readInto_30 : decode cX1_readInto 30 = .ok (.aload_n 0, 1) := by decide +kernel
theorem dX1_readInto_31 : decode cX1_readInto 31 = .ok (.getfield 19, 3) := by decide +kernel
theorem dX1_readInto_34 : decode cX1_readInto 34 = .ok (.if_icmp .ne 7, 3) := by decide +kernel
theorem dX1_readInto_37 : decode cX1_readInto 37 = .ok (.iconst 1, 1) := by decide +kernel
theorem dX1_readInto_38 : decode cX1_readInto 38 = .ok (.goto 4, 3) := by decide +kernel
theorem dX1_readInto_41 : decode cX1_readInto 41 = .ok (.iconst 0, 1) := by decide +kernel
theorem dX1_readInto_42 : decode cX1_readInto 42 = .ok (.istore_n 2, 1) := by decide +kernel
theorem dX1_readInto_43 : decode cX1_readInto 43 = .ok (.iload_n 2, 1) := by decide +kernel
theorem dX1_readInto_44 : decode cX1_readInto 44 = .ok (.ifCond .eq 7, 3) := by decide +kernel
theorem dX1_readInto_47 : decode cX1_readInto 47 = .ok (.iconst (-1), 1) := by decide +kernel
theorem dX1_readInto_48 : decode cX1_readInto 48 = .ok (.goto 7, 3) := by decide +kernel
theorem dX1_readInto_51 : decode cX1_readInto 51 = .ok (.aload_n 0, 1) := by decide +kernel
theorem dX1_readInto_52 : decode cX1_readInto 52 = .ok (.getfield 23, 3) := by decide +kernel
theorem dX1_readInto_55 : decode cX1_readInto 55 = .ok (.ireturn, 1) := by decide +kernel
theorem dX1_standsInRules_0 : decode cX1_standsInRules 0 = .ok (.iload_n 0, 1) := by decide +kernel
theorem dX1_standsInRules_1 : decode cX1_standsInRules 1 = .ok (.bipush 48, 2) := by decide +kernel
theorem dX1_standsInRules_3 : decode cX1_standsInRules 3 = .ok (.if_icmp .lt 9, 3) := by decide +kernel
theorem dX1_standsInRules_6 : decode cX1_standsInRules 6 = .ok (.iload_n 0, 1) := by decide +kernel
theorem dX1_standsInRules_7 : decode cX1_standsInRules 7 = .ok (.bipush 57, 2) := by decide +kernel
theorem dX1_standsInRules_9 : decode cX1_standsInRules 9 = .ok (.if_icmp .le 63, 3) := by decide +kernel
theorem dX1_standsInRules_12 : decode cX1_standsInRules 12 = .ok (.iload_n 0, 1) := by decide +kernel
theorem dX1_standsInRules_13 : decode cX1_standsInRules 13 = .ok (.bipush 122, 2) := by decide +kernel
theorem dX1_standsInRules_15 : decode cX1_standsInRules 15 = .ok (.if_icmp .eq 57, 3) := by decide +kernel
theorem dX1_standsInRules_18 : decode cX1_standsInRules 18 = .ok (.iload_n 0, 1) := by decide +kernel
theorem dX1_standsInRules_19 : decode cX1_standsInRules 19 = .ok (.bipush 119, 2) := by decide +kernel
theorem dX1_standsInRules_21 : decode cX1_standsInRules 21 = .ok (.if_icmp .eq 51, 3) := by decide +kernel
theorem dX1_standsInRules_24 : decode cX1_standsInRules 24 = .ok (.iload_n 0, 1) := by decide +kernel
theorem dX1_standsInRules_25 : decode cX1_standsInRules 25 = .ok (.bipush 102, 2) := by decide +kernel
theorem dX1_standsInRules_27 : decode cX1_standsInRules 27 = .ok (.if_icmp .eq 45, 3) := by decide +kernel
theorem dX1_standsInRules_30 : decode cX1_standsInRules 30 = .ok (.iload_n 0, 1) := by decide +kernel
theorem dX1_standsInRules_31 : decode cX1_standsInRules 31 = .ok (.bipush 33, 2) := by decide +kernel
theorem dX1_standsInRules_33 : decode cX1_standsInRules 33 = .ok (.if_icmp .eq 39, 3) := by decide +kernel
theorem dX1_standsInRules_36 : decode cX1_standsInRules 36 = .ok (.iload_n 0, 1) := by decide +kernel
theorem dX1_standsInRules_37 : decode cX1_standsInRules 37 = .ok (.bipush 40, 2) := by decide +kernel
theorem dX1_standsInRules_39 : decode cX1_standsInRules 39 = .ok (.if_icmp .eq 33, 3) := by decide +kernel
theorem dX1_standsInRules_42 : decode cX1_standsInRules 42 = .ok (.iload_n 0, 1) := by decide +kernel
theorem dX1_standsInRules_43 : decode cX1_standsInRules 43 = .ok (.bipush 41, 2) := by decide +kernel
theorem dX1_standsInRules_45 : decode cX1_standsInRules 45 = .ok (.if_icmp .eq 27, 3) := by decide +kernel
theorem dX1_standsInRules_48 : decode cX1_standsInRules 48 = .ok (.iload_n 0, 1) := by decide +kernel
theorem dX1_standsInRules_49 : decode cX1_standsInRules 49 = .ok (.bipush 38, 2) := by decide +kernel
theorem dX1_standsInRules_51 : decode cX1_standsInRules 51 = .ok (.if_icmp .eq 21, 3) := by decide +kernel
theorem dX1_standsInRules_54 : decode cX1_standsInRules 54 = .ok (.iload_n 0, 1) := by decide +kernel
theorem dX1_standsInRules_55 : decode cX1_standsInRules 55 = .ok (.bipush 124, 2) := by decide +kernel
theorem dX1_standsInRules_57 : decode cX1_standsInRules 57 = .ok (.if_icmp .eq 15, 3) := by decide +kernel
theorem dX1_standsInRules_60 : decode cX1_standsInRules 60 = .ok (.iload_n 0, 1) := by decide +kernel
theorem dX1_standsInRules_61 : decode cX1_standsInRules 61 = .ok (.bipush 62, 2) := by decide +kernel
theorem dX1_standsInRules_63 : decode cX1_standsInRules 63 = .ok (.if_icmp .eq 9, 3) := by decide +kernel
theorem dX1_standsInRules_66 : decode cX1_standsInRules 66 = .ok (.iload_n 0, 1) := by decide +kernel
theorem dX1_standsInRules_67 : decode cX1_standsInRules 67 = .ok (.bipush 58, 2) := by decide +kernel
theorem dX1_standsInRules_69 : decode cX1_standsInRules 69 = .ok (.if_icmp .ne 7, 3) := by decide +kernel
theorem dX1_standsInRules_72 : decode cX1_standsInRules 72 = .ok (.iconst 1, 1) := by decide +kernel
theorem dX1_standsInRules_73 : decode cX1_standsInRules 73 = .ok (.goto 4, 3) := by decide +kernel
theorem dX1_standsInRules_76 : decode cX1_standsInRules 76 = .ok (.iconst 0, 1) := by decide +kernel
theorem dX1_standsInRules_77 : decode cX1_standsInRules 77 = .ok (.ireturn, 1) := by decide +kernel
set_option maxRecDepth 20000 in
theorem ggX1_readCondition_X1_readTerm : GoodIn wsX1_readCondition wsX1_readTerm := goodIn_r _ [19, 20, 21, 22, 5, 23, 1, 6, 7, 8, 9, 10, 11, 24, 25, 26, 27, 28, 29, 30, 31, 12, 13, 14, 15, 16, 17, 18, 32, 33, 34, 2, 3, 4, 0, 35, 36, 37, 38, 39, 40, 41, 42] (by decide +kernel) (by decide +kernel)
set_option maxRecDepth 20000 in
theorem gX1_readCondition_X1_readTerm : GoodIn wsX1_readCondition (wsV RX1 39 RX1 yX1_readTerm wsX1_readTerm) := goodIn_app (goodIn_of _ (by decide +kernel)) ggX1_readCondition_X1_readTerm
set_option maxRecDepth 20000 in
theorem ggX1_readCondition_X1_sees : GoodIn wsX1_readCondition wsX1_sees := goodIn_r _ [9, 1, 10, 11, 35, 36, 37] (by decide +kernel) (by decide +kernel)
set_option maxRecDepth 20000 in
theorem gX1_readCondition_X1_sees : GoodIn wsX1_readCondition (wsV RX1 42 RX1 yX1_sees wsX1_sees) := goodIn_app (goodIn_of _ (by decide +kernel)) ggX1_readCondition_X1_sees
set_option maxRecDepth 20000 in
theorem ggX1_readCondition_X4_addStep : GoodIn wsX1_readCondition wsX4_addStep := goodIn_r _ [16, 17, 18, 38, 39, 40, 41, 42] (by decide +kernel) (by decide +kernel)
set_option maxRecDepth 20000 in
theorem gX1_readCondition_X4_addStep : GoodIn wsX1_readCondition (wsV RX1 45 RX4 yX4_addStep wsX4_addStep) := goodIn_app (goodIn_of _ (by decide +kernel)) ggX1_readCondition_X4_addStep
theorem dX1_readCondition_0 : decode cX1_readCondition 0 = .ok (.aload_n 0, 1) := by decide +kernel
theorem dX1_readCondition_1 : decode cX1_readCondition 1 = .ok (.aload_n 1, 1) := by decide +kernel
theorem dX1_readCondition_2 : decode cX1_readCondition 2 = .ok (.iload_n 2, 1) := by decide +kernel
theorem dX1_readCondition_3 : decode cX1_readCondition 3 = .ok (.invokevirtual 39, 3) := by decide +kernel
theorem dX1_readCondition_6 : decode cX1_readCondition 6 = .ok (.ifCond .ne 5, 3) := by decide +kernel
theorem dX1_readCondition_9 : decode cX1_readCondition 9 = .ok (.iconst 0, 1) := by decide +kernel
theorem dX1_readCondition_10 : decode cX1_readCondition 10 = .ok (.ireturn, 1) := by decide +kernel
theorem dX1_readCondition_11 : decode cX1_readCondition 11 = .ok (.iconst 0, 1) := by decide +kernel
theorem dX1_readCondition_12 : decode cX1_readCondition 12 = .ok (.istore_n 3, 1) := by decide +kernel
theorem dX1_readCondition_13 : decode cX1_readCondition 13 = .ok (.iload_n 3, 1) := by decide +kernel
theorem dX1_readCondition_14 : decode cX1_readCondition 14 = .ok (.bipush 20, 2) := by decide +kernel
theorem dX1_readCondition_16 : decode cX1_readCondition 16 = .ok (.if_icmp .ge 75, 3) := by decide +kernel
theorem dX1_readCondition_19 : decode cX1_readCondition 19 = .ok (.aload_n 0, 1) := by decide +kernel
theorem dX1_readCondition_20 : decode cX1_readCondition 20 = .ok (.bipush 38, 2) := by decide +kernel
theorem dX1_readCondition_22 : decode cX1_readCondition 22 = .ok (.invokevirtual 42, 3) := by decide +kernel
theorem dX1_readCondition_25 : decode cX1_readCondition 25 = .ok (.ifCond .eq 8, 3) := by decide +kernel
theorem dX1_readCondition_28 : decode cX1_readCondition 28 = .ok (.bipush 10, 2) := by decide +kernel
theorem dX1_readCondition_30 : decode cX1_readCondition 30 = .ok (.goto 18, 3) := by decide +kernel
theorem dX1_readCondition_33 : decode cX1_readCondition 33 = .ok (.aload_n 0, 1) := by decide +kernel
theorem dX1_readCondition_34 : decode cX1_readCondition 34 = .ok (.bipush 124, 2) := by decide +kernel
theorem dX1_readCondition_36 : decode cX1_readCondition 36 = .ok (.invokevirtual 42, 3) := by decide +kernel
theorem dX1_readCondition_39 : decode cX1_readCondition 39 = .ok (.ifCond .eq 8, 3) := by decide +kernel
theorem dX1_readCondition_42 : decode cX1_readCondition 42 = .ok (.bipush 11, 2) := by decide +kernel
theorem dX1_readCondition_44 : decode cX1_readCondition 44 = .ok (.goto 4, 3) := by decide +kernel
theorem dX1_readCondition_47 : decode cX1_readCondition 47 = .ok (.iconst (-1), 1) := by decide +kernel
theorem dX1_readCondition_48 : decode cX1_readCondition 48 = .ok (.istore 4, 2) := by decide +kernel
theorem dX1_readCondition_50 : decode cX1_readCondition 50 = .ok (.iload 4, 2) := by decide +kernel
theorem dX1_readCondition_52 : decode cX1_readCondition 52 = .ok (.iconst (-1), 1) := by decide +kernel
theorem dX1_readCondition_53 : decode cX1_readCondition 53 = .ok (.if_icmp .ne 5, 3) := by decide +kernel
theorem dX1_readCondition_56 : decode cX1_readCondition 56 = .ok (.iconst 1, 1) := by decide +kernel
theorem dX1_readCondition_57 : decode cX1_readCondition 57 = .ok (.ireturn, 1) := by decide +kernel
theorem dX1_readCondition_58 : decode cX1_readCondition 58 = .ok (.aload_n 0, 1) := by decide +kernel
theorem dX1_readCondition_59 : decode cX1_readCondition 59 = .ok (.dup, 1) := by decide +kernel
theorem dX1_readCondition_60 : decode cX1_readCondition 60 = .ok (.getfield 23, 3) := by decide +kernel
theorem dX1_readCondition_63 : decode cX1_readCondition 63 = .ok (.iconst 1, 1) := by decide +kernel
theorem dX1_readCondition_64 : decode cX1_readCondition 64 = .ok (.iadd, 1) := by decide +kernel
theorem dX1_readCondition_65 : decode cX1_readCondition 65 = .ok (.putfield 23, 3) := by decide +kernel
theorem dX1_readCondition_68 : decode cX1_readCondition 68 = .ok (.aload_n 0, 1) := by decide +kernel
theorem dX1_readCondition_69 : decode cX1_readCondition 69 = .ok (.aload_n 1, 1) := by decide +kernel
theorem dX1_readCondition_70 : decode cX1_readCondition 70 = .ok (.iload_n 2, 1) := by decide +kernel
theorem dX1_readCondition_71 : decode cX1_readCondition 71 = .ok (.invokevirtual 39, 3) := by decide +kernel
theorem dX1_readCondition_74 : decode cX1_readCondition 74 = .ok (.ifCond .ne 5, 3) := by decide +kernel
theorem dX1_readCondition_77 : decode cX1_readCondition 77 = .ok (.iconst 0, 1) := by decide +kernel
theorem dX1_readCondition_78 : decode cX1_readCondition 78 = .ok (.ireturn, 1) := by decide +kernel
theorem dX1_readCondition_79 : decode cX1_readCondition 79 = .ok (.aload_n 1, 1) := by decide +kernel
theorem dX1_readCondition_80 : decode cX1_readCondition 80 = .ok (.iload 4, 2) := by decide +kernel
theorem dX1_readCondition_82 : decode cX1_readCondition 82 = .ok (.invokevirtual 45, 3) := by decide +kernel
theorem dX1_readCondition_85 : decode cX1_readCondition 85 = .ok (.iinc 3 1, 3) := by decide +kernel
theorem dX1_readCondition_88 : decode cX1_readCondition 88 = .ok (.goto (-75), 3) := by decide +kernel
theorem dX1_readCondition_91 : decode cX1_readCondition 91 = .ok (.iconst 1, 1) := by decide +kernel
theorem dX1_readCondition_92 : decode cX1_readCondition 92 = .ok (.ireturn, 1) := by decide +kernel
set_option maxRecDepth 20000 in
theorem ggX1_readTerm_X1_passes : GoodIn wsX1_readTerm wsX1_passes := goodIn_r _ [5, 6, 7, 8, 9, 4, 10, 11, 12, 35, 36, 37] (by decide +kernel) (by decide +kernel)
set_option maxRecDepth 20000 in
theorem gX1_readTerm_X1_passes : GoodIn wsX1_readTerm (wsV RX1 49 RX1 yX1_passes wsX1_passes) := goodIn_app (goodIn_of _ (by decide +kernel)) ggX1_readTerm_X1_passes
set_option maxRecDepth 20000 in
theorem ggX1_readTerm_X1_readZone : GoodIn wsX1_readTerm wsX1_readZone := goodIn_r _ [16, 17, 18, 19, 4, 20, 6, 11, 12, 21, 22, 23, 24, 25, 26, 27, 35, 36, 37, 38, 39, 40, 41, 42] (by decide +kernel) (by decide +kernel)
set_option maxRecDepth 20000 in
theorem gX1_readTerm_X1_readZone : GoodIn wsX1_readTerm (wsV RX1 52 RX1 yX1_readZone wsX1_readZone) := goodIn_app (goodIn_of _ (by decide +kernel)) ggX1_readTerm_X1_readZone
set_option maxRecDepth 20000 in
theorem ggX1_readTerm_X4_addStep : GoodIn wsX1_readTerm wsX4_addStep := goodIn_r _ [25, 26, 27, 38, 39, 40, 41, 42] (by decide +kernel) (by decide +kernel)
set_option maxRecDepth 20000 in
theorem gX1_readTerm_X4_addStep : GoodIn wsX1_readTerm (wsV RX1 45 RX4 yX4_addStep wsX4_addStep) := goodIn_app (goodIn_of _ (by decide +kernel)) ggX1_readTerm_X4_addStep
set_option maxRecDepth 20000 in
theorem ggX1_readTerm_X1_readCondition : GoodIn wsX1_readTerm wsX1_readCondition := goodIn_r _ [34, 6, 31, 32, 33, 4, 7, 8, 9, 10, 11, 12, 21, 22, 23, 24, 25, 26, 27, 0, 1, 2, 3, 5, 13, 14, 15, 16, 17, 18, 19, 20, 28, 29, 30, 35, 36, 37, 38, 39, 40, 41, 42] (by decide +kernel) (by decide +kernel)
set_option maxRecDepth 20000 in
theorem gX1_readTerm_X1_readCondition : GoodIn wsX1_readTerm (wsV RX1 31 RX1 yX1_readCondition wsX1_readCondition) := goodIn_app (goodIn_of _ (by decide +kernel)) ggX1_readTerm_X1_readCondition
set_option maxRecDepth 20000 in
theorem ggX1_readTerm_X1_readTerm : GoodIn wsX1_readTerm wsX1_readTerm := goodIn_r _ [0, 1, 2, 3, 4, 5, 6, 7, 8, 9, 10, 11, 12, 13, 14, 15, 16, 17, 18, 19, 20, 21, 22, 23, 24, 25, 26, 27, 28, 29, 30, 31, 32, 33, 34, 35, 36, 37, 38, 39, 40, 41, 42] (by decide +kernel) (by decide +kernel)
set_option maxRecDepth 20000 in
theorem gX1_readTerm_X1_readTerm : GoodIn wsX1_readTerm (wsV RX1 39 RX1 yX1_readTerm wsX1_readTerm) := goodIn_app (goodIn_of _ (by decide +kernel)) ggX1_readTerm_X1_readTerm
theorem dX1_readTerm_0 : decode cX1_readTerm 0 = .ok (.aload_n 0, 1) := by decide +kernel
theorem dX1_readTerm_1 : decode cX1_readTerm 1 = .ok (.bipush 122, 2) := by decide +kernel
theorem dX1_readTerm_3 : decode cX1_readTerm 3 = .ok (.invokevirtual 49, 3) := by decide +kernel
theorem dX1_readTerm_6 : decode cX1_readTerm 6 = .ok (.ifCond .eq 10, 3) := by decide +kernel
theorem dX1_readTerm_9 : decode cX1_readTerm 9 = .ok (.aload_n 0, 1) := by decide +kernel
theorem dX1_readTerm_10 : decode cX1_readTerm 10 = .ok (.aload_n 1, 1) := by decide +kernel
theorem dX1_readTerm_11 : decode cX1_readTerm 11 = .ok (.iconst 0, 1) := by decide +kernel
theorem dX1_readTerm_12 : decode cX1_readTerm 12 = .ok (.invokevirtual 52, 3) := by decide +kernel
theorem dX1_readTerm_15 : decode cX1_readTerm 15 = .ok (.ireturn, 1) := by decide +kernel
theorem dX1_readTerm_16 : decode cX1_readTerm 16 = .ok (.aload_n 0, 1) := by decide +kernel
theorem dX1_readTerm_17 : decode cX1_readTerm 17 = .ok (.bipush 119, 2) := by decide +kernel
theorem dX1_readTerm_19 : decode cX1_readTerm 19 = .ok (.invokevirtual 49, 3) := by decide +kernel
theorem dX1_readTerm_22 : decode cX1_readTerm 22 = .ok (.ifCond .eq 10, 3) := by decide +kernel
theorem dX1_readTerm_25 : decode cX1_readTerm 25 = .ok (.aload_n 0, 1) := by decide +kernel
theorem dX1_readTerm_26 : decode cX1_readTerm 26 = .ok (.aload_n 1, 1) := by decide +kernel
theorem dX1_readTerm_27 : decode cX1_readTerm 27 = .ok (.iconst 4, 1) := by decide +kernel
theorem dX1_readTerm_28 : decode cX1_readTerm 28 = .ok (.invokevirtual 52, 3) := by decide +kernel
theorem dX1_readTerm_31 : decode cX1_readTerm 31 = .ok (.ireturn, 1) := by decide +kernel
theorem dX1_readTerm_32 : decode cX1_readTerm 32 = .ok (.aload_n 0, 1) := by decide +kernel
theorem dX1_readTerm_33 : decode cX1_readTerm 33 = .ok (.bipush 102, 2) := by decide +kernel
theorem dX1_readTerm_35 : decode cX1_readTerm 35 = .ok (.invokevirtual 49, 3) := by decide +kernel
theorem dX1_readTerm_38 : decode cX1_readTerm 38 = .ok (.ifCond .eq 11, 3) := by decide +kernel
theorem dX1_readTerm_41 : decode cX1_readTerm 41 = .ok (.aload_n 1, 1) := by decide +kernel
theorem dX1_readTerm_42 : decode cX1_readTerm 42 = .ok (.bipush 8, 2) := by decide +kernel
theorem dX1_readTerm_44 : decode cX1_readTerm 44 = .ok (.invokevirtual 45, 3) := by decide +kernel
theorem dX1_readTerm_47 : decode cX1_readTerm 47 = .ok (.iconst 1, 1) := by decide +kernel
theorem dX1_readTerm_48 : decode cX1_readTerm 48 = .ok (.ireturn, 1) := by decide +kernel
theorem dX1_readTerm_49 : decode cX1_readTerm 49 = .ok (.iload_n 2, 1) := by decide +kernel
theorem dX1_readTerm_50 : decode cX1_readTerm 50 = .ok (.iconst 4, 1) := by decide +kernel
theorem dX1_readTerm_51 : decode cX1_readTerm 51 = .ok (.if_icmp .lt 5, 3) := by decide +kernel
theorem dX1_readTerm_54 : decode cX1_readTerm 54 = .ok (.iconst 0, 1) := by decide +kernel
theorem dX1_readTerm_55 : decode cX1_readTerm 55 = .ok (.ireturn, 1) := by decide +kernel
theorem dX1_readTerm_56 : decode cX1_readTerm 56 = .ok (.aload_n 0, 1) := by decide +kernel
theorem dX1_readTerm_57 : decode cX1_readTerm 57 = .ok (.bipush 40, 2) := by decide +kernel
theorem dX1_readTerm_59 : decode cX1_readTerm 59 = .ok (.invokevirtual 49, 3) := by decide +kernel
theorem dX1_readTerm_62 : decode cX1_readTerm 62 = .ok (.ifCond .eq 29, 3) := by decide +kernel
theorem dX1_readTerm_65 : decode cX1_readTerm 65 = .ok (.aload_n 0, 1) := by decide +kernel
theorem dX1_readTerm_66 : decode cX1_readTerm 66 = .ok (.aload_n 1, 1) := by decide +kernel
theorem dX1_readTerm_67 : decode cX1_readTerm 67 = .ok (.iload_n 2, 1) := by decide +kernel
theorem dX1_readTerm_68 : decode cX1_readTerm 68 = .ok (.iconst 1, 1) := by decide +kernel
theorem dX1_readTerm_69 : decode cX1_readTerm 69 = .ok (.iadd, 1) := by decide +kernel
theorem dX1_readTerm_70 : decode cX1_readTerm 70 = .ok (.invokevirtual 31, 3) := by decide +kernel
theorem dX1_readTerm_73 : decode cX1_readTerm 73 = .ok (.ifCond .eq 16, 3) := by decide +kernel
theorem dX1_readTerm_76 : decode cX1_readTerm 76 = .ok (.aload_n 0, 1) := by decide +kernel
theorem dX1_readTerm_77 : decode cX1_readTerm 77 = .ok (.bipush 41, 2) := by decide +kernel
theorem dX1_readTerm_79 : decode cX1_readTerm 79 = .ok (.invokevirtual 49, 3) := by decide +kernel
theorem dX1_readTerm_82 : decode cX1_readTerm 82 = .ok (.ifCond .eq 7, 3) := by decide +kernel
theorem dX1_readTerm_85 : decode cX1_readTerm 85 = .ok (.iconst 1, 1) := by decide +kernel
theorem dX1_readTerm_86 : decode cX1_readTerm 86 = .ok (.goto 4, 3) := by decide +kernel
theorem dX1_readTerm_89 : decode cX1_readTerm 89 = .ok (.iconst 0, 1) := by decide +kernel
theorem dX1_readTerm_90 : decode cX1_readTerm 90 = .ok (.ireturn, 1) := by decide +kernel
theorem dX1_readTerm_91 : decode cX1_readTerm 91 = .ok (.aload_n 0, 1) := by decide +kernel
theorem dX1_readTerm_92 : decode cX1_readTerm 92 = .ok (.bipush 33, 2) := by decide +kernel
theorem dX1_readTerm_94 : decode cX1_readTerm 94 = .ok (.invokevirtual 49, 3) := by decide +kernel
theorem dX1_readTerm_97 : decode cX1_readTerm 97 = .ok (.ifCond .eq 22, 3) := by decide +kernel
theorem dX1_readTerm_100 : decode cX1_readTerm 100 = .ok (.aload_n 0, 1) := by decide +kernel
theorem dX1_readTerm_101 : decode cX1_readTerm 101 = .ok (.aload_n 1, 1) := by decide +kernel
theorem dX1_readTerm_102 : decode cX1_readTerm 102 = .ok (.iload_n 2, 1) := by decide +kernel
theorem dX1_readTerm_103 : decode cX1_readTerm 103 = .ok (.iconst 1, 1) := by decide +kernel
theorem dX1_readTerm_104 : decode cX1_readTerm 104 = .ok (.iadd, 1) := by decide +kernel
theorem dX1_readTerm_105 : decode cX1_readTerm 105 = .ok (.invokevirtual 39, 3) := by decide +kernel
theorem dX1_readTerm_108 : decode cX1_readTerm 108 = .ok (.ifCond .eq 11, 3) := by decide +kernel
theorem dX1_readTerm_111 : decode cX1_readTerm 111 = .ok (.aload_n 1, 1) := by decide +kernel
theorem dX1_readTerm_112 : decode cX1_readTerm 112 = .ok (.bipush 9, 2) := by decide +kernel
theorem dX1_readTerm_114 : decode cX1_readTerm 114 = .ok (.invokevirtual 45, 3) := by decide +kernel
theorem dX1_readTerm_117 : decode cX1_readTerm 117 = .ok (.iconst 1, 1) := by decide +kernel
theorem dX1_readTerm_118 : decode cX1_readTerm 118 = .ok (.ireturn, 1) := by decide +kernel
theorem dX1_readTerm_119 : decode cX1_readTerm 119 = .ok (.iconst 0, 1) := by decide +kernel
theorem dX1_readTerm_120 : decode cX1_readTerm 120 = .ok (.ireturn, 1) := by decide +kernel
set_option maxRecDepth 20000 in
theorem ggX1_readZone_X1_readDigit : GoodIn wsX1_readZone wsX1_readDigit := goodIn_r _ [5, 6, 7, 8, 16, 17, 18] (by decide +kernel) (by decide +kernel)
set_option maxRecDepth 20000 in
theorem gX1_readZone_X1_readDigit : GoodIn wsX1_readZone (wsV RX1 55 RX1 yX1_readDigit wsX1_readDigit) := goodIn_app (goodIn_of _ (by decide +kernel)) ggX1_readZone_X1_readDigit
set_option maxRecDepth 20000 in
theorem ggX1_readZone_X4_addStep : GoodIn wsX1_readZone wsX4_addStep := goodIn_r _ [13, 14, 15, 19, 20, 21, 22, 23] (by decide +kernel) (by decide +kernel)
set_option maxRecDepth 20000 in
theorem gX1_readZone_X4_addStep : GoodIn wsX1_readZone (wsV RX1 45 RX4 yX4_addStep wsX4_addStep) := goodIn_app (goodIn_of _ (by decide +kernel)) ggX1_readZone_X4_addStep
theorem dX1_readZone_0 : decode cX1_readZone 0 = .ok (.aload_n 0, 1) := by decide +kernel
theorem dX1_readZone_1 : decode cX1_readZone 1 = .ok (.iconst 4, 1) := by decide +kernel
theorem dX1_readZone_2 : decode cX1_readZone 2 = .ok (.invokevirtual 55, 3) := by decide +kernel
theorem dX1_readZone_5 : decode cX1_readZone 5 = .ok (.istore_n 3, 1) := by decide +kernel
theorem dX1_readZone_6 : decode cX1_readZone 6 = .ok (.iload_n 3, 1) := by decide +kernel
theorem dX1_readZone_7 : decode cX1_readZone 7 = .ok (.iconst (-1), 1) := by decide +kernel
theorem dX1_readZone_8 : decode cX1_readZone 8 = .ok (.if_icmp .ne 5, 3) := by decide +kernel
theorem dX1_readZone_11 : decode cX1_readZone 11 = .ok (.iconst 0, 1) := by decide +kernel
theorem dX1_readZone_12 : decode cX1_readZone 12 = .ok (.ireturn, 1) := by decide +kernel
theorem dX1_readZone_13 : decode cX1_readZone 13 = .ok (.aload_n 1, 1) := by decide +kernel
theorem dX1_readZone_14 : decode cX1_readZone 14 = .ok (.iload_n 2, 1) := by decide +kernel
theorem dX1_readZone_15 : decode cX1_readZone 15 = .ok (.iload_n 3, 1) := by decide +kernel
theorem dX1_readZone_16 : decode cX1_readZone 16 = .ok (.iadd, 1) := by decide +kernel
theorem dX1_readZone_17 : decode cX1_readZone 17 = .ok (.invokevirtual 45, 3) := by decide +kernel
theorem dX1_readZone_20 : decode cX1_readZone 20 = .ok (.iconst 1, 1) := by decide +kernel
theorem dX1_readZone_21 : decode cX1_readZone 21 = .ok (.ireturn, 1) := by decide +kernel
set_option maxRecDepth 20000 in
theorem ggX1_readTarget_X1_passes : GoodIn wsX1_readTarget wsX1_passes := goodIn_r _ [7, 8, 9, 10, 11, 6, 12, 13, 14, 24, 25, 26] (by decide +kernel) (by decide +kernel)
set_option maxRecDepth 20000 in
theorem gX1_readTarget_X1_passes : GoodIn wsX1_readTarget (wsV RX1 49 RX1 yX1_passes wsX1_passes) := goodIn_app (goodIn_of _ (by decide +kernel)) ggX1_readTarget_X1_passes
set_option maxRecDepth 20000 in
theorem ggX1_readTarget_X1_readDigit : GoodIn wsX1_readTarget wsX1_readDigit := goodIn_r _ [18, 8, 13, 14, 24, 25, 26] (by decide +kernel) (by decide +kernel)
set_option maxRecDepth 20000 in
theorem gX1_readTarget_X1_readDigit : GoodIn wsX1_readTarget (wsV RX1 55 RX1 yX1_readDigit wsX1_readDigit) := goodIn_app (goodIn_of _ (by decide +kernel)) ggX1_readTarget_X1_readDigit
theorem dX1_readTarget_0 : decode cX1_readTarget 0 = .ok (.aload_n 0, 1) := by decide +kernel
theorem dX1_readTarget_1 : decode cX1_readTarget 1 = .ok (.bipush 62, 2) := by decide +kernel
theorem dX1_readTarget_3 : decode cX1_readTarget 3 = .ok (.invokevirtual 49, 3) := by decide +kernel
theorem dX1_readTarget_6 : decode cX1_readTarget 6 = .ok (.ifCond .ne 5, 3) := by decide +kernel
theorem dX1_readTarget_9 : decode cX1_readTarget 9 = .ok (.iconst 0, 1) := by decide +kernel
theorem dX1_readTarget_10 : decode cX1_readTarget 10 = .ok (.ireturn, 1) := by decide +kernel
theorem dX1_readTarget_11 : decode cX1_readTarget 11 = .ok (.aload_n 1, 1) := by decide +kernel
theorem dX1_readTarget_12 : decode cX1_readTarget 12 = .ok (.aload_n 0, 1) := by decide +kernel
theorem dX1_readTarget_13 : decode cX1_readTarget 13 = .ok (.bipush 6, 2) := by decide +kernel
theorem dX1_readTarget_15 : decode cX1_readTarget 15 = .ok (.invokevirtual 55, 3) := by decide +kernel
theorem dX1_readTarget_18 : decode cX1_readTarget 18 = .ok (.putfield 59, 3) := by decide +kernel
theorem dX1_readTarget_21 : decode cX1_readTarget 21 = .ok (.aload_n 1, 1) := by decide +kernel
theorem dX1_readTarget_22 : decode cX1_readTarget 22 = .ok (.getfield 59, 3) := by decide +kernel
theorem dX1_readTarget_25 : decode cX1_readTarget 25 = .ok (.iconst (-1), 1) := by decide +kernel
theorem dX1_readTarget_26 : decode cX1_readTarget 26 = .ok (.if_icmp .ne 5, 3) := by decide +kernel
theorem dX1_readTarget_29 : decode cX1_readTarget 29 = .ok (.iconst 0, 1) := by decide +kernel
theorem dX1_readTarget_30 : decode cX1_readTarget 30 = .ok (.ireturn, 1) := by decide +kernel
theorem dX1_readTarget_31 : decode cX1_readTarget 31 = .ok (.aload_n 0, 1) := by decide +kernel
theorem dX1_readTarget_32 : decode cX1_readTarget 32 = .ok (.bipush 58, 2) := by decide +kernel
theorem dX1_readTarget_34 : decode cX1_readTarget 34 = .ok (.invokevirtual 49, 3) := by decide +kernel
theorem dX1_readTarget_37 : decode cX1_readTarget 37 = .ok (.ifCond .eq 13, 3) := by decide +kernel
theorem dX1_readTarget_40 : decode cX1_readTarget 40 = .ok (.aload_n 1, 1) := by decide +kernel
theorem dX1_readTarget_41 : decode cX1_readTarget 41 = .ok (.aload_n 0, 1) := by decide +kernel
theorem dX1_readTarget_42 : decode cX1_readTarget 42 = .ok (.bipush 10, 2) := by decide +kernel
theorem dX1_readTarget_44 : decode cX1_readTarget 44 = .ok (.invokevirtual 55, 3) := by decide +kernel
theorem dX1_readTarget_47 : decode cX1_readTarget 47 = .ok (.putfield 62, 3) := by decide +kernel
theorem dX1_readTarget_50 : decode cX1_readTarget 50 = .ok (.aload_n 1, 1) := by decide +kernel
theorem dX1_readTarget_51 : decode cX1_readTarget 51 = .ok (.getfield 62, 3) := by decide +kernel
theorem dX1_readTarget_54 : decode cX1_readTarget 54 = .ok (.iconst (-1), 1) := by decide +kernel
theorem dX1_readTarget_55 : decode cX1_readTarget 55 = .ok (.if_icmp .eq 7, 3) := by decide +kernel
theorem dX1_readTarget_58 : decode cX1_readTarget 58 = .ok (.iconst 1, 1) := by decide +kernel
theorem dX1_readTarget_59 : decode cX1_readTarget 59 = .ok (.goto 4, 3) := by decide +kernel
theorem dX1_readTarget_62 : decode cX1_readTarget 62 = .ok (.iconst 0, 1) := by decide +kernel
theorem dX1_readTarget_63 : decode cX1_readTarget 63 = .ok (.ireturn, 1) := by decide +kernel
theorem dX1_readDigit_0 : decode cX1_readDigit 0 = .ok (.aload_n 0, 1) := by decide +kernel
theorem dX1_readDigit_1 : decode cX1_readDigit 1 = .ok (.getfield 23, 3) := by decide +kernel
theorem dX1_readDigit_4 : decode cX1_readDigit 4 = .ok (.ifCond .lt 23, 3) := by decide +kernel
theorem dX1_readDigit_7 : decode cX1_readDigit 7 = .ok (.aload_n 0, 1) := by decide +kernel
theorem dX1_readDigit_8 : decode cX1_readDigit 8 = .ok (.getfield 23, 3) := by decide +kernel
theorem dX1_readDigit_11 : decode cX1_readDigit 11 = .ok (.aload_n 0, 1) := by decide +kernel
theorem dX1_readDigit_12 : decode cX1_readDigit 12 = .ok (.getfield 19, 3) := by decide +kernel
theorem dX1_readDigit_15 : decode cX1_readDigit 15 = .ok (.if_icmp .ge 12, 3) := by decide +kernel
theorem dX1_readDigit_18 : decode cX1_readDigit 18 = .ok (.aload_n 0, 1) := by decide +kernel
theorem dX1_readDigit_19 : decode cX1_readDigit 19 = .ok (.getfield 23, 3) := by decide +kernel
theorem dX1_readDigit_22 : decode cX1_readDigit 22 = .ok (.bipush 20, 2) := by decide +kernel
theorem dX1_readDigit_24 : decode cX1_readDigit 24 = .ok (.if_icmp .lt 5, 3) := by decide +kernel
theorem dX1_readDigit_27 : decode cX1_readDigit 27 = .ok (.iconst (-1), 1) := by decide +kernel
theorem dX1_readDigit_28 : decode cX1_readDigit 28 = .ok (.ireturn, 1) := by decide +kernel
theorem dX1_readDigit_29 : decode cX1_readDigit 29 = .ok (.aload_n 0, 1) := by decide +kernel
theorem dX1_readDigit_30 : decode cX1_readDigit 30 = .ok (.getfield 9, 3) := by decide +kernel
theorem dX1_readDigit_33 : decode cX1_readDigit 33 = .ok (.aload_n 0, 1) := by decide +kernel
theorem dX1_readDigit_34 : decode cX1_readDigit 34 = .ok (.getfield 23, 3) := by decide +kernel
theorem dX1_readDigit_37 : decode cX1_readDigit 37 = .ok (.caload, 1) := by decide +kernel
theorem dX1_readDigit_38 : decode cX1_readDigit 38 = .ok (.bipush 48, 2) := by decide +kernel
theorem dX1_readDigit_40 : decode cX1_readDigit 40 = .ok (.isub, 1) := by decide +kernel
theorem dX1_readDigit_41 : decode cX1_readDigit 41 = .ok (.istore_n 2, 1) := by decide +kernel
theorem dX1_readDigit_42 : decode cX1_readDigit 42 = .ok (.iload_n 2, 1) := by decide +kernel
theorem dX1_readDigit_43 : decode cX1_readDigit 43 = .ok (.ifCond .lt 8, 3) := by decide +kernel
theorem dX1_readDigit_46 : decode cX1_readDigit 46 = .ok (.iload_n 2, 1) := by decide +kernel
theorem dX1_readDigit_47 : decode cX1_readDigit 47 = .ok (.iload_n 1, 1) := by decide +kernel
theorem dX1_readDigit_48 : decode cX1_readDigit 48 = .ok (.if_icmp .lt 5, 3) := by decide +kernel
theorem dX1_readDigit_51 : decode cX1_readDigit 51 = .ok (.iconst (-1), 1) := by decide +kernel
theorem dX1_readDigit_52 : decode cX1_readDigit 52 = .ok (.ireturn, 1) := by decide +kernel
theorem dX1_readDigit_53 : decode cX1_readDigit 53 = .ok (.aload_n 0, 1) := by decide +kernel
theorem dX1_readDigit_54 : decode cX1_readDigit 54 = .ok (.dup, 1) := by decide +kernel
theorem dX1_readDigit_55 : decode cX1_readDigit 55 = .ok (.getfield 23, 3) := by decide +kernel
theorem dX1_readDigit_58 : decode cX1_readDigit 58 = .ok (.iconst 1, 1) := by decide +kernel
theorem dX1_readDigit_59 : decode cX1_readDigit 59 = .ok (.iadd, 1) := by decide +kernel
theorem dX1_readDigit_60 : decode cX1_readDigit 60 = .ok (.putfield 23, 3) := by decide +kernel
theorem dX1_readDigit_63 : decode cX1_readDigit 63 = .ok (.iload_n 2, 1) := by decide +kernel
theorem dX1_readDigit_64 : decode cX1_readDigit 64 = .ok (.ireturn, 1) := by decide +kernel
set_option maxRecDepth 20000 in
theorem ggX1_passes_X1_sees : GoodIn wsX1_passes wsX1_sees := goodIn_r _ [6, 1, 7, 8, 9, 10, 11] (by decide +kernel) (by decide +kernel)
set_option maxRecDepth 20000 in
theorem gX1_passes_X1_sees : GoodIn wsX1_passes (wsV RX1 42 RX1 yX1_sees wsX1_sees) := goodIn_app (goodIn_of _ (by decide +kernel)) ggX1_passes_X1_sees
theorem dX1_passes_0 : decode cX1_passes 0 = .ok (.aload_n 0, 1) := by decide +kernel
theorem dX1_passes_1 : decode cX1_passes 1 = .ok (.iload_n 1, 1) := by decide +kernel
theorem dX1_passes_2 : decode cX1_passes 2 = .ok (.invokevirtual 42, 3) := by decide +kernel
theorem dX1_passes_5 : decode cX1_passes 5 = .ok (.ifCond .ne 5, 3) := by decide +kernel
theorem dX1_passes_8 : decode cX1_passes 8 = .ok (.iconst 0, 1) := by decide +kernel
theorem dX1_passes_9 : decode cX1_passes 9 = .ok (.ireturn, 1) := by decide +kernel
theorem dX1_passes_10 : decode cX1_passes 10 = .ok (.aload_n 0, 1) := by decide +kernel
theorem dX1_passes_11 : decode cX1_passes 11 = .ok (.dup, 1) := by decide +kernel
theorem dX1_passes_12 : decode cX1_passes 12 = .ok (.getfield 23, 3) := by decide +kernel
theorem dX1_passes_15 : decode cX1_passes 15 = .ok (.iconst 1, 1) := by decide +kernel
theorem dX1_passes_16 : decode cX1_passes 16 = .ok (.iadd, 1) := by decide +kernel
theorem dX1_passes_17 : decode cX1_passes 17 = .ok (.putfield 23, 3) := by decide +kernel
theorem dX1_passes_20 : decode cX1_passes 20 = .ok (.iconst 1, 1) := by decide +kernel
theorem dX1_passes_21 : decode cX1_passes 21 = .ok (.ireturn, 1) := by decide +kernel
theorem dX1_sees_0 : decode cX1_sees 0 = .ok (.aload_n 0, 1) := by decide +kernel
theorem dX1_sees_1 : decode cX1_sees 1 = .ok (.getfield 23, 3) := by decide +kernel
theorem dX1_sees_4 : decode cX1_sees 4 = .ok (.ifCond .lt 40, 3) := by decide +kernel
theorem dX1_sees_7 : decode cX1_sees 7 = .ok (.aload_n 0, 1) := by decide +kernel
theorem dX1_sees_8 : decode cX1_sees 8 = .ok (.getfield 23, 3) := by decide +kernel
theorem dX1_sees_11 : decode cX1_sees 11 = .ok (.aload_n 0, 1) := by decide +kernel
theorem dX1_sees_12 : decode cX1_sees 12 = .ok (.getfield 19, 3) := by decide +kernel
theorem dX1_sees_15 : decode cX1_sees 15 = .ok (.if_icmp .ge 29, 3) := by decide +kernel
theorem dX1_sees_18 : decode cX1_sees 18 = .ok (.aload_n 0, 1) := by decide +kernel
theorem dX1_sees_19 : decode cX1_sees 19 = .ok (.getfield 23, 3) := by decide +kernel
theorem dX1_sees_22 : decode cX1_sees 22 = .ok (.bipush 20, 2) := by decide +kernel
theorem dX1_sees_24 : decode cX1_sees 24 = .ok (.if_icmp .ge 20, 3) := by decide +kernel
theorem dX1_sees_27 : decode cX1_sees 27 = .ok (.aload_n 0, 1) := by decide +kernel
theorem dX1_sees_28 : decode cX1_sees 28 = .ok (.getfield 9, 3) := by decide +kernel
theorem dX1_sees_31 : decode cX1_sees 31 = .ok (.aload_n 0, 1) := by decide +kernel
theorem dX1_sees_32 : decode cX1_sees 32 = .ok (.getfield 23, 3) := by decide +kernel
theorem dX1_sees_35 : decode cX1_sees 35 = .ok (.caload, 1) := by decide +kernel
theorem dX1_sees_36 : decode cX1_sees 36 = .ok (.iload_n 1, 1) := by decide +kernel
theorem dX1_sees_37 : decode cX1_sees 37 = .ok (.if_icmp .ne 7, 3) := by decide +kernel
theorem dX1_sees_40 : decode cX1_sees 40 = .ok (.iconst 1, 1) := by decide +kernel
theorem dX1_sees_41 : decode cX1_sees 41 = .ok (.goto 4, 3) := by decide +kernel
theorem dX1_sees_44 : decode cX1_sees 44 = .ok (.iconst 0, 1) := by decide +kernel
theorem dX1_sees_45 : decode cX1_sees 45 = .ok (.ireturn, 1) := by decide +kernel
theorem dX2_init_0 : decode cX2_init 0 = .ok (.aload_n 0, 1) := by decide +kernel
theorem dX2_init_1 : decode cX2_init 1 = .ok (.invokespecial 3, 3) := by decide +kernel
theorem dX2_init_4 : decode cX2_init 4 = .ok (.return_, 1) := by decide +kernel
theorem dX2_begin_0 : decode cX2_begin 0 = .ok (.aload_n 0, 1) := by decide +kernel
theorem dX2_begin_1 : decode cX2_begin 1 = .ok (.iload_n 1, 1) := by decide +kernel
theorem dX2_begin_2 : decode cX2_begin 2 = .ok (.putfield 9, 3) := by decide +kernel
theorem dX2_begin_5 : decode cX2_begin 5 = .ok (.aload_n 0, 1) := by decide +kernel
theorem dX2_begin_6 : decode cX2_begin 6 = .ok (.iload_n 2, 1) := by decide +kernel
theorem dX2_begin_7 : decode cX2_begin 7 = .ok (.putfield 15, 3) := by decide +kernel
theorem dX2_begin_10 : decode cX2_begin 10 = .ok (.aload_n 0, 1) := by decide +kernel
theorem dX2_begin_11 : decode cX2_begin 11 = .ok (.fload_n 3, 1) := by decide +kernel
theorem dX2_begin_12 : decode cX2_begin 12 = .ok (.putfield 18, 3) := by decide +kernel
theorem dX2_begin_15 : decode cX2_begin 15 = .ok (.aload_n 0, 1) := by decide +kernel
theorem dX2_begin_16 : decode cX2_begin 16 = .ok (.fconst 0, 1) := by decide +kernel
theorem dX2_begin_17 : decode cX2_begin 17 = .ok (.putfield 22, 3) := by decide +kernel
theorem dX2_begin_20 : decode cX2_begin 20 = .ok (.aload_n 0, 1) := by decide +kernel
theorem dX2_begin_21 : decode cX2_begin 21 = .ok (.fconst 0, 1) := by decide +kernel
theorem dX2_begin_22 : decode cX2_begin 22 = .ok (.putfield 25, 3) := by decide +kernel
theorem dX2_begin_25 : decode cX2_begin 25 = .ok (.aload_n 0, 1) := by decide +kernel
theorem dX2_begin_26 : decode cX2_begin 26 = .ok (.iconst 0, 1) := by decide +kernel
theorem dX2_begin_27 : decode cX2_begin 27 = .ok (.putfield 28, 3) := by decide +kernel
theorem dX2_begin_30 : decode cX2_begin 30 = .ok (.aload_n 0, 1) := by decide +kernel
theorem dX2_begin_31 : decode cX2_begin 31 = .ok (.iconst 0, 1) := by decide +kernel
theorem dX2_begin_32 : decode cX2_begin 32 = .ok (.putfield 31, 3) := by decide +kernel
theorem dX2_begin_35 : decode cX2_begin 35 = .ok (.aload_n 0, 1) := by decide +kernel
theorem dX2_begin_36 : decode cX2_begin 36 = .ok (.iconst 0, 1) := by decide +kernel
theorem dX2_begin_37 : decode cX2_begin 37 = .ok (.putfield 35, 3) := by decide +kernel
theorem dX2_begin_40 : decode cX2_begin 40 = .ok (.aload_n 0, 1) := by decide +kernel
theorem dX2_begin_41 : decode cX2_begin 41 = .ok (.iconst 0, 1) := by decide +kernel
theorem dX2_begin_42 : decode cX2_begin 42 = .ok (.putfield 38, 3) := by decide +kernel
theorem dX2_begin_45 : decode cX2_begin 45 = .ok (.return_, 1) := by decide +kernel
theorem dX2_isSensor_0 : decode cX2_isSensor 0 = .ok (.aload_n 0, 1) := by decide +kernel
theorem dX2_isSensor_1 : decode cX2_isSensor 1 = .ok (.getfield 9, 3) := by decide +kernel
theorem dX2_isSensor_4 : decode cX2_isSensor 4 = .ok (.iconst 1, 1) := by decide +kernel
theorem dX2_isSensor_5 : decode cX2_isSensor 5 = .ok (.if_icmp .lt 15, 3) := by decide +kernel
theorem dX2_isSensor_8 : decode cX2_isSensor 8 = .ok (.aload_n 0, 1) := by decide +kernel
theorem dX2_isSensor_9 : decode cX2_isSensor 9 = .ok (.getfield 9, 3) := by decide +kernel
theorem dX2_isSensor_12 : decode cX2_isSensor 12 = .ok (.iconst 3, 1) := by decide +kernel
theorem dX2_isSensor_13 : decode cX2_isSensor 13 = .ok (.if_icmp .gt 7, 3) := by decide +kernel
theorem dX2_isSensor_16 : decode cX2_isSensor 16 = .ok (.iconst 1, 1) := by decide +kernel
theorem dX2_isSensor_17 : decode cX2_isSensor 17 = .ok (.goto 4, 3) := by decide +kernel
theorem dX2_isSensor_20 : decode cX2_isSensor 20 = .ok (.iconst 0, 1) := by decide +kernel
theorem dX2_isSensor_21 : decode cX2_isSensor 21 = .ok (.ireturn, 1) := by decide +kernel
set_option maxRecDepth 20000 in
theorem ggX2_watches_X2_isSensor : GoodIn wsX2_watches wsX2_isSensor := goodIn_r _ [7, 8, 9, 10, 11, 12, 13, 14, 15, 16, 17, 18, 19] (by decide +kernel) (by decide +kernel)
set_option maxRecDepth 20000 in
theorem gX2_watches_X2_isSensor : GoodIn wsX2_watches (wsV RX2 41 RX2 yX2_isSensor wsX2_isSensor) := goodIn_app (goodIn_of _ (by decide +kernel)) ggX2_watches_X2_isSensor
theorem dX2_watches_0 : decode cX2_watches 0 = .ok (.aload_n 0, 1) := by decide +kernel
theorem dX2_watches_1 : decode cX2_watches 1 = .ok (.invokevirtual 41, 3) := by decide +kernel
theorem dX2_watches_4 : decode cX2_watches 4 = .ok (.ifCond .eq 22, 3) := by decide +kernel
theorem dX2_watches_7 : decode cX2_watches 7 = .ok (.aload_n 0, 1) := by decide +kernel
theorem dX2_watches_8 : decode cX2_watches 8 = .ok (.getfield 15, 3) := by decide +kernel
theorem dX2_watches_11 : decode cX2_watches 11 = .ok (.iload_n 1, 1) := by decide +kernel
theorem dX2_watches_12 : decode cX2_watches 12 = .ok (.if_icmp .ne 14, 3) := by decide +kernel
theorem dX2_watches_15 : decode cX2_watches 15 = .ok (.aload_n 0, 1) := by decide +kernel
theorem dX2_watches_16 : decode cX2_watches 16 = .ok (.getfield 45, 3) := by decide +kernel
theorem dX2_watches_19 : decode cX2_watches 19 = .ok (.ifCond .ne 7, 3) := by decide +kernel
theorem dX2_watches_22 : decode cX2_watches 22 = .ok (.iconst 1, 1) := by decide +kernel
theorem dX2_watches_23 : decode cX2_watches 23 = .ok (.goto 4, 3) := by decide +kernel
theorem dX2_watches_26 : decode cX2_watches 26 = .ok (.iconst 0, 1) := by decide +kernel
theorem dX2_watches_27 : decode cX2_watches 27 = .ok (.ireturn, 1) := by decide +kernel
theorem dX2_warns_0 : decode cX2_warns 0 = .ok (.aload_n 0, 1) := by decide +kernel
theorem dX2_warns_1 : decode cX2_warns 1 = .ok (.getfield 31, 3) := by decide +kernel
theorem dX2_warns_4 : decode cX2_warns 4 = .ok (.ifCond .ne 26, 3) := by decide +kernel
theorem dX2_warns_7 : decode cX2_warns 7 = .ok (.aload_n 0, 1) := by decide +kernel
theorem dX2_warns_8 : decode cX2_warns 8 = .ok (.getfield 9, 3) := by decide +kernel
theorem dX2_warns_11 : decode cX2_warns 11 = .ok (.iconst 1, 1) := by decide +kernel
theorem dX2_warns_12 : decode cX2_warns 12 = .ok (.if_icmp .ne 22, 3) := by decide +kernel
theorem dX2_warns_15 : decode cX2_warns 15 = .ok (.aload_n 0, 1) := by decide +kernel
theorem dX2_warns_16 : decode cX2_warns 16 = .ok (.getfield 25, 3) := by decide +kernel
theorem dX2_warns_19 : decode cX2_warns 19 = .ok (.aload_n 0, 1) := by decide +kernel
theorem dX2_warns_20 : decode cX2_warns 20 = .ok (.getfield 18, 3) := by decide +kernel
theorem dX2_warns_23 : decode cX2_warns 23 = .ok (.ldc 48, 2) := by decide +kernel
theorem dX2_warns_25 : decode cX2_warns 25 = .ok (.fmul, 1) := by decide +kernel
theorem dX2_warns_26 : decode cX2_warns 26 = .ok (.fcmp .l, 1) := by decide +kernel
theorem dX2_warns_27 : decode cX2_warns 27 = .ok (.ifCond .lt 7, 3) := by decide +kernel
theorem dX2_warns_30 : decode cX2_warns 30 = .ok (.iconst 1, 1) := by decide +kernel
theorem dX2_warns_31 : decode cX2_warns 31 = .ok (.goto 4, 3) := by decide +kernel
theorem dX2_warns_34 : decode cX2_warns 34 = .ok (.iconst 0, 1) := by decide +kernel
theorem dX2_warns_35 : decode cX2_warns 35 = .ok (.ireturn, 1) := by decide +kernel
set_option maxRecDepth 20000 in
theorem ggX2_sense_X2_senseSmoke : GoodIn wsX2_sense wsX2_senseSmoke := goodIn_r _ [8, 9, 10, 11, 12, 2, 13, 14, 15, 16, 7, 17, 18, 29, 30, 31, 32, 33, 34, 35, 36, 37, 38, 39] (by decide +kernel) (by decide +kernel)
set_option maxRecDepth 20000 in
theorem gX2_sense_X2_senseSmoke : GoodIn wsX2_sense (wsV RX2 49 RX2 yX2_senseSmoke wsX2_senseSmoke) := goodIn_app (goodIn_of _ (by decide +kernel)) ggX2_sense_X2_senseSmoke
set_option maxRecDepth 20000 in
theorem ggX2_sense_X2_senseHeat : GoodIn wsX2_sense wsX2_senseHeat := goodIn_r _ [22, 9, 10, 23, 24, 11, 14, 15, 16, 7, 17, 18, 2, 29, 30, 31, 32, 33, 34, 35, 36, 37, 38, 39] (by decide +kernel) (by decide +kernel)
set_option maxRecDepth 20000 in
theorem gX2_sense_X2_senseHeat : GoodIn wsX2_sense (wsV RX2 52 RX2 yX2_senseHeat wsX2_senseHeat) := goodIn_app (goodIn_of _ (by decide +kernel)) ggX2_sense_X2_senseHeat
set_option maxRecDepth 20000 in
theorem ggX2_sense_X2_senseButton : GoodIn wsX2_sense wsX2_senseButton := goodIn_r _ [28, 9, 2, 11, 29, 30, 31, 32, 33, 34, 35, 36, 37, 38, 39] (by decide +kernel) (by decide +kernel)
set_option maxRecDepth 20000 in
theorem gX2_sense_X2_senseButton : GoodIn wsX2_sense (wsV RX2 55 RX2 yX2_senseButton wsX2_senseButton) := goodIn_app (goodIn_of _ (by decide +kernel)) ggX2_sense_X2_senseButton
theorem dX2_sense_0 : decode cX2_sense 0 = .ok (.aload_n 0, 1) := by decide +kernel
theorem dX2_sense_1 : decode cX2_sense 1 = .ok (.getfield 9, 3) := by decide +kernel
theorem dX2_sense_4 : decode cX2_sense 4 = .ok (.iconst 1, 1) := by decide +kernel
theorem dX2_sense_5 : decode cX2_sense 5 = .ok (.if_icmp .ne 10, 3) := by decide +kernel
theorem dX2_sense_8 : decode cX2_sense 8 = .ok (.aload_n 0, 1) := by decide +kernel
theorem dX2_sense_9 : decode cX2_sense 9 = .ok (.invokevirtual 49, 3) := by decide +kernel
theorem dX2_sense_12 : decode cX2_sense 12 = .ok (.goto 22, 3) := by decide +kernel
theorem dX2_sense_15 : decode cX2_sense 15 = .ok (.aload_n 0, 1) := by decide +kernel
theorem dX2_sense_16 : decode cX2_sense 16 = .ok (.getfield 9, 3) := by decide +kernel
theorem dX2_sense_19 : decode cX2_sense 19 = .ok (.iconst 2, 1) := by decide +kernel
theorem dX2_sense_20 : decode cX2_sense 20 = .ok (.if_icmp .ne 10, 3) := by decide +kernel
theorem dX2_sense_23 : decode cX2_sense 23 = .ok (.aload_n 0, 1) := by decide +kernel
theorem dX2_sense_24 : decode cX2_sense 24 = .ok (.invokevirtual 52, 3) := by decide +kernel
theorem dX2_sense_27 : decode cX2_sense 27 = .ok (.goto 7, 3) := by decide +kernel
theorem dX2_sense_30 : decode cX2_sense 30 = .ok (.aload_n 0, 1) := by decide +kernel
theorem dX2_sense_31 : decode cX2_sense 31 = .ok (.invokevirtual 55, 3) := by decide +kernel
theorem dX2_sense_34 : decode cX2_sense 34 = .ok (.aload_n 0, 1) := by decide +kernel
theorem dX2_sense_35 : decode cX2_sense 35 = .ok (.getfield 28, 3) := by decide +kernel
theorem dX2_sense_38 : decode cX2_sense 38 = .ok (.iconst 3, 1) := by decide +kernel
theorem dX2_sense_39 : decode cX2_sense 39 = .ok (.if_icmp .lt 8, 3) := by decide +kernel
theorem dX2_sense_42 : decode cX2_sense 42 = .ok (.aload_n 0, 1) := by decide +kernel
theorem dX2_sense_43 : decode cX2_sense 43 = .ok (.iconst 1, 1) := by decide +kernel
theorem dX2_sense_44 : decode cX2_sense 44 = .ok (.putfield 31, 3) := by decide +kernel
theorem dX2_sense_47 : decode cX2_sense 47 = .ok (.return_, 1) := by decide +kernel
theorem dX2_calmDown_0 : decode cX2_calmDown 0 = .ok (.aload_n 0, 1) := by decide +kernel
theorem dX2_calmDown_1 : decode cX2_calmDown 1 = .ok (.iconst 0, 1) := by decide +kernel
theorem dX2_calmDown_2 : decode cX2_calmDown 2 = .ok (.putfield 31, 3) := by decide +kernel
theorem dX2_calmDown_5 : decode cX2_calmDown 5 = .ok (.aload_n 0, 1) := by decide +kernel
theorem dX2_calmDown_6 : decode cX2_calmDown 6 = .ok (.iconst 0, 1) := by decide +kernel
theorem dX2_calmDown_7 : decode cX2_calmDown 7 = .ok (.putfield 28, 3) := by decide +kernel
theorem dX2_calmDown_10 : decode cX2_calmDown 10 = .ok (.return_, 1) := by decide +kernel
set_option maxRecDepth 20000 in
theorem ggX2_senseSmoke_X2_countOver : GoodIn wsX2_senseSmoke wsX2_countOver := goodIn_r _ [11, 3, 12, 5, 13, 14, 15, 16, 17, 18, 19, 20, 21, 22, 23] (by decide +kernel) (by decide +kernel)
set_option maxRecDepth 20000 in
theorem gX2_senseSmoke_X2_countOver : GoodIn wsX2_senseSmoke (wsV RX2 62 RX2 yX2_countOver wsX2_countOver) := goodIn_app (goodIn_of _ (by decide +kernel)) ggX2_senseSmoke_X2_countOver
theorem dX2_senseSmoke_0 : decode cX2_senseSmoke 0 = .ok (.aload_n 0, 1) := by decide +kernel
theorem dX2_senseSmoke_1 : decode cX2_senseSmoke 1 = .ok (.getfield 58, 3) := by decide +kernel
theorem dX2_senseSmoke_4 : decode cX2_senseSmoke 4 = .ok (.aload_n 0, 1) := by decide +kernel
theorem dX2_senseSmoke_5 : decode cX2_senseSmoke 5 = .ok (.getfield 22, 3) := by decide +kernel
theorem dX2_senseSmoke_8 : decode cX2_senseSmoke 8 = .ok (.fsub, 1) := by decide +kernel
theorem dX2_senseSmoke_9 : decode cX2_senseSmoke 9 = .ok (.fstore_n 1, 1) := by decide +kernel
theorem dX2_senseSmoke_10 : decode cX2_senseSmoke 10 = .ok (.aload_n 0, 1) := by decide +kernel
theorem dX2_senseSmoke_11 : decode cX2_senseSmoke 11 = .ok (.aload_n 0, 1) := by decide +kernel
theorem dX2_senseSmoke_12 : decode cX2_senseSmoke 12 = .ok (.getfield 25, 3) := by decide +kernel
theorem dX2_senseSmoke_15 : decode cX2_senseSmoke 15 = .ok (.fload_n 1, 1) := by decide +kernel
theorem dX2_senseSmoke_16 : decode cX2_senseSmoke 16 = .ok (.aload_n 0, 1) := by decide +kernel
theorem dX2_senseSmoke_17 : decode cX2_senseSmoke 17 = .ok (.getfield 25, 3) := by decide +kernel
theorem dX2_senseSmoke_20 : decode cX2_senseSmoke 20 = .ok (.fsub, 1) := by decide +kernel
theorem dX2_senseSmoke_21 : decode cX2_senseSmoke 21 = .ok (.ldc 61, 2) := by decide +kernel
theorem dX2_senseSmoke_23 : decode cX2_senseSmoke 23 = .ok (.fmul, 1) := by decide +kernel
theorem dX2_senseSmoke_24 : decode cX2_senseSmoke 24 = .ok (.fadd, 1) := by decide +kernel
theorem dX2_senseSmoke_25 : decode cX2_senseSmoke 25 = .ok (.putfield 25, 3) := by decide +kernel
theorem dX2_senseSmoke_28 : decode cX2_senseSmoke 28 = .ok (.aload_n 0, 1) := by decide +kernel
theorem dX2_senseSmoke_29 : decode cX2_senseSmoke 29 = .ok (.invokevirtual 62, 3) := by decide +kernel
theorem dX2_senseSmoke_32 : decode cX2_senseSmoke 32 = .ok (.aload_n 0, 1) := by decide +kernel
theorem dX2_senseSmoke_33 : decode cX2_senseSmoke 33 = .ok (.getfield 28, 3) := by decide +kernel
theorem dX2_senseSmoke_36 : decode cX2_senseSmoke 36 = .ok (.ifCond .ne 16, 3) := by decide +kernel
theorem dX2_senseSmoke_39 : decode cX2_senseSmoke 39 = .ok (.aload_n 0, 1) := by decide +kernel
theorem dX2_senseSmoke_40 : decode cX2_senseSmoke 40 = .ok (.aload_n 0, 1) := by decide +kernel
theorem dX2_senseSmoke_41 : decode cX2_senseSmoke 41 = .ok (.getfield 22, 3) := by decide +kernel
theorem dX2_senseSmoke_44 : decode cX2_senseSmoke 44 = .ok (.fload_n 1, 1) := by decide +kernel
theorem dX2_senseSmoke_45 : decode cX2_senseSmoke 45 = .ok (.ldc 65, 2) := by decide +kernel
theorem dX2_senseSmoke_47 : decode cX2_senseSmoke 47 = .ok (.fmul, 1) := by decide +kernel
theorem dX2_senseSmoke_48 : decode cX2_senseSmoke 48 = .ok (.fadd, 1) := by decide +kernel
theorem dX2_senseSmoke_49 : decode cX2_senseSmoke 49 = .ok (.putfield 22, 3) := by decide +kernel
theorem dX2_senseSmoke_52 : decode cX2_senseSmoke 52 = .ok (.return_, 1) := by decide +kernel
set_option maxRecDepth 20000 in
theorem ggX2_senseHeat_X2_countOver : GoodIn wsX2_senseHeat wsX2_countOver := goodIn_r _ [10, 5, 11, 12, 13, 14, 15, 16, 17, 18, 19, 20, 21, 22, 23] (by decide +kernel) (by decide +kernel)
set_option maxRecDepth 20000 in
theorem gX2_senseHeat_X2_countOver : GoodIn wsX2_senseHeat (wsV RX2 62 RX2 yX2_countOver wsX2_countOver) := goodIn_app (goodIn_of _ (by decide +kernel)) ggX2_senseHeat_X2_countOver
theorem dX2_senseHeat_0 : decode cX2_senseHeat 0 = .ok (.aload_n 0, 1) := by decide +kernel
theorem dX2_senseHeat_1 : decode cX2_senseHeat 1 = .ok (.aload_n 0, 1) := by decide +kernel
theorem dX2_senseHeat_2 : decode cX2_senseHeat 2 = .ok (.getfield 58, 3) := by decide +kernel
theorem dX2_senseHeat_5 : decode cX2_senseHeat 5 = .ok (.aload_n 0, 1) := by decide +kernel
theorem dX2_senseHeat_6 : decode cX2_senseHeat 6 = .ok (.getfield 22, 3) := by decide +kernel
theorem dX2_senseHeat_9 : decode cX2_senseHeat 9 = .ok (.fsub, 1) := by decide +kernel
theorem dX2_senseHeat_10 : decode cX2_senseHeat 10 = .ok (.ldc 66, 2) := by decide +kernel
theorem dX2_senseHeat_12 : decode cX2_senseHeat 12 = .ok (.fmul, 1) := by decide +kernel
theorem dX2_senseHeat_13 : decode cX2_senseHeat 13 = .ok (.aload_n 0, 1) := by decide +kernel
theorem dX2_senseHeat_14 : decode cX2_senseHeat 14 = .ok (.getfield 58, 3) := by decide +kernel
theorem dX2_senseHeat_17 : decode cX2_senseHeat 17 = .ok (.ldc 67, 2) := by decide +kernel
theorem dX2_senseHeat_19 : decode cX2_senseHeat 19 = .ok (.fmul, 1) := by decide +kernel
theorem dX2_senseHeat_20 : decode cX2_senseHeat 20 = .ok (.fadd, 1) := by decide +kernel
theorem dX2_senseHeat_21 : decode cX2_senseHeat 21 = .ok (.putfield 25, 3) := by decide +kernel
theorem dX2_senseHeat_24 : decode cX2_senseHeat 24 = .ok (.aload_n 0, 1) := by decide +kernel
theorem dX2_senseHeat_25 : decode cX2_senseHeat 25 = .ok (.aload_n 0, 1) := by decide +kernel
theorem dX2_senseHeat_26 : decode cX2_senseHeat 26 = .ok (.getfield 58, 3) := by decide +kernel
theorem dX2_senseHeat_29 : decode cX2_senseHeat 29 = .ok (.putfield 22, 3) := by decide +kernel
theorem dX2_senseHeat_32 : decode cX2_senseHeat 32 = .ok (.aload_n 0, 1) := by decide +kernel
theorem dX2_senseHeat_33 : decode cX2_senseHeat 33 = .ok (.invokevirtual 62, 3) := by decide +kernel
theorem dX2_senseHeat_36 : decode cX2_senseHeat 36 = .ok (.return_, 1) := by decide +kernel
theorem dX2_senseButton_0 : decode cX2_senseButton 0 = .ok (.aload_n 0, 1) := by decide +kernel
theorem dX2_senseButton_1 : decode cX2_senseButton 1 = .ok (.getfield 58, 3) := by decide +kernel
theorem dX2_senseButton_4 : decode cX2_senseButton 4 = .ok (.fconst 0, 1) := by decide +kernel
theorem dX2_senseButton_5 : decode cX2_senseButton 5 = .ok (.fcmp .l, 1) := by decide +kernel
theorem dX2_senseButton_6 : decode cX2_senseButton 6 = .ok (.ifCond .le 8, 3) := by decide +kernel
theorem dX2_senseButton_9 : decode cX2_senseButton 9 = .ok (.aload_n 0, 1) := by decide +kernel
theorem dX2_senseButton_10 : decode cX2_senseButton 10 = .ok (.iconst 3, 1) := by decide +kernel
theorem dX2_senseButton_11 : decode cX2_senseButton 11 = .ok (.putfield 28, 3) := by decide +kernel
theorem dX2_senseButton_14 : decode cX2_senseButton 14 = .ok (.aload_n 0, 1) := by decide +kernel
theorem dX2_senseButton_15 : decode cX2_senseButton 15 = .ok (.aload_n 0, 1) := by decide +kernel
theorem dX2_senseButton_16 : decode cX2_senseButton 16 = .ok (.getfield 58, 3) := by decide +kernel
theorem dX2_senseButton_19 : decode cX2_senseButton 19 = .ok (.putfield 25, 3) := by decide +kernel
theorem dX2_senseButton_22 : decode cX2_senseButton 22 = .ok (.return_, 1) := by decide +kernel
theorem dX2_countOver_0 : decode cX2_countOver 0 = .ok (.aload_n 0, 1) := by decide +kernel
theorem dX2_countOver_1 : decode cX2_countOver 1 = .ok (.aload_n 0, 1) := by decide +kernel
theorem dX2_countOver_2 : decode cX2_countOver 2 = .ok (.getfield 25, 3) := by decide +kernel
theorem dX2_countOver_5 : decode cX2_countOver 5 = .ok (.aload_n 0, 1) := by decide +kernel
theorem dX2_countOver_6 : decode cX2_countOver 6 = .ok (.getfield 18, 3) := by decide +kernel
theorem dX2_countOver_9 : decode cX2_countOver 9 = .ok (.fcmp .l, 1) := by decide +kernel
theorem dX2_countOver_10 : decode cX2_countOver 10 = .ok (.ifCond .lt 12, 3) := by decide +kernel
theorem dX2_countOver_13 : decode cX2_countOver 13 = .ok (.aload_n 0, 1) := by decide +kernel
theorem dX2_countOver_14 : decode cX2_countOver 14 = .ok (.getfield 28, 3) := by decide +kernel
theorem dX2_countOver_17 : decode cX2_countOver 17 = .ok (.iconst 1, 1) := by decide +kernel
theorem dX2_countOver_18 : decode cX2_countOver 18 = .ok (.iadd, 1) := by decide +kernel
theorem dX2_countOver_19 : decode cX2_countOver 19 = .ok (.goto 4, 3) := by decide +kernel
theorem dX2_countOver_22 : decode cX2_countOver 22 = .ok (.iconst 0, 1) := by decide +kernel
theorem dX2_countOver_23 : decode cX2_countOver 23 = .ok (.putfield 28, 3) := by decide +kernel
theorem dX2_countOver_26 : decode cX2_countOver 26 = .ok (.return_, 1) := by decide +kernel
set_option maxRecDepth 20000 in
theorem ggX3_init_X2_init : GoodIn wsX3_init wsX2_init := goodIn_r _ [12, 13, 2, 3] (by decide +kernel) (by decide +kernel)
set_option maxRecDepth 20000 in
theorem gX3_init_X2_init : GoodIn wsX3_init (wsX2_init) := ggX3_init_X2_init
theorem dX3_init_0 : decode cX3_init 0 = .ok (.aload_n 0, 1) := by decide +kernel
theorem dX3_init_1 : decode cX3_init 1 = .ok (.invokespecial 3, 3) := by decide +kernel
theorem dX3_init_4 : decode cX3_init 4 = .ok (.aload_n 0, 1) := by decide +kernel
theorem dX3_init_5 : decode cX3_init 5 = .ok (.bipush 16, 2) := by decide +kernel
theorem dX3_init_7 : decode cX3_init 7 = .ok (.anewarray 9, 3) := by decide +kernel
theorem dX3_init_10 : decode cX3_init 10 = .ok (.putfield 11, 3) := by decide +kernel
theorem dX3_init_13 : decode cX3_init 13 = .ok (.iconst 0, 1) := by decide +kernel
theorem dX3_init_14 : decode cX3_init 14 = .ok (.istore_n 1, 1) := by decide +kernel
theorem dX3_init_15 : decode cX3_init 15 = .ok (.iload_n 1, 1) := by decide +kernel
theorem dX3_init_16 : decode cX3_init 16 = .ok (.bipush 16, 2) := by decide +kernel
theorem dX3_init_18 : decode cX3_init 18 = .ok (.if_icmp .ge 22, 3) := by decide +kernel
theorem dX3_init_21 : decode cX3_init 21 = .ok (.aload_n 0, 1) := by decide +kernel
theorem dX3_init_22 : decode cX3_init 22 = .ok (.getfield 11, 3) := by decide +kernel
theorem dX3_init_25 : decode cX3_init 25 = .ok (.iload_n 1, 1) := by decide +kernel
theorem dX3_init_26 : decode cX3_init 26 = .ok (.new 9, 3) := by decide +kernel
theorem dX3_init_29 : decode cX3_init 29 = .ok (.dup, 1) := by decide +kernel
theorem dX3_init_30 : decode cX3_init 30 = .ok (.invokespecial 17, 3) := by decide +kernel
theorem dX3_init_33 : decode cX3_init 33 = .ok (.aastore, 1) := by decide +kernel
theorem dX3_init_34 : decode cX3_init 34 = .ok (.iinc 1 1, 3) := by decide +kernel
theorem dX3_init_37 : decode cX3_init 37 = .ok (.goto (-22), 3) := by decide +kernel
theorem dX3_init_40 : decode cX3_init 40 = .ok (.aload_n 0, 1) := by decide +kernel
theorem dX3_init_41 : decode cX3_init 41 = .ok (.bipush 17, 2) := by decide +kernel
theorem dX3_init_43 : decode cX3_init 43 = .ok (.newarray .int, 2) := by decide +kernel
theorem dX3_init_45 : decode cX3_init 45 = .ok (.putfield 18, 3) := by decide +kernel
theorem dX3_init_48 : decode cX3_init 48 = .ok (.return_, 1) := by decide +kernel
set_option maxRecDepth 20000 in
theorem ggX3_reachedPlaces_X3_passableWires : GoodIn wsX3_reachedPlaces wsX3_passableWires := goodIn_r _ [5, 6, 7, 8, 9, 4, 10, 11, 12, 13, 14, 15, 16, 17, 18, 19, 20, 21, 22, 23, 24, 25] (by decide +kernel) (by decide +kernel)
set_option maxRecDepth 20000 in
theorem gX3_reachedPlaces_X3_passableWires : GoodIn wsX3_reachedPlaces (wsV RX3 22 RX3 yX3_passableWires wsX3_passableWires) := goodIn_app (goodIn_of _ (by decide +kernel)) ggX3_reachedPlaces_X3_passableWires
theorem dX3_reachedPlaces_0 : decode cX3_reachedPlaces 0 = .ok (.aload_n 0, 1) := by decide +kernel
theorem dX3_reachedPlaces_1 : decode cX3_reachedPlaces 1 = .ok (.invokevirtual 22, 3) := by decide +kernel
theorem dX3_reachedPlaces_4 : decode cX3_reachedPlaces 4 = .ok (.istore_n 1, 1) := by decide +kernel
theorem dX3_reachedPlaces_5 : decode cX3_reachedPlaces 5 = .ok (.iconst 0, 1) := by decide +kernel
theorem dX3_reachedPlaces_6 : decode cX3_reachedPlaces 6 = .ok (.istore_n 2, 1) := by decide +kernel
theorem dX3_reachedPlaces_7 : decode cX3_reachedPlaces 7 = .ok (.iconst 0, 1) := by decide +kernel
theorem dX3_reachedPlaces_8 : decode cX3_reachedPlaces 8 = .ok (.istore_n 3, 1) := by decide +kernel
theorem dX3_reachedPlaces_9 : decode cX3_reachedPlaces 9 = .ok (.iload_n 3, 1) := by decide +kernel
theorem dX3_reachedPlaces_10 : decode cX3_reachedPlaces 10 = .ok (.bipush 16, 2) := by decide +kernel
theorem dX3_reachedPlaces_12 : decode cX3_reachedPlaces 12 = .ok (.if_icmp .ge 23, 3) := by decide +kernel
theorem dX3_reachedPlaces_15 : decode cX3_reachedPlaces 15 = .ok (.iload_n 1, 1) := by decide +kernel
theorem dX3_reachedPlaces_16 : decode cX3_reachedPlaces 16 = .ok (.iload_n 3, 1) := by decide +kernel
theorem dX3_reachedPlaces_17 : decode cX3_reachedPlaces 17 = .ok (.ishr, 1) := by decide +kernel
theorem dX3_reachedPlaces_18 : decode cX3_reachedPlaces 18 = .ok (.iconst 1, 1) := by decide +kernel
theorem dX3_reachedPlaces_19 : decode cX3_reachedPlaces 19 = .ok (.iand, 1) := by decide +kernel
theorem dX3_reachedPlaces_20 : decode cX3_reachedPlaces 20 = .ok (.ifCond .eq 15, 3) := by decide +kernel
theorem dX3_reachedPlaces_23 : decode cX3_reachedPlaces 23 = .ok (.iload_n 2, 1) := by decide +kernel
theorem dX3_reachedPlaces_24 : decode cX3_reachedPlaces 24 = .ok (.iconst 1, 1) := by decide +kernel
theorem dX3_reachedPlaces_25 : decode cX3_reachedPlaces 25 = .ok (.iload_n 3, 1) := by decide +kernel
theorem dX3_reachedPlaces_26 : decode cX3_reachedPlaces 26 = .ok (.ishl, 1) := by decide +kernel
theorem dX3_reachedPlaces_27 : decode cX3_reachedPlaces 27 = .ok (.ior, 1) := by decide +kernel
theorem dX3_reachedPlaces_28 : decode cX3_reachedPlaces 28 = .ok (.istore_n 2, 1) := by decide +kernel
theorem dX3_reachedPlaces_29 : decode cX3_reachedPlaces 29 = .ok (.iinc 3 1, 3) := by decide +kernel
theorem dX3_reachedPlaces_32 : decode cX3_reachedPlaces 32 = .ok (.goto (-23), 3) := by decide +kernel
theorem dX3_reachedPlaces_35 : decode cX3_reachedPlaces 35 = .ok (.bipush 15, 2) := by decide +kernel
theorem dX3_reachedPlaces_37 : decode cX3_reachedPlaces 37 = .ok (.istore_n 3, 1) := by decide +kernel
theorem dX3_reachedPlaces_38 : decode cX3_reachedPlaces 38 = .ok (.iload_n 3, 1) := by decide +kernel
theorem dX3_reachedPlaces_39 : decode cX3_reachedPlaces 39 = .ok (.ifCond .lt 25, 3) := by decide +kernel
theorem dX3_reachedPlaces_42 : decode cX3_reachedPlaces 42 = .ok (.iload_n 1, 1) := by decide +kernel
theorem dX3_reachedPlaces_43 : decode cX3_reachedPlaces 43 = .ok (.iload_n 3, 1) := by decide +kernel
theorem dX3_reachedPlaces_44 : decode cX3_reachedPlaces 44 = .ok (.iconst 1, 1) := by decide +kernel
theorem dX3_reachedPlaces_45 : decode cX3_reachedPlaces 45 = .ok (.iadd, 1) := by decide +kernel
theorem dX3_reachedPlaces_46 : decode cX3_reachedPlaces 46 = .ok (.ishr, 1) := by decide +kernel
theorem dX3_reachedPlaces_47 : decode cX3_reachedPlaces 47 = .ok (.iconst 1, 1) := by decide +kernel
theorem dX3_reachedPlaces_48 : decode cX3_reachedPlaces 48 = .ok (.iand, 1) := by decide +kernel
theorem dX3_reachedPlaces_49 : decode cX3_reachedPlaces 49 = .ok (.ifCond .eq 15, 3) := by decide +kernel
theorem dX3_reachedPlaces_52 : decode cX3_reachedPlaces 52 = .ok (.iload_n 2, 1) := by decide +kernel
theorem dX3_reachedPlaces_53 : decode cX3_reachedPlaces 53 = .ok (.iconst 1, 1) := by decide +kernel
theorem dX3_reachedPlaces_54 : decode cX3_reachedPlaces 54 = .ok (.iload_n 3, 1) := by decide +kernel
theorem dX3_reachedPlaces_55 : decode cX3_reachedPlaces 55 = .ok (.ishl, 1) := by decide +kernel
theorem dX3_reachedPlaces_56 : decode cX3_reachedPlaces 56 = .ok (.ior, 1) := by decide +kernel
theorem dX3_reachedPlaces_57 : decode cX3_reachedPlaces 57 = .ok (.istore_n 2, 1) := by decide +kernel
theorem dX3_reachedPlaces_58 : decode cX3_reachedPlaces 58 = .ok (.iinc 3 (-1), 3) := by decide +kernel
theorem dX3_reachedPlaces_61 : decode cX3_reachedPlaces 61 = .ok (.goto (-23), 3) := by decide +kernel
theorem dX3_reachedPlaces_64 : decode cX3_reachedPlaces 64 = .ok (.iload_n 2, 1) := by decide +kernel
theorem dX3_reachedPlaces_65 : decode cX3_reachedPlaces 65 = .ok (.ireturn, 1) := by decide +kernel
set_option maxRecDepth 20000 in
theorem ggX3_passableWires_X3_endsStretch : GoodIn wsX3_passableWires wsX3_endsStretch := goodIn_r _ [6, 7, 8, 9, 10, 11, 12, 13, 14, 15, 16, 17, 18, 19, 20, 21] (by decide +kernel) (by decide +kernel)
set_option maxRecDepth 20000 in
theorem gX3_passableWires_X3_endsStretch : GoodIn wsX3_passableWires (wsV RX3 26 RX3 yX3_endsStretch wsX3_endsStretch) := goodIn_app (goodIn_of _ (by decide +kernel)) ggX3_passableWires_X3_endsStretch
theorem dX3_passableWires_0 : decode cX3_passableWires 0 = .ok (.iconst 0, 1) := by decide +kernel
theorem dX3_passableWires_1 : decode cX3_passableWires 1 = .ok (.istore_n 1, 1) := by decide +kernel
theorem dX3_passableWires_2 : decode cX3_passableWires 2 = .ok (.iconst 0, 1) := by decide +kernel
theorem dX3_passableWires_3 : decode cX3_passableWires 3 = .ok (.istore_n 2, 1) := by decide +kernel
theorem dX3_passableWires_4 : decode cX3_passableWires 4 = .ok (.iconst 0, 1) := by decide +kernel
theorem dX3_passableWires_5 : decode cX3_passableWires 5 = .ok (.istore_n 3, 1) := by decide +kernel
theorem dX3_passableWires_6 : decode cX3_passableWires 6 = .ok (.iconst 0, 1) := by decide +kernel
theorem dX3_passableWires_7 : decode cX3_passableWires 7 = .ok (.istore 4, 2) := by decide +kernel
theorem dX3_passableWires_9 : decode cX3_passableWires 9 = .ok (.iload 4, 2) := by decide +kernel
theorem dX3_passableWires_11 : decode cX3_passableWires 11 = .ok (.bipush 17, 2) := by decide +kernel
theorem dX3_passableWires_13 : decode cX3_passableWires 13 = .ok (.if_icmp .ge 72, 3) := by decide +kernel
theorem dX3_passableWires_16 : decode cX3_passableWires 16 = .ok (.aload_n 0, 1) := by decide +kernel
theorem dX3_passableWires_17 : decode cX3_passableWires 17 = .ok (.getfield 18, 3) := by decide +kernel
theorem dX3_passableWires_20 : decode cX3_passableWires 20 = .ok (.iload 4, 2) := by decide +kernel
theorem dX3_passableWires_22 : decode cX3_passableWires 22 = .ok (.iaload, 1) := by decide +kernel
theorem dX3_passableWires_23 : decode cX3_passableWires 23 = .ok (.ifCond .ne 10, 3) := by decide +kernel
theorem dX3_passableWires_26 : decode cX3_passableWires 26 = .ok (.iload_n 2, 1) := by decide +kernel
theorem dX3_passableWires_27 : decode cX3_passableWires 27 = .ok (.iconst 1, 1) := by decide +kernel
theorem dX3_passableWires_28 : decode cX3_passableWires 28 = .ok (.iload 4, 2) := by decide +kernel
theorem dX3_passableWires_30 : decode cX3_passableWires 30 = .ok (.ishl, 1) := by decide +kernel
theorem dX3_passableWires_31 : decode cX3_passableWires 31 = .ok (.ior, 1) := by decide +kernel
theorem dX3_passableWires_32 : decode cX3_passableWires 32 = .ok (.istore_n 2, 1) := by decide +kernel
theorem dX3_passableWires_33 : decode cX3_passableWires 33 = .ok (.iload_n 3, 1) := by decide +kernel
theorem dX3_passableWires_34 : decode cX3_passableWires 34 = .ok (.ifCond .ne 14, 3) := by decide +kernel
theorem dX3_passableWires_37 : decode cX3_passableWires 37 = .ok (.aload_n 0, 1) := by decide +kernel
theorem dX3_passableWires_38 : decode cX3_passableWires 38 = .ok (.getfield 18, 3) := by decide +kernel
theorem dX3_passableWires_41 : decode cX3_passableWires 41 = .ok (.iload 4, 2) := by decide +kernel
theorem dX3_passableWires_43 : decode cX3_passableWires 43 = .ok (.iaload, 1) := by decide +kernel
theorem dX3_passableWires_44 : decode cX3_passableWires 44 = .ok (.iconst 2, 1) := by decide +kernel
theorem dX3_passableWires_45 : decode cX3_passableWires 45 = .ok (.if_icmp .ne 7, 3) := by decide +kernel
theorem dX3_passableWires_48 : decode cX3_passableWires 48 = .ok (.iconst 1, 1) := by decide +kernel
theorem dX3_passableWires_49 : decode cX3_passableWires 49 = .ok (.goto 4, 3) := by decide +kernel
theorem dX3_passableWires_52 : decode cX3_passableWires 52 = .ok (.iconst 0, 1) := by decide +kernel
theorem dX3_passableWires_53 : decode cX3_passableWires 53 = .ok (.istore_n 3, 1) := by decide +kernel
theorem dX3_passableWires_54 : decode cX3_passableWires 54 = .ok (.aload_n 0, 1) := by decide +kernel
theorem dX3_passableWires_55 : decode cX3_passableWires 55 = .ok (.iload 4, 2) := by decide +kernel
theorem dX3_passableWires_57 : decode cX3_passableWires 57 = .ok (.invokevirtual 26, 3) := by decide +kernel
theorem dX3_passableWires_60 : decode cX3_passableWires 60 = .ok (.ifCond .eq 19, 3) := by decide +kernel
theorem dX3_passableWires_63 : decode cX3_passableWires 63 = .ok (.iload_n 1, 1) := by decide +kernel
theorem dX3_passableWires_64 : decode cX3_passableWires 64 = .ok (.iload_n 3, 1) := by decide +kernel
theorem dX3_passableWires_65 : decode cX3_passableWires 65 = .ok (.ifCond .eq 7, 3) := by decide +kernel
theorem dX3_passableWires_68 : decode cX3_passableWires 68 = .ok (.iconst 0, 1) := by decide +kernel
theorem dX3_passableWires_69 : decode cX3_passableWires 69 = .ok (.goto 4, 3) := by decide +kernel
theorem dX3_passableWires_72 : decode cX3_passableWires 72 = .ok (.iload_n 2, 1) := by decide +kernel
theorem dX3_passableWires_73 : decode cX3_passableWires 73 = .ok (.ior, 1) := by decide +kernel
theorem dX3_passableWires_74 : decode cX3_passableWires 74 = .ok (.istore_n 1, 1) := by decide +kernel
theorem dX3_passableWires_75 : decode cX3_passableWires 75 = .ok (.iconst 0, 1) := by decide +kernel
theorem dX3_passableWires_76 : decode cX3_passableWires 76 = .ok (.istore_n 2, 1) := by decide +kernel
theorem dX3_passableWires_77 : decode cX3_passableWires 77 = .ok (.iconst 0, 1) := by decide +kernel
theorem dX3_passableWires_78 : decode cX3_passableWires 78 = .ok (.istore_n 3, 1) := by decide +kernel
theorem dX3_passableWires_79 : decode cX3_passableWires 79 = .ok (.iinc 4 1, 3) := by decide +kernel
theorem dX3_passableWires_82 : decode cX3_passableWires 82 = .ok (.goto (-73), 3) := by decide +kernel
theorem dX3_passableWires_85 : decode cX3_passableWires 85 = .ok (.iload_n 1, 1) := by decide +kernel
theorem dX3_passableWires_86 : decode cX3_passableWires 86 = .ok (.ireturn, 1) := by decide +kernel
theorem dX3_endsStretch_0 : decode cX3_endsStretch 0 = .ok (.iload_n 1, 1) := by decide +kernel
theorem dX3_endsStretch_1 : decode cX3_endsStretch 1 = .ok (.ifCond .lt 22, 3) := by decide +kernel
theorem dX3_endsStretch_4 : decode cX3_endsStretch 4 = .ok (.iload_n 1, 1) := by decide +kernel
theorem dX3_endsStretch_5 : decode cX3_endsStretch 5 = .ok (.bipush 16, 2) := by decide +kernel
theorem dX3_endsStretch_7 : decode cX3_endsStretch 7 = .ok (.if_icmp .ge 16, 3) := by decide +kernel
theorem dX3_endsStretch_10 : decode cX3_endsStretch 10 = .ok (.aload_n 0, 1) := by decide +kernel
theorem dX3_endsStretch_11 : decode cX3_endsStretch 11 = .ok (.getfield 11, 3) := by decide +kernel
theorem dX3_endsStretch_14 : decode cX3_endsStretch 14 = .ok (.iload_n 1, 1) := by decide +kernel
theorem dX3_endsStretch_15 : decode cX3_endsStretch 15 = .ok (.aaload, 1) := by decide +kernel
theorem dX3_endsStretch_16 : decode cX3_endsStretch 16 = .ok (.getfield 30, 3) := by decide +kernel
theorem dX3_endsStretch_19 : decode cX3_endsStretch 19 = .ok (.iconst 4, 1) := by decide +kernel
theorem dX3_endsStretch_20 : decode cX3_endsStretch 20 = .ok (.if_icmp .ne 7, 3) := by decide +kernel
theorem dX3_endsStretch_23 : decode cX3_endsStretch 23 = .ok (.iconst 1, 1) := by decide +kernel
theorem dX3_endsStretch_24 : decode cX3_endsStretch 24 = .ok (.goto 4, 3) := by decide +kernel
theorem dX3_endsStretch_27 : decode cX3_endsStretch 27 = .ok (.iconst 0, 1) := by decide +kernel
theorem dX3_endsStretch_28 : decode cX3_endsStretch 28 = .ok (.ireturn, 1) := by decide +kernel
theorem dX4_init_0 : decode cX4_init 0 = .ok (.aload_n 0, 1) := by decide +kernel
theorem dX4_init_1 : decode cX4_init 1 = .ok (.invokespecial 3, 3) := by decide +kernel
theorem dX4_init_4 : decode cX4_init 4 = .ok (.aload_n 0, 1) := by decide +kernel
theorem dX4_init_5 : decode cX4_init 5 = .ok (.bipush 20, 2) := by decide +kernel
theorem dX4_init_7 : decode cX4_init 7 = .ok (.newarray .int, 2) := by decide +kernel
theorem dX4_init_9 : decode cX4_init 9 = .ok (.putfield 9, 3) := by decide +kernel
theorem dX4_init_12 : decode cX4_init 12 = .ok (.return_, 1) := by decide +kernel
theorem dX4_clear_0 : decode cX4_clear 0 = .ok (.aload_n 0, 1) := by decide +kernel
theorem dX4_clear_1 : decode cX4_clear 1 = .ok (.iconst 0, 1) := by decide +kernel
theorem dX4_clear_2 : decode cX4_clear 2 = .ok (.putfield 15, 3) := by decide +kernel
theorem dX4_clear_5 : decode cX4_clear 5 = .ok (.aload_n 0, 1) := by decide +kernel
theorem dX4_clear_6 : decode cX4_clear 6 = .ok (.iconst 0, 1) := by decide +kernel
theorem dX4_clear_7 : decode cX4_clear 7 = .ok (.putfield 19, 3) := by decide +kernel
theorem dX4_clear_10 : decode cX4_clear 10 = .ok (.aload_n 0, 1) := by decide +kernel
theorem dX4_clear_11 : decode cX4_clear 11 = .ok (.iconst 0, 1) := by decide +kernel
theorem dX4_clear_12 : decode cX4_clear 12 = .ok (.putfield 22, 3) := by decide +kernel
theorem dX4_clear_15 : decode cX4_clear 15 = .ok (.aload_n 0, 1) := by decide +kernel
theorem dX4_clear_16 : decode cX4_clear 16 = .ok (.iconst 0, 1) := by decide +kernel
theorem dX4_clear_17 : decode cX4_clear 17 = .ok (.putfield 25, 3) := by decide +kernel
theorem dX4_clear_20 : decode cX4_clear 20 = .ok (.return_, 1) := by decide +kernel
theorem dX4_addStep_0 : decode cX4_addStep 0 = .ok (.aload_n 0, 1) := by decide +kernel
theorem dX4_addStep_1 : decode cX4_addStep 1 = .ok (.getfield 15, 3) := by decide +kernel
theorem dX4_addStep_4 : decode cX4_addStep 4 = .ok (.ifCond .lt 32, 3) := by decide +kernel
theorem dX4_addStep_7 : decode cX4_addStep 7 = .ok (.aload_n 0, 1) := by decide +kernel
theorem dX4_addStep_8 : decode cX4_addStep 8 = .ok (.getfield 15, 3) := by decide +kernel
theorem dX4_addStep_11 : decode cX4_addStep 11 = .ok (.bipush 20, 2) := by decide +kernel
theorem dX4_addStep_13 : decode cX4_addStep 13 = .ok (.if_icmp .ge 23, 3) := by decide +kernel
theorem dX4_addStep_16 : decode cX4_addStep 16 = .ok (.aload_n 0, 1) := by decide +kernel
theorem dX4_addStep_17 : decode cX4_addStep 17 = .ok (.getfield 9, 3) := by decide +kernel
theorem dX4_addStep_20 : decode cX4_addStep 20 = .ok (.aload_n 0, 1) := by decide +kernel
theorem dX4_addStep_21 : decode cX4_addStep 21 = .ok (.getfield 15, 3) := by decide +kernel
theorem dX4_addStep_24 : decode cX4_addStep 24 = .ok (.iload_n 1, 1) := by decide +kernel
theorem dX4_addStep_25 : decode cX4_addStep 25 = .ok (.iastore, 1) := by decide +kernel
theorem dX4_addStep_26 : decode cX4_addStep 26 = .ok (.aload_n 0, 1) := by decide +kernel
theorem dX4_addStep_27 : decode cX4_addStep 27 = .ok (.dup, 1) := by decide +kernel
theorem dX4_addStep_28 : decode cX4_addStep 28 = .ok (.getfield 15, 3) := by decide +kernel
theorem dX4_addStep_31 : decode cX4_addStep 31 = .ok (.iconst 1, 1) := by decide +kernel
theorem dX4_addStep_32 : decode cX4_addStep 32 = .ok (.iadd, 1) := by decide +kernel
theorem dX4_addStep_33 : decode cX4_addStep 33 = .ok (.putfield 15, 3) := by decide +kernel
theorem dX4_addStep_36 : decode cX4_addStep 36 = .ok (.return_, 1) := by decide +kernel
set_option maxRecDepth 20000 in
theorem ggX4_isTrue_X4_workOff : GoodIn wsX4_isTrue wsX4_workOff := goodIn_r _ [6] (by decide +kernel) (by decide +kernel)
set_option maxRecDepth 20000 in
theorem gX4_isTrue_X4_workOff : GoodIn wsX4_isTrue (va_wsS RX4 28 yX4_workOff wsX4_workOff) := goodIn_app (goodIn_of _ (by decide +kernel)) ggX4_isTrue_X4_workOff
theorem dX4_isTrue_0 : decode cX4_isTrue 0 = .ok (.iconst 0, 1) := by decide +kernel
theorem dX4_isTrue_1 : decode cX4_isTrue 1 = .ok (.istore_n 2, 1) := by decide +kernel
theorem dX4_isTrue_2 : decode cX4_isTrue 2 = .ok (.iconst 0, 1) := by decide +kernel
theorem dX4_isTrue_3 : decode cX4_isTrue 3 = .ok (.istore_n 3, 1) := by decide +kernel
theorem dX4_isTrue_4 : decode cX4_isTrue 4 = .ok (.iload_n 3, 1) := by decide +kernel
theorem dX4_isTrue_5 : decode cX4_isTrue 5 = .ok (.aload_n 0, 1) := by decide +kernel
theorem dX4_isTrue_6 : decode cX4_isTrue 6 = .ok (.getfield 15, 3) := by decide +kernel
theorem dX4_isTrue_9 : decode cX4_isTrue 9 = .ok (.if_icmp .ge 27, 3) := by decide +kernel
theorem dX4_isTrue_12 : decode cX4_isTrue 12 = .ok (.iload_n 3, 1) := by decide +kernel
theorem dX4_isTrue_13 : decode cX4_isTrue 13 = .ok (.bipush 20, 2) := by decide +kernel
theorem dX4_isTrue_15 : decode cX4_isTrue 15 = .ok (.if_icmp .ge 21, 3) := by decide +kernel
theorem dX4_isTrue_18 : decode cX4_isTrue 18 = .ok (.aload_n 0, 1) := by decide +kernel
theorem dX4_isTrue_19 : decode cX4_isTrue 19 = .ok (.getfield 9, 3) := by decide +kernel
theorem dX4_isTrue_22 : decode cX4_isTrue 22 = .ok (.iload_n 3, 1) := by decide +kernel
theorem dX4_isTrue_23 : decode cX4_isTrue 23 = .ok (.iaload, 1) := by decide +kernel
theorem dX4_isTrue_24 : decode cX4_isTrue 24 = .ok (.iload_n 2, 1) := by decide +kernel
theorem dX4_isTrue_25 : decode cX4_isTrue 25 = .ok (.iload_n 1, 1) := by decide +kernel
theorem dX4_isTrue_26 : decode cX4_isTrue 26 = .ok (.invokestatic 28, 3) := by decide +kernel
theorem dX4_isTrue_29 : decode cX4_isTrue 29 = .ok (.istore_n 2, 1) := by decide +kernel
theorem dX4_isTrue_30 : decode cX4_isTrue 30 = .ok (.iinc 3 1, 3) := by decide +kernel
theorem dX4_isTrue_33 : decode cX4_isTrue 33 = .ok (.goto (-29), 3) := by decide +kernel
theorem dX4_isTrue_36 : decode cX4_isTrue 36 = .ok (.iload_n 2, 1) := by decide +kernel
theorem dX4_isTrue_37 : decode cX4_isTrue 37 = .ok (.iconst 1, 1) := by decide +kernel
theorem dX4_isTrue_38 : decode cX4_isTrue 38 = .ok (.iand, 1) := by decide +kernel
theorem dX4_isTrue_39 : decode cX4_isTrue 39 = .ok (.ifCond .eq 7, 3) := by decide +kernel
theorem dX4_isTrue_42 : decode cX4_isTrue 42 = .ok (.iconst 1, 1) := by decide +kernel
theorem dX4_isTrue_43 : decode cX4_isTrue 43 = .ok (.goto 4, 3) := by decide +kernel
theorem dX4_isTrue_46 : decode cX4_isTrue 46 = .ok (.iconst 0, 1) := by decide +kernel
theorem dX4_isTrue_47 : decode cX4_isTrue 47 = .ok (.ireturn, 1) := by decide +kernel
theorem dX4_workOff_0 : decode cX4_workOff 0 = .ok (.iload_n 1, 1) := by decide +kernel
theorem dX4_workOff_1 : decode cX4_workOff 1 = .ok (.iconst 1, 1) := by decide +kernel
theorem dX4_workOff_2 : decode cX4_workOff 2 = .ok (.iand, 1) := by decide +kernel
theorem dX4_workOff_3 : decode cX4_workOff 3 = .ok (.istore_n 3, 1) := by decide +kernel
theorem dX4_workOff_4 : decode cX4_workOff 4 = .ok (.iload_n 1, 1) := by decide +kernel
theorem dX4_workOff_5 : decode cX4_workOff 5 = .ok (.iconst 1, 1) := by decide +kernel
theorem dX4_workOff_6 : decode cX4_workOff 6 = .ok (.ishr, 1) := by decide +kernel
theorem dX4_workOff_7 : decode cX4_workOff 7 = .ok (.istore 4, 2) := by decide +kernel
theorem dX4_workOff_9 : decode cX4_workOff 9 = .ok (.iload_n 0, 1) := by decide +kernel
theorem dX4_workOff_10 : decode cX4_workOff 10 = .ok (.tableswitch 43 9 11 #[26, 30, 38], 26) := by decide +kernel
theorem dX4_workOff_36 : decode cX4_workOff 36 = .ok (.iload_n 1, 1) := by decide +kernel
theorem dX4_workOff_37 : decode cX4_workOff 37 = .ok (.iconst 1, 1) := by decide +kernel
theorem dX4_workOff_38 : decode cX4_workOff 38 = .ok (.ixor, 1) := by decide +kernel
theorem dX4_workOff_39 : decode cX4_workOff 39 = .ok (.ireturn, 1) := by decide +kernel
theorem dX4_workOff_40 : decode cX4_workOff 40 = .ok (.iload 4, 2) := by decide +kernel
theorem dX4_workOff_42 : decode cX4_workOff 42 = .ok (.bipush (-2), 2) := by decide +kernel
theorem dX4_workOff_44 : decode cX4_workOff 44 = .ok (.iload_n 3, 1) := by decide +kernel
theorem dX4_workOff_45 : decode cX4_workOff 45 = .ok (.ior, 1) := by decide +kernel
theorem dX4_workOff_46 : decode cX4_workOff 46 = .ok (.iand, 1) := by decide +kernel
theorem dX4_workOff_47 : decode cX4_workOff 47 = .ok (.ireturn, 1) := by decide +kernel
theorem dX4_workOff_48 : decode cX4_workOff 48 = .ok (.iload 4, 2) := by decide +kernel
theorem dX4_workOff_50 : decode cX4_workOff 50 = .ok (.iload_n 3, 1) := by decide +kernel
theorem dX4_workOff_51 : decode cX4_workOff 51 = .ok (.ior, 1) := by decide +kernel
theorem dX4_workOff_52 : decode cX4_workOff 52 = .ok (.ireturn, 1) := by decide +kernel
theorem dX4_workOff_53 : decode cX4_workOff 53 = .ok (.iload_n 1, 1) := by decide +kernel
theorem dX4_workOff_54 : decode cX4_workOff 54 = .ok (.iconst 1, 1) := by decide +kernel
theorem dX4_workOff_55 : decode cX4_workOff 55 = .ok (.ishl, 1) := by decide +kernel
theorem dX4_workOff_56 : decode cX4_workOff 56 = .ok (.iload_n 2, 1) := by decide +kernel
theorem dX4_workOff_57 : decode cX4_workOff 57 = .ok (.iload_n 0, 1) := by decide +kernel
theorem dX4_workOff_58 : decode cX4_workOff 58 = .ok (.ishr, 1) := by decide +kernel
theorem dX4_workOff_59 : decode cX4_workOff 59 = .ok (.iconst 1, 1) := by decide +kernel
theorem dX4_workOff_60 : decode cX4_workOff 60 = .ok (.iand, 1) := by decide +kernel
theorem dX4_workOff_61 : decode cX4_workOff 61 = .ok (.ior, 1) := by decide +kernel
theorem dX4_workOff_62 : decode cX4_workOff 62 = .ok (.ireturn, 1) := by decide +kernel
theorem dX5_init_0 : decode cX5_init 0 = .ok (.aload_n 0, 1) := by decide +kernel
theorem dX5_init_1 : decode cX5_init 1 = .ok (.invokespecial 1, 3) := by decide +kernel
theorem dX5_init_4 : decode cX5_init 4 = .ok (.aload_n 0, 1) := by decide +kernel
theorem dX5_init_5 : decode cX5_init 5 = .ok (.iconst 1, 1) := by decide +kernel
theorem dX5_init_6 : decode cX5_init 6 = .ok (.putfield 7, 3) := by decide +kernel
theorem dX5_init_9 : decode cX5_init 9 = .ok (.return_, 1) := by decide +kernel
set_option maxRecDepth 20000 in
theorem ggX6_init_X3_init : GoodIn wsX6_init wsX3_init := goodIn_r _ [28, 29, 2, 3, 30, 31, 32, 33, 34, 35, 36, 37, 38, 39, 61, 62, 86, 87, 88, 89, 90, 91, 92, 93, 94, 95, 96] (by decide +kernel) (by decide +kernel)
set_option maxRecDepth 20000 in
theorem gX6_init_X3_init : GoodIn wsX6_init (wsX3_init) := ggX6_init_X3_init
set_option maxRecDepth 20000 in
theorem ggX6_init_X5_init : GoodIn wsX6_init wsX5_init := goodIn_r _ [42, 43, 2, 3, 44, 73, 74, 75] (by decide +kernel) (by decide +kernel)
set_option maxRecDepth 20000 in
theorem gX6_init_X5_init : GoodIn wsX6_init (wsX5_init) := ggX6_init_X5_init
set_option maxRecDepth 20000 in
theorem ggX6_init_X4_init : GoodIn wsX6_init wsX4_init := goodIn_r _ [47, 48, 2, 3, 34, 49, 76, 77, 78, 79, 80] (by decide +kernel) (by decide +kernel)
set_option maxRecDepth 20000 in
theorem gX6_init_X4_init : GoodIn wsX6_init (wsX4_init) := ggX6_init_X4_init
set_option maxRecDepth 20000 in
theorem ggX6_init_X1_init : GoodIn wsX6_init wsX1_init := goodIn_r _ [52, 53, 2, 3, 54, 55, 81, 82, 83] (by decide +kernel) (by decide +kernel)
set_option maxRecDepth 20000 in
theorem gX6_init_X1_init : GoodIn wsX6_init (wsX1_init) := ggX6_init_X1_init
set_option maxRecDepth 20000 in
theorem ggX6_init_X0_init : GoodIn wsX6_init wsX0_init := goodIn_r _ [58, 59, 2, 3, 34, 60, 84, 85] (by decide +kernel) (by decide +kernel)
set_option maxRecDepth 20000 in
theorem gX6_init_X0_init : GoodIn wsX6_init (wsX0_init) := ggX6_init_X0_init
theorem dX6_init_0 : decode cX6_init 0 = .ok (.aload_n 0, 1) := by decide +kernel
theorem dX6_init_1 : decode cX6_init 1 = .ok (.invokespecial 1, 3) := by decide +kernel
theorem dX6_init_4 : decode cX6_init 4 = .ok (.aload_n 0, 1) := by decide +kernel
theorem dX6_init_5 : decode cX6_init 5 = .ok (.new 7, 3) := by decide +kernel
theorem dX6_init_8 : decode cX6_init 8 = .ok (.dup, 1) := by decide +kernel
theorem dX6_init_9 : decode cX6_init 9 = .ok (.invokespecial 9, 3) := by decide +kernel
theorem dX6_init_12 : decode cX6_init 12 = .ok (.putfield 10, 3) := by decide +kernel
theorem dX6_init_15 : decode cX6_init 15 = .ok (.aload_n 0, 1) := by decide +kernel
theorem dX6_init_16 : decode cX6_init 16 = .ok (.iconst 4, 1) := by decide +kernel
theorem dX6_init_17 : decode cX6_init 17 = .ok (.anewarray 16, 3) := by decide +kernel
theorem dX6_init_20 : decode cX6_init 20 = .ok (.putfield 18, 3) := by decide +kernel
theorem dX6_init_23 : decode cX6_init 23 = .ok (.iconst 0, 1) := by decide +kernel
theorem dX6_init_24 : decode cX6_init 24 = .ok (.istore_n 1, 1) := by decide +kernel
theorem dX6_init_25 : decode cX6_init 25 = .ok (.iload_n 1, 1) := by decide +kernel
theorem dX6_init_26 : decode cX6_init 26 = .ok (.iconst 4, 1) := by decide +kernel
theorem dX6_init_27 : decode cX6_init 27 = .ok (.if_icmp .ge 22, 3) := by decide +kernel
theorem dX6_init_30 : decode cX6_init 30 = .ok (.aload_n 0, 1) := by decide +kernel
theorem dX6_init_31 : decode cX6_init 31 = .ok (.getfield 18, 3) := by decide +kernel
theorem dX6_init_34 : decode cX6_init 34 = .ok (.iload_n 1, 1) := by decide +kernel
theorem dX6_init_35 : decode cX6_init 35 = .ok (.new 16, 3) := by decide +kernel
theorem dX6_init_38 : decode cX6_init 38 = .ok (.dup, 1) := by decide +kernel
theorem dX6_init_39 : decode cX6_init 39 = .ok (.invokespecial 22, 3) := by decide +kernel
theorem dX6_init_42 : decode cX6_init 42 = .ok (.aastore, 1) := by decide +kernel
theorem dX6_init_43 : decode cX6_init 43 = .ok (.iinc 1 1, 3) := by decide +kernel
theorem dX6_init_46 : decode cX6_init 46 = .ok (.goto (-21), 3) := by decide +kernel
theorem dX6_init_49 : decode cX6_init 49 = .ok (.aload_n 0, 1) := by decide +kernel
theorem dX6_init_50 : decode cX6_init 50 = .ok (.bipush 6, 2) := by decide +kernel
theorem dX6_init_52 : decode cX6_init 52 = .ok (.anewarray 23, 3) := by decide +kernel
theorem dX6_init_55 : decode cX6_init 55 = .ok (.putfield 25, 3) := by decide +kernel
theorem dX6_init_58 : decode cX6_init 58 = .ok (.iconst 0, 1) := by decide +kernel
theorem dX6_init_59 : decode cX6_init 59 = .ok (.istore_n 1, 1) := by decide +kernel
theorem dX6_init_60 : decode cX6_init 60 = .ok (.iload_n 1, 1) := by decide +kernel
theorem dX6_init_61 : decode cX6_init 61 = .ok (.bipush 6, 2) := by decide +kernel
theorem dX6_init_63 : decode cX6_init 63 = .ok (.if_icmp .ge 22, 3) := by decide +kernel
theorem dX6_init_66 : decode cX6_init 66 = .ok (.aload_n 0, 1) := by decide +kernel
theorem dX6_init_67 : decode cX6_init 67 = .ok (.getfield 25, 3) := by decide +kernel
theorem dX6_init_70 : decode cX6_init 70 = .ok (.iload_n 1, 1) := by decide +kernel
theorem dX6_init_71 : decode cX6_init 71 = .ok (.new 23, 3) := by decide +kernel
theorem dX6_init_74 : decode cX6_init 74 = .ok (.dup, 1) := by decide +kernel
theorem dX6_init_75 : decode cX6_init 75 = .ok (.invokespecial 29, 3) := by decide +kernel
theorem dX6_init_78 : decode cX6_init 78 = .ok (.aastore, 1) := by decide +kernel
theorem dX6_init_79 : decode cX6_init 79 = .ok (.iinc 1 1, 3) := by decide +kernel
theorem dX6_init_82 : decode cX6_init 82 = .ok (.goto (-22), 3) := by decide +kernel
theorem dX6_init_85 : decode cX6_init 85 = .ok (.aload_n 0, 1) := by decide +kernel
theorem dX6_init_86 : decode cX6_init 86 = .ok (.bipush 6, 2) := by decide +kernel
theorem dX6_init_88 : decode cX6_init 88 = .ok (.newarray .boolean, 2) := by decide +kernel
theorem dX6_init_90 : decode cX6_init 90 = .ok (.putfield 30, 3) := by decide +kernel
theorem dX6_init_93 : decode cX6_init 93 = .ok (.aload_n 0, 1) := by decide +kernel
theorem dX6_init_94 : decode cX6_init 94 = .ok (.new 34, 3) := by decide +kernel
theorem dX6_init_97 : decode cX6_init 97 = .ok (.dup, 1) := by decide +kernel
theorem dX6_init_98 : decode cX6_init 98 = .ok (.invokespecial 36, 3) := by decide +kernel
theorem dX6_init_101 : decode cX6_init 101 = .ok (.putfield 37, 3) := by decide +kernel
theorem dX6_init_104 : decode cX6_init 104 = .ok (.aload_n 0, 1) := by decide +kernel
theorem dX6_init_105 : decode cX6_init 105 = .ok (.new 41, 3) := by decide +kernel
theorem dX6_init_108 : decode cX6_init 108 = .ok (.dup, 1) := by decide +kernel
theorem dX6_init_109 : decode cX6_init 109 = .ok (.invokespecial 43, 3) := by decide +kernel
theorem dX6_init_112 : decode cX6_init 112 = .ok (.putfield 44, 3) := by decide +kernel
theorem dX6_init_115 : decode cX6_init 115 = .ok (.return_, 1) := by decide +kernel
set_option maxRecDepth 20000 in
theorem ggX6_fit_X6_mustExist : GoodIn wsX6_fit wsX6_mustExist := goodIn_ca (goodIn_r _ [8, 9, 10] (by decide +kernel) (by decide +kernel)) (goodIn_sub (fun _ h => List.mem_cons_of_mem _ (List.mem_append_left _ (List.mem_append_left _ (List.mem_append_right _ h)))) (by decide +kernel))
set_option maxRecDepth 20000 in
theorem gX6_fit_X6_mustExist : GoodIn wsX6_fit (va_wsS RX6 48 yX6_mustExist wsX6_mustExist) := goodIn_app (goodIn_of _ (by decide +kernel)) ggX6_fit_X6_mustExist
set_option maxRecDepth 20000 in
theorem ggX6_fit_X6_mustBeAllowed : GoodIn wsX6_fit wsX6_mustBeAllowed := goodIn_ca (goodIn_r _ [13, 14, 15] (by decide +kernel) (by decide +kernel)) (goodIn_sub (fun _ h => List.mem_cons_of_mem _ (List.mem_append_left _ (List.mem_append_right _ h))) (by decide +kernel))
set_option maxRecDepth 20000 in
theorem gX6_fit_X6_mustBeAllowed : GoodIn wsX6_fit (va_wsS RX6 52 yX6_mustBeAllowed wsX6_mustBeAllowed) := goodIn_app (goodIn_of _ (by decide +kernel)) ggX6_fit_X6_mustBeAllowed
set_option maxRecDepth 20000 in
theorem ggX6_fit_X6_mustHaveEntered : GoodIn wsX6_fit wsX6_mustHaveEntered := goodIn_ca (goodIn_r _ [19, 20, 21, 22, 37, 38, 39, 40, 41, 42, 43, 44, 45, 46] (by decide +kernel) (by decide +kernel)) (goodIn_sub (fun _ h => List.mem_cons_of_mem _ (List.mem_append_right _ h)) (by decide +kernel))
set_option maxRecDepth 20000 in
theorem gX6_fit_X6_mustHaveEntered : GoodIn wsX6_fit (wsV RX6 58 RX6 yX6_mustHaveEntered wsX6_mustHaveEntered) := goodIn_app (goodIn_of _ (by decide +kernel)) ggX6_fit_X6_mustHaveEntered
set_option maxRecDepth 20000 in
theorem ggX6_fit_X2_begin : GoodIn wsX6_fit wsX2_begin := goodIn_r _ [27, 28, 29, 30, 31, 32, 33, 34, 35, 36, 49, 50, 51, 52, 53, 54, 55, 56, 57, 58, 59] (by decide +kernel) (by decide +kernel)
set_option maxRecDepth 20000 in
theorem gX6_fit_X2_begin : GoodIn wsX6_fit (wsV RX6 66 RX2 yX2_begin wsX2_begin) := goodIn_app (goodIn_of _ (by decide +kernel)) ggX6_fit_X2_begin
theorem dX6_fit_0 : decode cX6_fit 0 = .ok (.iload_n 1, 1) := by decide +kernel
theorem dX6_fit_1 : decode cX6_fit 1 = .ok (.bipush 16, 2) := by decide +kernel
theorem dX6_fit_3 : decode cX6_fit 3 = .ok (.invokestatic 48, 3) := by decide +kernel
theorem dX6_fit_6 : decode cX6_fit 6 = .ok (.iload_n 3, 1) := by decide +kernel
theorem dX6_fit_7 : decode cX6_fit 7 = .ok (.iconst 4, 1) := by decide +kernel
theorem dX6_fit_8 : decode cX6_fit 8 = .ok (.invokestatic 48, 3) := by decide +kernel
theorem dX6_fit_11 : decode cX6_fit 11 = .ok (.iload_n 2, 1) := by decide +kernel
theorem dX6_fit_12 : decode cX6_fit 12 = .ok (.ifCond .lt 12, 3) := by decide +kernel
theorem dX6_fit_15 : decode cX6_fit 15 = .ok (.iload_n 2, 1) := by decide +kernel
theorem dX6_fit_16 : decode cX6_fit 16 = .ok (.iconst 4, 1) := by decide +kernel
theorem dX6_fit_17 : decode cX6_fit 17 = .ok (.if_icmp .gt 7, 3) := by decide +kernel
theorem dX6_fit_20 : decode cX6_fit 20 = .ok (.iconst 1, 1) := by decide +kernel
theorem dX6_fit_21 : decode cX6_fit 21 = .ok (.goto 4, 3) := by decide +kernel
theorem dX6_fit_24 : decode cX6_fit 24 = .ok (.iconst 0, 1) := by decide +kernel
theorem dX6_fit_25 : decode cX6_fit 25 = .ok (.invokestatic 52, 3) := by decide +kernel
theorem dX6_fit_28 : decode cX6_fit 28 = .ok (.fload 4, 2) := by decide +kernel
theorem dX6_fit_30 : decode cX6_fit 30 = .ok (.ldc 56, 2) := by decide +kernel
theorem dX6_fit_32 : decode cX6_fit 32 = .ok (.fcmp .l, 1) := by decide +kernel
theorem dX6_fit_33 : decode cX6_fit 33 = .ok (.ifCond .lt 15, 3) := by decide +kernel
theorem dX6_fit_36 : decode cX6_fit 36 = .ok (.fload 4, 2) := by decide +kernel
theorem dX6_fit_38 : decode cX6_fit 38 = .ok (.ldc 57, 2) := by decide +kernel
theorem dX6_fit_40 : decode cX6_fit 40 = .ok (.fcmp .g, 1) := by decide +kernel
theorem dX6_fit_41 : decode cX6_fit 41 = .ok (.ifCond .gt 7, 3) := by decide +kernel
theorem dX6_fit_44 : decode cX6_fit 44 = .ok (.iconst 1, 1) := by decide +kernel
theorem dX6_fit_45 : decode cX6_fit 45 = .ok (.goto 4, 3) := by decide +kernel
theorem dX6_fit_48 : decode cX6_fit 48 = .ok (.iconst 0, 1) := by decide +kernel
theorem dX6_fit_49 : decode cX6_fit 49 = .ok (.invokestatic 52, 3) := by decide +kernel
theorem dX6_fit_52 : decode cX6_fit 52 = .ok (.aload_n 0, 1) := by decide +kernel
theorem dX6_fit_53 : decode cX6_fit 53 = .ok (.iconst 2, 1) := by decide +kernel
theorem dX6_fit_54 : decode cX6_fit 54 = .ok (.invokevirtual 58, 3) := by decide +kernel
theorem dX6_fit_57 : decode cX6_fit 57 = .ok (.aload_n 0, 1) := by decide +kernel
theorem dX6_fit_58 : decode cX6_fit 58 = .ok (.getfield 10, 3) := by decide +kernel
theorem dX6_fit_61 : decode cX6_fit 61 = .ok (.getfield 62, 3) := by decide +kernel
theorem dX6_fit_64 : decode cX6_fit 64 = .ok (.iload_n 1, 1) := by decide +kernel
theorem dX6_fit_65 : decode cX6_fit 65 = .ok (.aaload, 1) := by decide +kernel
theorem dX6_fit_66 : decode cX6_fit 66 = .ok (.iload_n 2, 1) := by decide +kernel
theorem dX6_fit_67 : decode cX6_fit 67 = .ok (.iload_n 3, 1) := by decide +kernel
theorem dX6_fit_68 : decode cX6_fit 68 = .ok (.fload 4, 2) := by decide +kernel
theorem dX6_fit_70 : decode cX6_fit 70 = .ok (.invokevirtual 66, 3) := by decide +kernel
theorem dX6_fit_73 : decode cX6_fit 73 = .ok (.return_, 1) := by decide +kernel
set_option maxRecDepth 20000 in
theorem ggX6_need_X6_mustExist : GoodIn wsX6_need wsX6_mustExist := goodIn_ca (goodIn_r _ [6, 7, 8] (by decide +kernel) (by decide +kernel)) (goodIn_sub (fun _ h => List.mem_cons_of_mem _ (List.mem_append_left _ (List.mem_append_left _ (List.mem_append_right _ h)))) (by decide +kernel))
set_option maxRecDepth 20000 in
theorem gX6_need_X6_mustExist : GoodIn wsX6_need (va_wsS RX6 48 yX6_mustExist wsX6_mustExist) := goodIn_app (goodIn_of _ (by decide +kernel)) ggX6_need_X6_mustExist
set_option maxRecDepth 20000 in
theorem ggX6_need_X6_mustBeAllowed : GoodIn wsX6_need wsX6_mustBeAllowed := goodIn_ca (goodIn_r _ [11, 12, 13] (by decide +kernel) (by decide +kernel)) (goodIn_sub (fun _ h => List.mem_cons_of_mem _ (List.mem_append_left _ (List.mem_append_right _ h))) (by decide +kernel))
set_option maxRecDepth 20000 in
theorem gX6_need_X6_mustBeAllowed : GoodIn wsX6_need (va_wsS RX6 52 yX6_mustBeAllowed wsX6_mustBeAllowed) := goodIn_app (goodIn_of _ (by decide +kernel)) ggX6_need_X6_mustBeAllowed
set_option maxRecDepth 20000 in
theorem ggX6_need_X6_mustHaveEntered : GoodIn wsX6_need wsX6_mustHaveEntered := goodIn_ca (goodIn_r _ [17, 18, 19, 20, 21, 22, 23, 24, 25, 26, 27, 28, 29, 30] (by decide +kernel) (by decide +kernel)) (goodIn_sub (fun _ h => List.mem_cons_of_mem _ (List.mem_append_right _ h)) (by decide +kernel))
set_option maxRecDepth 20000 in
theorem gX6_need_X6_mustHaveEntered : GoodIn wsX6_need (wsV RX6 58 RX6 yX6_mustHaveEntered wsX6_mustHaveEntered) := goodIn_app (goodIn_of _ (by decide +kernel)) ggX6_need_X6_mustHaveEntered
theorem dX6_need_0 : decode cX6_need 0 = .ok (.iload_n 1, 1) := by decide +kernel
theorem dX6_need_1 : decode cX6_need 1 = .ok (.iconst 4, 1) := by decide +kernel
theorem dX6_need_2 : decode cX6_need 2 = .ok (.invokestatic 48, 3) := by decide +kernel
theorem dX6_need_5 : decode cX6_need 5 = .ok (.iload_n 2, 1) := by decide +kernel
theorem dX6_need_6 : decode cX6_need 6 = .ok (.iconst 1, 1) := by decide +kernel
theorem dX6_need_7 : decode cX6_need 7 = .ok (.if_icmp .lt 12, 3) := by decide +kernel
theorem dX6_need_10 : decode cX6_need 10 = .ok (.iload_n 2, 1) := by decide +kernel
theorem dX6_need_11 : decode cX6_need 11 = .ok (.iconst 4, 1) := by decide +kernel
theorem dX6_need_12 : decode cX6_need 12 = .ok (.if_icmp .gt 7, 3) := by decide +kernel
theorem dX6_need_15 : decode cX6_need 15 = .ok (.iconst 1, 1) := by decide +kernel
theorem dX6_need_16 : decode cX6_need 16 = .ok (.goto 4, 3) := by decide +kernel
theorem dX6_need_19 : decode cX6_need 19 = .ok (.iconst 0, 1) := by decide +kernel
theorem dX6_need_20 : decode cX6_need 20 = .ok (.invokestatic 52, 3) := by decide +kernel
theorem dX6_need_23 : decode cX6_need 23 = .ok (.aload_n 0, 1) := by decide +kernel
theorem dX6_need_24 : decode cX6_need 24 = .ok (.iconst 2, 1) := by decide +kernel
theorem dX6_need_25 : decode cX6_need 25 = .ok (.invokevirtual 58, 3) := by decide +kernel
theorem dX6_need_28 : decode cX6_need 28 = .ok (.aload_n 0, 1) := by decide +kernel
theorem dX6_need_29 : decode cX6_need 29 = .ok (.getfield 18, 3) := by decide +kernel
theorem dX6_need_32 : decode cX6_need 32 = .ok (.iload_n 1, 1) := by decide +kernel
theorem dX6_need_33 : decode cX6_need 33 = .ok (.aaload, 1) := by decide +kernel
theorem dX6_need_34 : decode cX6_need 34 = .ok (.iload_n 2, 1) := by decide +kernel
theorem dX6_need_35 : decode cX6_need 35 = .ok (.putfield 72, 3) := by decide +kernel
theorem dX6_need_38 : decode cX6_need 38 = .ok (.return_, 1) := by decide +kernel
set_option maxRecDepth 20000 in
theorem ggX6_wire_X6_mustExist : GoodIn wsX6_wire wsX6_mustExist := goodIn_ca (goodIn_r _ [6, 7, 8] (by decide +kernel) (by decide +kernel)) (goodIn_sub (fun _ h => List.mem_cons_of_mem _ (List.mem_append_left _ (List.mem_append_right _ h))) (by decide +kernel))
set_option maxRecDepth 20000 in
theorem gX6_wire_X6_mustExist : GoodIn wsX6_wire (va_wsS RX6 48 yX6_mustExist wsX6_mustExist) := goodIn_app (goodIn_of _ (by decide +kernel)) ggX6_wire_X6_mustExist
set_option maxRecDepth 20000 in
theorem ggX6_wire_X6_mustBeAllowed : GoodIn wsX6_wire wsX6_mustBeAllowed := goodIn_ca (goodIn_r _ [11, 12, 13] (by decide +kernel) (by decide +kernel)) (goodIn_sub (fun _ h => List.mem_cons_of_mem _ (List.mem_append_right _ h)) (by decide +kernel))
set_option maxRecDepth 20000 in
theorem gX6_wire_X6_mustBeAllowed : GoodIn wsX6_wire (va_wsS RX6 52 yX6_mustBeAllowed wsX6_mustBeAllowed) := goodIn_app (goodIn_of _ (by decide +kernel)) ggX6_wire_X6_mustBeAllowed
theorem dX6_wire_0 : decode cX6_wire 0 = .ok (.iload_n 1, 1) := by decide +kernel
theorem dX6_wire_1 : decode cX6_wire 1 = .ok (.bipush 17, 2) := by decide +kernel
theorem dX6_wire_3 : decode cX6_wire 3 = .ok (.invokestatic 48, 3) := by decide +kernel
theorem dX6_wire_6 : decode cX6_wire 6 = .ok (.iload_n 2, 1) := by decide +kernel
theorem dX6_wire_7 : decode cX6_wire 7 = .ok (.ifCond .lt 12, 3) := by decide +kernel
theorem dX6_wire_10 : decode cX6_wire 10 = .ok (.iload_n 2, 1) := by decide +kernel
theorem dX6_wire_11 : decode cX6_wire 11 = .ok (.iconst 2, 1) := by decide +kernel
theorem dX6_wire_12 : decode cX6_wire 12 = .ok (.if_icmp .gt 7, 3) := by decide +kernel
theorem dX6_wire_15 : decode cX6_wire 15 = .ok (.iconst 1, 1) := by decide +kernel
theorem dX6_wire_16 : decode cX6_wire 16 = .ok (.goto 4, 3) := by decide +kernel
theorem dX6_wire_19 : decode cX6_wire 19 = .ok (.iconst 0, 1) := by decide +kernel
theorem dX6_wire_20 : decode cX6_wire 20 = .ok (.invokestatic 52, 3) := by decide +kernel
theorem dX6_wire_23 : decode cX6_wire 23 = .ok (.aload_n 0, 1) := by decide +kernel
theorem dX6_wire_24 : decode cX6_wire 24 = .ok (.getfield 10, 3) := by decide +kernel
theorem dX6_wire_27 : decode cX6_wire 27 = .ok (.getfield 76, 3) := by decide +kernel
theorem dX6_wire_30 : decode cX6_wire 30 = .ok (.iload_n 1, 1) := by decide +kernel
theorem dX6_wire_31 : decode cX6_wire 31 = .ok (.iload_n 2, 1) := by decide +kernel
theorem dX6_wire_32 : decode cX6_wire 32 = .ok (.iastore, 1) := by decide +kernel
theorem dX6_wire_33 : decode cX6_wire 33 = .ok (.return_, 1) := by decide +kernel
set_option maxRecDepth 20000 in
theorem ggX6_reading_X6_mustExist : GoodIn wsX6_reading wsX6_mustExist := goodIn_ca (goodIn_r _ [9, 10, 11] (by decide +kernel) (by decide +kernel)) (goodIn_sub (fun _ h => List.mem_cons_of_mem _ (List.mem_append_left _ (List.mem_append_right _ h))) (by decide +kernel))
set_option maxRecDepth 20000 in
theorem gX6_reading_X6_mustExist : GoodIn wsX6_reading (va_wsS RX6 48 yX6_mustExist wsX6_mustExist) := goodIn_app (goodIn_of _ (by decide +kernel)) ggX6_reading_X6_mustExist
set_option maxRecDepth 20000 in
theorem ggX6_reading_X6_mustBeAllowed : GoodIn wsX6_reading wsX6_mustBeAllowed := goodIn_ca (goodIn_r _ [14, 15, 16] (by decide +kernel) (by decide +kernel)) (goodIn_sub (fun _ h => List.mem_cons_of_mem _ (List.mem_append_right _ h)) (by decide +kernel))
set_option maxRecDepth 20000 in
theorem gX6_reading_X6_mustBeAllowed : GoodIn wsX6_reading (va_wsS RX6 52 yX6_mustBeAllowed wsX6_mustBeAllowed) := goodIn_app (goodIn_of _ (by decide +kernel)) ggX6_reading_X6_mustBeAllowed
theorem dX6_reading_0 : decode cX6_reading 0 = .ok (.iload_n 1, 1) := by decide +kernel
theorem dX6_reading_1 : decode cX6_reading 1 = .ok (.bipush 16, 2) := by decide +kernel
theorem dX6_reading_3 : decode cX6_reading 3 = .ok (.invokestatic 48, 3) := by decide +kernel
theorem dX6_reading_6 : decode cX6_reading 6 = .ok (.fload_n 2, 1) := by decide +kernel
theorem dX6_reading_7 : decode cX6_reading 7 = .ok (.ldc 80, 2) := by decide +kernel
theorem dX6_reading_9 : decode cX6_reading 9 = .ok (.fcmp .l, 1) := by decide +kernel
theorem dX6_reading_10 : decode cX6_reading 10 = .ok (.ifCond .lt 14, 3) := by decide +kernel
theorem dX6_reading_13 : decode cX6_reading 13 = .ok (.fload_n 2, 1) := by decide +kernel
theorem dX6_reading_14 : decode cX6_reading 14 = .ok (.ldc 81, 2) := by decide +kernel
theorem dX6_reading_16 : decode cX6_reading 16 = .ok (.fcmp .g, 1) := by decide +kernel
theorem dX6_reading_17 : decode cX6_reading 17 = .ok (.ifCond .gt 7, 3) := by decide +kernel
theorem dX6_reading_20 : decode cX6_reading 20 = .ok (.iconst 1, 1) := by decide +kernel
theorem dX6_reading_21 : decode cX6_reading 21 = .ok (.goto 4, 3) := by decide +kernel
theorem dX6_reading_24 : decode cX6_reading 24 = .ok (.iconst 0, 1) := by decide +kernel
theorem dX6_reading_25 : decode cX6_reading 25 = .ok (.invokestatic 52, 3) := by decide +kernel
theorem dX6_reading_28 : decode cX6_reading 28 = .ok (.aload_n 0, 1) := by decide +kernel
theorem dX6_reading_29 : decode cX6_reading 29 = .ok (.getfield 10, 3) := by decide +kernel
theorem dX6_reading_32 : decode cX6_reading 32 = .ok (.getfield 62, 3) := by decide +kernel
theorem dX6_reading_35 : decode cX6_reading 35 = .ok (.iload_n 1, 1) := by decide +kernel
theorem dX6_reading_36 : decode cX6_reading 36 = .ok (.aaload, 1) := by decide +kernel
theorem dX6_reading_37 : decode cX6_reading 37 = .ok (.fload_n 2, 1) := by decide +kernel
theorem dX6_reading_38 : decode cX6_reading 38 = .ok (.putfield 82, 3) := by decide +kernel
theorem dX6_reading_41 : decode cX6_reading 41 = .ok (.return_, 1) := by decide +kernel
set_option maxRecDepth 20000 in
theorem ggX6_type_X1_append : GoodIn wsX6_type wsX1_append := goodIn_r _ [6, 7, 8, 9, 10, 5, 11, 22, 23, 24] (by decide +kernel) (by decide +kernel)
set_option maxRecDepth 20000 in
theorem gX6_type_X1_append : GoodIn wsX6_type (wsV RX6 86 RX1 yX1_append wsX1_append) := goodIn_app (goodIn_of _ (by decide +kernel)) ggX6_type_X1_append
theorem dX6_type_0 : decode cX6_type 0 = .ok (.aload_n 0, 1) := by decide +kernel
theorem dX6_type_1 : decode cX6_type 1 = .ok (.getfield 37, 3) := by decide +kernel
theorem dX6_type_4 : decode cX6_type 4 = .ok (.iload_n 1, 1) := by decide +kernel
theorem dX6_type_5 : decode cX6_type 5 = .ok (.invokevirtual 86, 3) := by decide +kernel
theorem dX6_type_8 : decode cX6_type 8 = .ok (.ireturn, 1) := by decide +kernel
set_option maxRecDepth 20000 in
theorem ggX6_rule_X6_mustHaveEntered : GoodIn wsX6_rule wsX6_mustHaveEntered := goodIn_ca (goodIn_r _ [11, 1, 2, 12, 65, 66, 67, 68, 69, 70, 71, 72, 73, 74] (by decide +kernel) (by decide +kernel)) (goodIn_sub (fun _ h => List.mem_cons_of_mem _ (List.mem_append_right _ h)) (by decide +kernel))
set_option maxRecDepth 20000 in
theorem gX6_rule_X6_mustHaveEntered : GoodIn wsX6_rule (wsV RX6 58 RX6 yX6_mustHaveEntered wsX6_mustHaveEntered) := goodIn_app (goodIn_of _ (by decide +kernel)) ggX6_rule_X6_mustHaveEntered
set_option maxRecDepth 20000 in
theorem ggX6_rule_X1_readInto : GoodIn wsX6_rule wsX1_readInto := goodIn_r _ [17, 18, 19, 20, 21, 22, 23, 24, 25, 26, 27, 28, 29, 30, 31, 16, 32, 33, 34, 35, 36, 37, 38, 39, 40, 41, 42, 43, 44, 45, 46, 47, 48, 49, 50, 51, 52, 53, 54, 55, 56, 57, 58, 59, 60, 61, 62, 63, 64, 75, 76, 77, 78, 79, 80, 81, 82] (by decide +kernel) (by decide +kernel)
set_option maxRecDepth 20000 in
theorem gX6_rule_X1_readInto : GoodIn wsX6_rule (wsV RX6 100 RX1 yX1_readInto wsX1_readInto) := goodIn_app (goodIn_of _ (by decide +kernel)) ggX6_rule_X1_readInto
theorem dX6_rule_0 : decode cX6_rule 0 = .ok (.aload_n 0, 1) := by decide +kernel
theorem dX6_rule_1 : decode cX6_rule 1 = .ok (.iconst 2, 1) := by decide +kernel
theorem dX6_rule_2 : decode cX6_rule 2 = .ok (.invokevirtual 58, 3) := by decide +kernel
theorem dX6_rule_5 : decode cX6_rule 5 = .ok (.aload_n 0, 1) := by decide +kernel
theorem dX6_rule_6 : decode cX6_rule 6 = .ok (.getfield 90, 3) := by decide +kernel
theorem dX6_rule_9 : decode cX6_rule 9 = .ok (.ifCond .lt 12, 3) := by decide +kernel
theorem dX6_rule_12 : decode cX6_rule 12 = .ok (.aload_n 0, 1) := by decide +kernel
theorem dX6_rule_13 : decode cX6_rule 13 = .ok (.getfield 90, 3) := by decide +kernel
theorem dX6_rule_16 : decode cX6_rule 16 = .ok (.bipush 6, 2) := by decide +kernel
theorem dX6_rule_18 : decode cX6_rule 18 = .ok (.if_icmp .lt 13, 3) := by decide +kernel
theorem dX6_rule_21 : decode cX6_rule 21 = .ok (.new 93, 3) := by decide +kernel
theorem dX6_rule_24 : decode cX6_rule 24 = .ok (.dup, 1) := by decide +kernel
theorem dX6_rule_25 : decode cX6_rule 25 = .ok (.ldc 95, 2) := by decide +kernel
theorem dX6_rule_27 : decode cX6_rule 27 = .ok (.invokespecial 97, 3) := by decide +kernel
theorem dX6_rule_30 : decode cX6_rule 30 = .ok (.athrow, 1) := by decide +kernel
theorem dX6_rule_31 : decode cX6_rule 31 = .ok (.aload_n 0, 1) := by decide +kernel
theorem dX6_rule_32 : decode cX6_rule 32 = .ok (.getfield 37, 3) := by decide +kernel
theorem dX6_rule_35 : decode cX6_rule 35 = .ok (.aload_n 0, 1) := by decide +kernel
theorem dX6_rule_36 : decode cX6_rule 36 = .ok (.getfield 25, 3) := by decide +kernel
theorem dX6_rule_39 : decode cX6_rule 39 = .ok (.aload_n 0, 1) := by decide +kernel
theorem dX6_rule_40 : decode cX6_rule 40 = .ok (.getfield 90, 3) := by decide +kernel
theorem dX6_rule_43 : decode cX6_rule 43 = .ok (.aaload, 1) := by decide +kernel
theorem dX6_rule_44 : decode cX6_rule 44 = .ok (.invokevirtual 100, 3) := by decide +kernel
theorem dX6_rule_47 : decode cX6_rule 47 = .ok (.istore_n 1, 1) := by decide +kernel
theorem dX6_rule_48 : decode cX6_rule 48 = .ok (.aload_n 0, 1) := by decide +kernel
theorem dX6_rule_49 : decode cX6_rule 49 = .ok (.getfield 37, 3) := by decide +kernel
theorem dX6_rule_52 : decode cX6_rule 52 = .ok (.iconst 0, 1) := by decide +kernel
theorem dX6_rule_53 : decode cX6_rule 53 = .ok (.putfield 104, 3) := by decide +kernel
theorem dX6_rule_56 : decode cX6_rule 56 = .ok (.iload_n 1, 1) := by decide +kernel
theorem dX6_rule_57 : decode cX6_rule 57 = .ok (.iconst (-1), 1) := by decide +kernel
theorem dX6_rule_58 : decode cX6_rule 58 = .ok (.if_icmp .eq 7, 3) := by decide +kernel
theorem dX6_rule_61 : decode cX6_rule 61 = .ok (.iconst 1, 1) := by decide +kernel
theorem dX6_rule_62 : decode cX6_rule 62 = .ok (.iload_n 1, 1) := by decide +kernel
theorem dX6_rule_63 : decode cX6_rule 63 = .ok (.iadd, 1) := by decide +kernel
theorem dX6_rule_64 : decode cX6_rule 64 = .ok (.ireturn, 1) := by decide +kernel
theorem dX6_rule_65 : decode cX6_rule 65 = .ok (.aload_n 0, 1) := by decide +kernel
theorem dX6_rule_66 : decode cX6_rule 66 = .ok (.dup, 1) := by decide +kernel
theorem dX6_rule_67 : decode cX6_rule 67 = .ok (.getfield 90, 3) := by decide +kernel
theorem dX6_rule_70 : decode cX6_rule 70 = .ok (.iconst 1, 1) := by decide +kernel
theorem dX6_rule_71 : decode cX6_rule 71 = .ok (.iadd, 1) := by decide +kernel
theorem dX6_rule_72 : decode cX6_rule 72 = .ok (.putfield 90, 3) := by decide +kernel
theorem dX6_rule_75 : decode cX6_rule 75 = .ok (.iconst 0, 1) := by decide +kernel
theorem dX6_rule_76 : decode cX6_rule 76 = .ok (.ireturn, 1) := by decide +kernel
set_option maxRecDepth 20000 in
theorem ggX6_forget_X6_mustHaveEntered : GoodIn wsX6_forget wsX6_mustHaveEntered := goodIn_ca (goodIn_r _ [6, 7, 8, 9, 15, 16, 17, 18, 19, 20, 21, 22, 23, 24] (by decide +kernel) (by decide +kernel)) (goodIn_sub (fun _ h => List.mem_cons_of_mem _ (List.mem_append_right _ h)) (by decide +kernel))
set_option maxRecDepth 20000 in
theorem gX6_forget_X6_mustHaveEntered : GoodIn wsX6_forget (wsV RX6 58 RX6 yX6_mustHaveEntered wsX6_mustHaveEntered) := goodIn_app (goodIn_of _ (by decide +kernel)) ggX6_forget_X6_mustHaveEntered
set_option maxRecDepth 20000 in
theorem ggX6_forget_X6_allOutputsOff : GoodIn wsX6_forget wsX6_allOutputsOff := goodIn_r _ [13, 14, 15, 16, 17, 18, 19, 20, 21, 22, 23, 24] (by decide +kernel) (by decide +kernel)
set_option maxRecDepth 20000 in
theorem gX6_forget_X6_allOutputsOff : GoodIn wsX6_forget (wsV RX6 107 RX6 yX6_allOutputsOff wsX6_allOutputsOff) := goodIn_app (goodIn_of _ (by decide +kernel)) ggX6_forget_X6_allOutputsOff
theorem dX6_forget_0 : decode cX6_forget 0 = .ok (.aload_n 0, 1) := by decide +kernel
theorem dX6_forget_1 : decode cX6_forget 1 = .ok (.iconst 2, 1) := by decide +kernel
theorem dX6_forget_2 : decode cX6_forget 2 = .ok (.invokevirtual 58, 3) := by decide +kernel
theorem dX6_forget_5 : decode cX6_forget 5 = .ok (.aload_n 0, 1) := by decide +kernel
theorem dX6_forget_6 : decode cX6_forget 6 = .ok (.getfield 90, 3) := by decide +kernel
theorem dX6_forget_9 : decode cX6_forget 9 = .ok (.istore_n 1, 1) := by decide +kernel
theorem dX6_forget_10 : decode cX6_forget 10 = .ok (.aload_n 0, 1) := by decide +kernel
theorem dX6_forget_11 : decode cX6_forget 11 = .ok (.iconst 0, 1) := by decide +kernel
theorem dX6_forget_12 : decode cX6_forget 12 = .ok (.putfield 90, 3) := by decide +kernel
theorem dX6_forget_15 : decode cX6_forget 15 = .ok (.aload_n 0, 1) := by decide +kernel
theorem dX6_forget_16 : decode cX6_forget 16 = .ok (.invokevirtual 107, 3) := by decide +kernel
theorem dX6_forget_19 : decode cX6_forget 19 = .ok (.iload_n 1, 1) := by decide +kernel
theorem dX6_forget_20 : decode cX6_forget 20 = .ok (.ireturn, 1) := by decide +kernel
set_option maxRecDepth 20000 in
theorem ggX6_poll_X6_askPlaces : GoodIn wsX6_poll wsX6_askPlaces := goodIn_r _ [6, 7, 8, 9, 10, 11, 12, 13, 14, 15, 16, 17, 18, 19, 20, 21, 22, 23, 24, 25, 26, 27, 28, 29, 30, 31, 32, 33, 5, 34, 35, 36, 37, 1, 38, 39, 40, 41, 42, 43, 44, 45, 46, 47, 48, 49, 50, 51, 52, 53, 54, 55, 56, 57, 58, 59, 60, 61, 62, 63, 64, 65, 66, 67, 68, 69, 70, 71, 72, 73, 74, 75, 76, 77, 78, 79, 80, 81, 82, 83, 84, 85, 86, 87, 155, 156, 157, 158, 159, 160, 161, 162, 163, 164, 165, 166, 167, 168, 169, 170, 171, 172, 173, 174, 175, 176, 177, 178, 179] (by decide +kernel) (by decide +kernel)
set_option maxRecDepth 20000 in
theorem gX6_poll_X6_askPlaces : GoodIn wsX6_poll (wsV RX6 113 RX6 yX6_askPlaces wsX6_askPlaces) := goodIn_app (goodIn_of _ (by decide +kernel)) ggX6_poll_X6_askPlaces
set_option maxRecDepth 20000 in
theorem ggX6_poll_X6_watchZones : GoodIn wsX6_poll wsX6_watchZones := goodIn_r _ [91, 92, 93, 94, 95, 96, 37, 1, 97, 98, 99, 5, 100, 7, 8, 101, 102, 103, 104, 105, 28, 106, 107, 108, 109, 26, 27, 29, 30, 38, 39, 40, 41, 42, 43, 44, 45, 46, 47, 48, 49, 50, 51, 52, 155, 156, 157, 158, 159, 160, 161, 162, 163, 164, 180, 181, 182, 165, 166, 167, 168, 169, 170, 171, 172, 173, 174, 175, 176, 177, 178, 179] (by decide +kernel) (by decide +kernel)
set_option maxRecDepth 20000 in
theorem gX6_poll_X6_watchZones : GoodIn wsX6_poll (wsV RX6 116 RX6 yX6_watchZones wsX6_watchZones) := goodIn_app (goodIn_of _ (by decide +kernel)) ggX6_poll_X6_watchZones
set_option maxRecDepth 20000 in
theorem ggX6_poll_X6_followRules : GoodIn wsX6_poll wsX6_followRules := goodIn_r _ [113, 114, 115, 116, 117, 118, 119, 5, 120, 92, 94, 121, 122, 123, 124, 7, 8, 36, 125, 126, 127, 128, 103, 104, 105, 28, 106, 107, 108, 109, 26, 27, 29, 30, 129, 130, 131, 132, 63, 70, 77, 133, 134, 135, 136, 137, 138, 139, 140, 141, 142, 143, 155, 156, 157, 158, 159, 160, 161, 162, 163, 164, 183, 184, 185, 186, 187, 180, 181, 182, 165, 166, 167, 168, 169, 170, 171, 172, 173, 174, 175, 176, 177] (by decide +kernel) (by decide +kernel)
set_option maxRecDepth 20000 in
theorem gX6_poll_X6_followRules : GoodIn wsX6_poll (wsV RX6 120 RX6 yX6_followRules wsX6_followRules) := goodIn_app (goodIn_of _ (by decide +kernel)) ggX6_poll_X6_followRules
set_option maxRecDepth 20000 in
theorem ggX6_poll_X6_driveOutputs : GoodIn wsX6_poll wsX6_driveOutputs := goodIn_r _ [147, 148, 37, 1, 149, 150, 151, 5, 152, 114, 115, 153, 116, 154, 38, 39, 40, 41, 42, 43, 44, 45, 46, 47, 48, 49, 50, 51, 52, 155, 156, 157, 158, 159, 160, 161, 162, 163, 164, 183, 184, 185, 186, 187, 178, 179] (by decide +kernel) (by decide +kernel)
set_option maxRecDepth 20000 in
theorem gX6_poll_X6_driveOutputs : GoodIn wsX6_poll (wsV RX6 123 RX6 yX6_driveOutputs wsX6_driveOutputs) := goodIn_app (goodIn_of _ (by decide +kernel)) ggX6_poll_X6_driveOutputs
theorem dX6_poll_0 : decode cX6_poll 0 = .ok (.aload_n 0, 1) := by decide +kernel
theorem dX6_poll_1 : decode cX6_poll 1 = .ok (.dup, 1) := by decide +kernel
theorem dX6_poll_2 : decode cX6_poll 2 = .ok (.getfield 110, 3) := by decide +kernel
theorem dX6_poll_5 : decode cX6_poll 5 = .ok (.iconst 1, 1) := by decide +kernel
theorem dX6_poll_6 : decode cX6_poll 6 = .ok (.iadd, 1) := by decide +kernel
theorem dX6_poll_7 : decode cX6_poll 7 = .ok (.putfield 110, 3) := by decide +kernel
theorem dX6_poll_10 : decode cX6_poll 10 = .ok (.aload_n 0, 1) := by decide +kernel
theorem dX6_poll_11 : decode cX6_poll 11 = .ok (.invokevirtual 113, 3) := by decide +kernel
theorem dX6_poll_14 : decode cX6_poll 14 = .ok (.aload_n 0, 1) := by decide +kernel
theorem dX6_poll_15 : decode cX6_poll 15 = .ok (.invokevirtual 116, 3) := by decide +kernel
theorem dX6_poll_18 : decode cX6_poll 18 = .ok (.istore_n 1, 1) := by decide +kernel
theorem dX6_poll_19 : decode cX6_poll 19 = .ok (.aload_n 0, 1) := by decide +kernel
theorem dX6_poll_20 : decode cX6_poll 20 = .ok (.invokevirtual 120, 3) := by decide +kernel
theorem dX6_poll_23 : decode cX6_poll 23 = .ok (.aload_n 0, 1) := by decide +kernel
theorem dX6_poll_24 : decode cX6_poll 24 = .ok (.invokevirtual 123, 3) := by decide +kernel
theorem dX6_poll_27 : decode cX6_poll 27 = .ok (.iload_n 1, 1) := by decide +kernel
theorem dX6_poll_28 : decode cX6_poll 28 = .ok (.ireturn, 1) := by decide +kernel
theorem dX6_key_0 : decode cX6_key 0 = .ok (.aload_n 0, 1) := by decide +kernel
theorem dX6_key_1 : decode cX6_key 1 = .ok (.iload_n 1, 1) := by decide +kernel
theorem dX6_key_2 : decode cX6_key 2 = .ok (.sipush 2468, 3) := by decide +kernel
theorem dX6_key_5 : decode cX6_key 5 = .ok (.if_icmp .ne 7, 3) := by decide +kernel
theorem dX6_key_8 : decode cX6_key 8 = .ok (.iconst 2, 1) := by decide +kernel
theorem dX6_key_9 : decode cX6_key 9 = .ok (.goto 15, 3) := by decide +kernel
theorem dX6_key_12 : decode cX6_key 12 = .ok (.iload_n 1, 1) := by decide +kernel
theorem dX6_key_13 : decode cX6_key 13 = .ok (.sipush 1357, 3) := by decide +kernel
theorem dX6_key_16 : decode cX6_key 16 = .ok (.if_icmp .ne 7, 3) := by decide +kernel
theorem dX6_key_19 : decode cX6_key 19 = .ok (.iconst 1, 1) := by decide +kernel
theorem dX6_key_20 : decode cX6_key 20 = .ok (.goto 4, 3) := by decide +kernel
theorem dX6_key_23 : decode cX6_key 23 = .ok (.iconst 0, 1) := by decide +kernel
theorem dX6_key_24 : decode cX6_key 24 = .ok (.putfield 126, 3) := by decide +kernel
theorem dX6_key_27 : decode cX6_key 27 = .ok (.aload_n 0, 1) := by decide +kernel
theorem dX6_key_28 : decode cX6_key 28 = .ok (.getfield 126, 3) := by decide +kernel
theorem dX6_key_31 : decode cX6_key 31 = .ok (.ireturn, 1) := by decide +kernel
set_option maxRecDepth 20000 in
theorem ggX6_silence_X6_mustHaveEntered : GoodIn wsX6_silence wsX6_mustHaveEntered := goodIn_ca (goodIn_r _ [8, 9, 10, 11, 27, 28, 29, 30, 31, 32, 33, 34, 35, 36] (by decide +kernel) (by decide +kernel)) (goodIn_sub (fun _ h => List.mem_cons_of_mem _ (List.mem_append_right _ h)) (by decide +kernel))
set_option maxRecDepth 20000 in
theorem gX6_silence_X6_mustHaveEntered : GoodIn wsX6_silence (wsV RX6 58 RX6 yX6_mustHaveEntered wsX6_mustHaveEntered) := goodIn_app (goodIn_of _ (by decide +kernel)) ggX6_silence_X6_mustHaveEntered
set_option maxRecDepth 20000 in
theorem ggX6_silence_X0_add : GoodIn wsX6_silence wsX0_add := goodIn_r _ [16, 17, 18, 19, 20, 21, 22, 23, 24, 25, 26, 37, 38] (by decide +kernel) (by decide +kernel)
set_option maxRecDepth 20000 in
theorem gX6_silence_X0_add : GoodIn wsX6_silence (wsV RX6 133 RX0 yX0_add wsX0_add) := goodIn_app (goodIn_of _ (by decide +kernel)) ggX6_silence_X0_add
theorem dX6_silence_0 : decode cX6_silence 0 = .ok (.aload_n 0, 1) := by decide +kernel
theorem dX6_silence_1 : decode cX6_silence 1 = .ok (.iconst 1, 1) := by decide +kernel
theorem dX6_silence_2 : decode cX6_silence 2 = .ok (.invokevirtual 58, 3) := by decide +kernel
theorem dX6_silence_5 : decode cX6_silence 5 = .ok (.aload_n 0, 1) := by decide +kernel
theorem dX6_silence_6 : decode cX6_silence 6 = .ok (.getfield 129, 3) := by decide +kernel
theorem dX6_silence_9 : decode cX6_silence 9 = .ok (.ifCond .eq 5, 3) := by decide +kernel
theorem dX6_silence_12 : decode cX6_silence 12 = .ok (.iconst 0, 1) := by decide +kernel
theorem dX6_silence_13 : decode cX6_silence 13 = .ok (.ireturn, 1) := by decide +kernel
theorem dX6_silence_14 : decode cX6_silence 14 = .ok (.aload_n 0, 1) := by decide +kernel
theorem dX6_silence_15 : decode cX6_silence 15 = .ok (.iconst 1, 1) := by decide +kernel
theorem dX6_silence_16 : decode cX6_silence 16 = .ok (.putfield 129, 3) := by decide +kernel
theorem dX6_silence_19 : decode cX6_silence 19 = .ok (.aload_n 0, 1) := by decide +kernel
theorem dX6_silence_20 : decode cX6_silence 20 = .ok (.getfield 44, 3) := by decide +kernel
theorem dX6_silence_23 : decode cX6_silence 23 = .ok (.iconst 5, 1) := by decide +kernel
theorem dX6_silence_24 : decode cX6_silence 24 = .ok (.iconst 0, 1) := by decide +kernel
theorem dX6_silence_25 : decode cX6_silence 25 = .ok (.aload_n 0, 1) := by decide +kernel
theorem dX6_silence_26 : decode cX6_silence 26 = .ok (.getfield 110, 3) := by decide +kernel
theorem dX6_silence_29 : decode cX6_silence 29 = .ok (.invokevirtual 133, 3) := by decide +kernel
theorem dX6_silence_32 : decode cX6_silence 32 = .ok (.iconst 1, 1) := by decide +kernel
theorem dX6_silence_33 : decode cX6_silence 33 = .ok (.ireturn, 1) := by decide +kernel
set_option maxRecDepth 20000 in
theorem ggX6_reset_X6_mustHaveEntered : GoodIn wsX6_reset wsX6_mustHaveEntered := goodIn_ca (goodIn_r _ [14, 15, 16, 17, 45, 46, 47, 48, 49, 50, 51, 52, 53, 54] (by decide +kernel) (by decide +kernel)) (goodIn_sub (fun _ h => List.mem_cons_of_mem _ (List.mem_append_right _ h)) (by decide +kernel))
set_option maxRecDepth 20000 in
theorem gX6_reset_X6_mustHaveEntered : GoodIn wsX6_reset (wsV RX6 58 RX6 yX6_mustHaveEntered wsX6_mustHaveEntered) := goodIn_app (goodIn_of _ (by decide +kernel)) ggX6_reset_X6_mustHaveEntered
set_option maxRecDepth 20000 in
theorem ggX6_reset_X2_calmDown : GoodIn wsX6_reset wsX2_calmDown := goodIn_r _ [22, 23, 24, 65, 66, 67, 68, 69, 70, 71, 72, 73, 74, 75] (by decide +kernel) (by decide +kernel)
set_option maxRecDepth 20000 in
theorem gX6_reset_X2_calmDown : GoodIn wsX6_reset (wsV RX6 140 RX2 yX2_calmDown wsX2_calmDown) := goodIn_app (goodIn_of _ (by decide +kernel)) ggX6_reset_X2_calmDown
set_option maxRecDepth 20000 in
theorem ggX6_reset_X6_allOutputsOff : GoodIn wsX6_reset wsX6_allOutputsOff := goodIn_r _ [28, 29, 45, 46, 47, 48, 49, 50, 51, 52, 53, 54] (by decide +kernel) (by decide +kernel)
set_option maxRecDepth 20000 in
theorem gX6_reset_X6_allOutputsOff : GoodIn wsX6_reset (wsV RX6 107 RX6 yX6_allOutputsOff wsX6_allOutputsOff) := goodIn_app (goodIn_of _ (by decide +kernel)) ggX6_reset_X6_allOutputsOff
set_option maxRecDepth 20000 in
theorem ggX6_reset_X0_add : GoodIn wsX6_reset wsX0_add := goodIn_r _ [34, 35, 36, 37, 38, 39, 40, 41, 42, 43, 44, 76, 77] (by decide +kernel) (by decide +kernel)
set_option maxRecDepth 20000 in
theorem gX6_reset_X0_add : GoodIn wsX6_reset (wsV RX6 133 RX0 yX0_add wsX0_add) := goodIn_app (goodIn_of _ (by decide +kernel)) ggX6_reset_X0_add
theorem dX6_reset_0 : decode cX6_reset 0 = .ok (.aload_n 0, 1) := by decide +kernel
theorem dX6_reset_1 : decode cX6_reset 1 = .ok (.iconst 1, 1) := by decide +kernel
theorem dX6_reset_2 : decode cX6_reset 2 = .ok (.invokevirtual 58, 3) := by decide +kernel
theorem dX6_reset_5 : decode cX6_reset 5 = .ok (.iconst 0, 1) := by decide +kernel
theorem dX6_reset_6 : decode cX6_reset 6 = .ok (.istore_n 1, 1) := by decide +kernel
theorem dX6_reset_7 : decode cX6_reset 7 = .ok (.aload_n 0, 1) := by decide +kernel
theorem dX6_reset_8 : decode cX6_reset 8 = .ok (.getfield 18, 3) := by decide +kernel
theorem dX6_reset_11 : decode cX6_reset 11 = .ok (.astore_n 2, 1) := by decide +kernel
theorem dX6_reset_12 : decode cX6_reset 12 = .ok (.aload_n 2, 1) := by decide +kernel
theorem dX6_reset_13 : decode cX6_reset 13 = .ok (.arraylength, 1) := by decide +kernel
theorem dX6_reset_14 : decode cX6_reset 14 = .ok (.istore_n 3, 1) := by decide +kernel
theorem dX6_reset_15 : decode cX6_reset 15 = .ok (.iconst 0, 1) := by decide +kernel
theorem dX6_reset_16 : decode cX6_reset 16 = .ok (.istore 4, 2) := by decide +kernel
theorem dX6_reset_18 : decode cX6_reset 18 = .ok (.iload 4, 2) := by decide +kernel
theorem dX6_reset_20 : decode cX6_reset 20 = .ok (.iload_n 3, 1) := by decide +kernel
theorem dX6_reset_21 : decode cX6_reset 21 = .ok (.if_icmp .ge 37, 3) := by decide +kernel
theorem dX6_reset_24 : decode cX6_reset 24 = .ok (.aload_n 2, 1) := by decide +kernel
theorem dX6_reset_25 : decode cX6_reset 25 = .ok (.iload 4, 2) := by decide +kernel
theorem dX6_reset_27 : decode cX6_reset 27 = .ok (.aaload, 1) := by decide +kernel
theorem dX6_reset_28 : decode cX6_reset 28 = .ok (.astore 5, 2) := by decide +kernel
theorem dX6_reset_30 : decode cX6_reset 30 = .ok (.iload_n 1, 1) := by decide +kernel
theorem dX6_reset_31 : decode cX6_reset 31 = .ok (.aload 5, 2) := by decide +kernel
theorem dX6_reset_33 : decode cX6_reset 33 = .ok (.getfield 137, 3) := by decide +kernel
theorem dX6_reset_36 : decode cX6_reset 36 = .ok (.ifCond .eq 7, 3) := by decide +kernel
theorem dX6_reset_39 : decode cX6_reset 39 = .ok (.iconst 1, 1) := by decide +kernel
theorem dX6_reset_40 : decode cX6_reset 40 = .ok (.goto 4, 3) := by decide +kernel
theorem dX6_reset_43 : decode cX6_reset 43 = .ok (.iconst 0, 1) := by decide +kernel
theorem dX6_reset_44 : decode cX6_reset 44 = .ok (.iadd, 1) := by decide +kernel
theorem dX6_reset_45 : decode cX6_reset 45 = .ok (.istore_n 1, 1) := by decide +kernel
theorem dX6_reset_46 : decode cX6_reset 46 = .ok (.aload 5, 2) := by decide +kernel
theorem dX6_reset_48 : decode cX6_reset 48 = .ok (.iconst 0, 1) := by decide +kernel
theorem dX6_reset_49 : decode cX6_reset 49 = .ok (.putfield 137, 3) := by decide +kernel
theorem dX6_reset_52 : decode cX6_reset 52 = .ok (.iinc 4 1, 3) := by decide +kernel
theorem dX6_reset_55 : decode cX6_reset 55 = .ok (.goto (-37), 3) := by decide +kernel
theorem dX6_reset_58 : decode cX6_reset 58 = .ok (.aload_n 0, 1) := by decide +kernel
theorem dX6_reset_59 : decode cX6_reset 59 = .ok (.getfield 10, 3) := by decide +kernel
theorem dX6_reset_62 : decode cX6_reset 62 = .ok (.getfield 62, 3) := by decide +kernel
theorem dX6_reset_65 : decode cX6_reset 65 = .ok (.astore_n 2, 1) := by decide +kernel
theorem dX6_reset_66 : decode cX6_reset 66 = .ok (.aload_n 2, 1) := by decide +kernel
theorem dX6_reset_67 : decode cX6_reset 67 = .ok (.arraylength, 1) := by decide +kernel
theorem dX6_reset_68 : decode cX6_reset 68 = .ok (.istore_n 3, 1) := by decide +kernel
theorem dX6_reset_69 : decode cX6_reset 69 = .ok (.iconst 0, 1) := by decide +kernel
theorem dX6_reset_70 : decode cX6_reset 70 = .ok (.istore 4, 2) := by decide +kernel
theorem dX6_reset_72 : decode cX6_reset 72 = .ok (.iload 4, 2) := by decide +kernel
theorem dX6_reset_74 : decode cX6_reset 74 = .ok (.iload_n 3, 1) := by decide +kernel
theorem dX6_reset_75 : decode cX6_reset 75 = .ok (.if_icmp .ge 20, 3) := by decide +kernel
theorem dX6_reset_78 : decode cX6_reset 78 = .ok (.aload_n 2, 1) := by decide +kernel
theorem dX6_reset_79 : decode cX6_reset 79 = .ok (.iload 4, 2) := by decide +kernel
theorem dX6_reset_81 : decode cX6_reset 81 = .ok (.aaload, 1) := by decide +kernel
theorem dX6_reset_82 : decode cX6_reset 82 = .ok (.astore 5, 2) := by decide +kernel
theorem dX6_reset_84 : decode cX6_reset 84 = .ok (.aload 5, 2) := by decide +kernel
theorem dX6_reset_86 : decode cX6_reset 86 = .ok (.invokevirtual 140, 3) := by decide +kernel
theorem dX6_reset_89 : decode cX6_reset 89 = .ok (.iinc 4 1, 3) := by decide +kernel
theorem dX6_reset_92 : decode cX6_reset 92 = .ok (.goto (-20), 3) := by decide +kernel
theorem dX6_reset_95 : decode cX6_reset 95 = .ok (.aload_n 0, 1) := by decide +kernel
theorem dX6_reset_96 : decode cX6_reset 96 = .ok (.getfield 25, 3) := by decide +kernel
theorem dX6_reset_99 : decode cX6_reset 99 = .ok (.astore_n 2, 1) := by decide +kernel
theorem dX6_reset_100 : decode cX6_reset 100 = .ok (.aload_n 2, 1) := by decide +kernel
theorem dX6_reset_101 : decode cX6_reset 101 = .ok (.arraylength, 1) := by decide +kernel
theorem dX6_reset_102 : decode cX6_reset 102 = .ok (.istore_n 3, 1) := by decide +kernel
theorem dX6_reset_103 : decode cX6_reset 103 = .ok (.iconst 0, 1) := by decide +kernel
theorem dX6_reset_104 : decode cX6_reset 104 = .ok (.istore 4, 2) := by decide +kernel
theorem dX6_reset_106 : decode cX6_reset 106 = .ok (.iload 4, 2) := by decide +kernel
theorem dX6_reset_108 : decode cX6_reset 108 = .ok (.iload_n 3, 1) := by decide +kernel
theorem dX6_reset_109 : decode cX6_reset 109 = .ok (.if_icmp .ge 21, 3) := by decide +kernel
theorem dX6_reset_112 : decode cX6_reset 112 = .ok (.aload_n 2, 1) := by decide +kernel
theorem dX6_reset_113 : decode cX6_reset 113 = .ok (.iload 4, 2) := by decide +kernel
theorem dX6_reset_115 : decode cX6_reset 115 = .ok (.aaload, 1) := by decide +kernel
theorem dX6_reset_116 : decode cX6_reset 116 = .ok (.astore 5, 2) := by decide +kernel
theorem dX6_reset_118 : decode cX6_reset 118 = .ok (.aload 5, 2) := by decide +kernel
theorem dX6_reset_120 : decode cX6_reset 120 = .ok (.iconst 0, 1) := by decide +kernel
theorem dX6_reset_121 : decode cX6_reset 121 = .ok (.putfield 143, 3) := by decide +kernel
theorem dX6_reset_124 : decode cX6_reset 124 = .ok (.iinc 4 1, 3) := by decide +kernel
theorem dX6_reset_127 : decode cX6_reset 127 = .ok (.goto (-21), 3) := by decide +kernel
theorem dX6_reset_130 : decode cX6_reset 130 = .ok (.aload_n 0, 1) := by decide +kernel
theorem dX6_reset_131 : decode cX6_reset 131 = .ok (.invokevirtual 107, 3) := by decide +kernel
theorem dX6_reset_134 : decode cX6_reset 134 = .ok (.aload_n 0, 1) := by decide +kernel
theorem dX6_reset_135 : decode cX6_reset 135 = .ok (.iconst 0, 1) := by decide +kernel
theorem dX6_reset_136 : decode cX6_reset 136 = .ok (.putfield 129, 3) := by decide +kernel
theorem dX6_reset_139 : decode cX6_reset 139 = .ok (.aload_n 0, 1) := by decide +kernel
theorem dX6_reset_140 : decode cX6_reset 140 = .ok (.getfield 44, 3) := by decide +kernel
theorem dX6_reset_143 : decode cX6_reset 143 = .ok (.bipush 6, 2) := by decide +kernel
theorem dX6_reset_145 : decode cX6_reset 145 = .ok (.iconst 0, 1) := by decide +kernel
theorem dX6_reset_146 : decode cX6_reset 146 = .ok (.aload_n 0, 1) := by decide +kernel
theorem dX6_reset_147 : decode cX6_reset 147 = .ok (.getfield 110, 3) := by decide +kernel
theorem dX6_reset_150 : decode cX6_reset 150 = .ok (.invokevirtual 133, 3) := by decide +kernel
theorem dX6_reset_153 : decode cX6_reset 153 = .ok (.iload_n 1, 1) := by decide +kernel
theorem dX6_reset_154 : decode cX6_reset 154 = .ok (.ireturn, 1) := by decide +kernel
set_option maxRecDepth 20000 in
theorem ggX6_off_X6_mustExist : GoodIn wsX6_off wsX6_mustExist := goodIn_ca (goodIn_r _ [11, 12, 13] (by decide +kernel) (by decide +kernel)) (goodIn_sub (fun _ h => List.mem_cons_of_mem _ (List.mem_append_left _ (List.mem_append_right _ h))) (by decide +kernel))
set_option maxRecDepth 20000 in
theorem gX6_off_X6_mustExist : GoodIn wsX6_off (va_wsS RX6 48 yX6_mustExist wsX6_mustExist) := goodIn_app (goodIn_of _ (by decide +kernel)) ggX6_off_X6_mustExist
set_option maxRecDepth 20000 in
theorem ggX6_off_X6_mustHaveEntered : GoodIn wsX6_off wsX6_mustHaveEntered := goodIn_ca (goodIn_r _ [17, 18, 19, 20, 36, 37, 38, 39, 40, 41, 42, 43, 44, 45] (by decide +kernel) (by decide +kernel)) (goodIn_sub (fun _ h => List.mem_cons_of_mem _ (List.mem_append_right _ h)) (by decide +kernel))
set_option maxRecDepth 20000 in
theorem gX6_off_X6_mustHaveEntered : GoodIn wsX6_off (wsV RX6 58 RX6 yX6_mustHaveEntered wsX6_mustHaveEntered) := goodIn_app (goodIn_of _ (by decide +kernel)) ggX6_off_X6_mustHaveEntered
set_option maxRecDepth 20000 in
theorem ggX6_off_X0_add : GoodIn wsX6_off wsX0_add := goodIn_r _ [25, 26, 27, 28, 29, 30, 31, 32, 33, 34, 35, 62, 63] (by decide +kernel) (by decide +kernel)
set_option maxRecDepth 20000 in
theorem gX6_off_X0_add : GoodIn wsX6_off (wsV RX6 133 RX0 yX0_add wsX0_add) := goodIn_app (goodIn_of _ (by decide +kernel)) ggX6_off_X0_add
theorem dX6_off_0 : decode cX6_off 0 = .ok (.iload_n 2, 1) := by decide +kernel
theorem dX6_off_1 : decode cX6_off 1 = .ok (.iload_n 1, 1) := by decide +kernel
theorem dX6_off_2 : decode cX6_off 2 = .ok (.ifCond .eq 7, 3) := by decide +kernel
theorem dX6_off_5 : decode cX6_off 5 = .ok (.iconst 4, 1) := by decide +kernel
theorem dX6_off_6 : decode cX6_off 6 = .ok (.goto 5, 3) := by decide +kernel
theorem dX6_off_9 : decode cX6_off 9 = .ok (.bipush 16, 2) := by decide +kernel
theorem dX6_off_11 : decode cX6_off 11 = .ok (.invokestatic 48, 3) := by decide +kernel
theorem dX6_off_14 : decode cX6_off 14 = .ok (.aload_n 0, 1) := by decide +kernel
theorem dX6_off_15 : decode cX6_off 15 = .ok (.iconst 2, 1) := by decide +kernel
theorem dX6_off_16 : decode cX6_off 16 = .ok (.invokevirtual 58, 3) := by decide +kernel
theorem dX6_off_19 : decode cX6_off 19 = .ok (.iload_n 1, 1) := by decide +kernel
theorem dX6_off_20 : decode cX6_off 20 = .ok (.ifCond .eq 15, 3) := by decide +kernel
theorem dX6_off_23 : decode cX6_off 23 = .ok (.aload_n 0, 1) := by decide +kernel
theorem dX6_off_24 : decode cX6_off 24 = .ok (.getfield 18, 3) := by decide +kernel
theorem dX6_off_27 : decode cX6_off 27 = .ok (.iload_n 2, 1) := by decide +kernel
theorem dX6_off_28 : decode cX6_off 28 = .ok (.aaload, 1) := by decide +kernel
theorem dX6_off_29 : decode cX6_off 29 = .ok (.getfield 146, 3) := by decide +kernel
theorem dX6_off_32 : decode cX6_off 32 = .ok (.goto 15, 3) := by decide +kernel
theorem dX6_off_35 : decode cX6_off 35 = .ok (.aload_n 0, 1) := by decide +kernel
theorem dX6_off_36 : decode cX6_off 36 = .ok (.getfield 10, 3) := by decide +kernel
theorem dX6_off_39 : decode cX6_off 39 = .ok (.getfield 62, 3) := by decide +kernel
theorem dX6_off_42 : decode cX6_off 42 = .ok (.iload_n 2, 1) := by decide +kernel
theorem dX6_off_43 : decode cX6_off 43 = .ok (.aaload, 1) := by decide +kernel
theorem dX6_off_44 : decode cX6_off 44 = .ok (.getfield 149, 3) := by decide +kernel
theorem dX6_off_47 : decode cX6_off 47 = .ok (.istore 4, 2) := by decide +kernel
theorem dX6_off_49 : decode cX6_off 49 = .ok (.iload 4, 2) := by decide +kernel
theorem dX6_off_51 : decode cX6_off 51 = .ok (.iload_n 3, 1) := by decide +kernel
theorem dX6_off_52 : decode cX6_off 52 = .ok (.if_icmp .ne 5, 3) := by decide +kernel
theorem dX6_off_55 : decode cX6_off 55 = .ok (.iconst 0, 1) := by decide +kernel
theorem dX6_off_56 : decode cX6_off 56 = .ok (.ireturn, 1) := by decide +kernel
theorem dX6_off_57 : decode cX6_off 57 = .ok (.iload_n 1, 1) := by decide +kernel
theorem dX6_off_58 : decode cX6_off 58 = .ok (.ifCond .eq 16, 3) := by decide +kernel
theorem dX6_off_61 : decode cX6_off 61 = .ok (.aload_n 0, 1) := by decide +kernel
theorem dX6_off_62 : decode cX6_off 62 = .ok (.getfield 18, 3) := by decide +kernel
theorem dX6_off_65 : decode cX6_off 65 = .ok (.iload_n 2, 1) := by decide +kernel
theorem dX6_off_66 : decode cX6_off 66 = .ok (.aaload, 1) := by decide +kernel
theorem dX6_off_67 : decode cX6_off 67 = .ok (.iload_n 3, 1) := by decide +kernel
theorem dX6_off_68 : decode cX6_off 68 = .ok (.putfield 146, 3) := by decide +kernel
theorem dX6_off_71 : decode cX6_off 71 = .ok (.goto 16, 3) := by decide +kernel
theorem dX6_off_74 : decode cX6_off 74 = .ok (.aload_n 0, 1) := by decide +kernel
theorem dX6_off_75 : decode cX6_off 75 = .ok (.getfield 10, 3) := by decide +kernel
theorem dX6_off_78 : decode cX6_off 78 = .ok (.getfield 62, 3) := by decide +kernel
theorem dX6_off_81 : decode cX6_off 81 = .ok (.iload_n 2, 1) := by decide +kernel
theorem dX6_off_82 : decode cX6_off 82 = .ok (.aaload, 1) := by decide +kernel
theorem dX6_off_83 : decode cX6_off 83 = .ok (.iload_n 3, 1) := by decide +kernel
theorem dX6_off_84 : decode cX6_off 84 = .ok (.putfield 149, 3) := by decide +kernel
theorem dX6_off_87 : decode cX6_off 87 = .ok (.aload_n 0, 1) := by decide +kernel
theorem dX6_off_88 : decode cX6_off 88 = .ok (.getfield 44, 3) := by decide +kernel
theorem dX6_off_91 : decode cX6_off 91 = .ok (.bipush 7, 2) := by decide +kernel
theorem dX6_off_93 : decode cX6_off 93 = .ok (.iload_n 1, 1) := by decide +kernel
theorem dX6_off_94 : decode cX6_off 94 = .ok (.ifCond .eq 7, 3) := by decide +kernel
theorem dX6_off_97 : decode cX6_off 97 = .ok (.iload_n 2, 1) := by decide +kernel
theorem dX6_off_98 : decode cX6_off 98 = .ok (.goto 7, 3) := by decide +kernel
theorem dX6_off_101 : decode cX6_off 101 = .ok (.bipush 10, 2) := by decide +kernel
theorem dX6_off_103 : decode cX6_off 103 = .ok (.iload_n 2, 1) := by decide +kernel
theorem dX6_off_104 : decode cX6_off 104 = .ok (.iadd, 1) := by decide +kernel
theorem dX6_off_105 : decode cX6_off 105 = .ok (.aload_n 0, 1) := by decide +kernel
theorem dX6_off_106 : decode cX6_off 106 = .ok (.getfield 110, 3) := by decide +kernel
theorem dX6_off_109 : decode cX6_off 109 = .ok (.invokevirtual 133, 3) := by decide +kernel
theorem dX6_off_112 : decode cX6_off 112 = .ok (.iconst 1, 1) := by decide +kernel
theorem dX6_off_113 : decode cX6_off 113 = .ok (.ireturn, 1) := by decide +kernel
set_option maxRecDepth 20000 in
theorem ggX6_level_X6_mustExist : GoodIn wsX6_level wsX6_mustExist := goodIn_ca (goodIn_r _ [7, 8, 9] (by decide +kernel) (by decide +kernel)) (goodIn_sub (fun _ h => List.mem_cons_of_mem _ (List.mem_append_right _ h)) (by decide +kernel))
set_option maxRecDepth 20000 in
theorem gX6_level_X6_mustExist : GoodIn wsX6_level (va_wsS RX6 48 yX6_mustExist wsX6_mustExist) := goodIn_app (goodIn_of _ (by decide +kernel)) ggX6_level_X6_mustExist
theorem dX6_level_0 : decode cX6_level 0 = .ok (.iload_n 1, 1) := by decide +kernel
theorem dX6_level_1 : decode cX6_level 1 = .ok (.bipush 16, 2) := by decide +kernel
theorem dX6_level_3 : decode cX6_level 3 = .ok (.invokestatic 48, 3) := by decide +kernel
theorem dX6_level_6 : decode cX6_level 6 = .ok (.aload_n 0, 1) := by decide +kernel
theorem dX6_level_7 : decode cX6_level 7 = .ok (.getfield 10, 3) := by decide +kernel
theorem dX6_level_10 : decode cX6_level 10 = .ok (.getfield 62, 3) := by decide +kernel
theorem dX6_level_13 : decode cX6_level 13 = .ok (.iload_n 1, 1) := by decide +kernel
theorem dX6_level_14 : decode cX6_level 14 = .ok (.aaload, 1) := by decide +kernel
theorem dX6_level_15 : decode cX6_level 15 = .ok (.getfield 150, 3) := by decide +kernel
theorem dX6_level_18 : decode cX6_level 18 = .ok (.freturn, 1) := by decide +kernel
set_option maxRecDepth 20000 in
theorem ggX6_base_X6_mustExist : GoodIn wsX6_base wsX6_mustExist := goodIn_ca (goodIn_r _ [7, 8, 9] (by decide +kernel) (by decide +kernel)) (goodIn_sub (fun _ h => List.mem_cons_of_mem _ (List.mem_append_right _ h)) (by decide +kernel))
set_option maxRecDepth 20000 in
theorem gX6_base_X6_mustExist : GoodIn wsX6_base (va_wsS RX6 48 yX6_mustExist wsX6_mustExist) := goodIn_app (goodIn_of _ (by decide +kernel)) ggX6_base_X6_mustExist
theorem dX6_base_0 : decode cX6_base 0 = .ok (.iload_n 1, 1) := by decide +kernel
theorem dX6_base_1 : decode cX6_base 1 = .ok (.bipush 16, 2) := by decide +kernel
theorem dX6_base_3 : decode cX6_base 3 = .ok (.invokestatic 48, 3) := by decide +kernel
theorem dX6_base_6 : decode cX6_base 6 = .ok (.aload_n 0, 1) := by decide +kernel
theorem dX6_base_7 : decode cX6_base 7 = .ok (.getfield 10, 3) := by decide +kernel
theorem dX6_base_10 : decode cX6_base 10 = .ok (.getfield 62, 3) := by decide +kernel
theorem dX6_base_13 : decode cX6_base 13 = .ok (.iload_n 1, 1) := by decide +kernel
theorem dX6_base_14 : decode cX6_base 14 = .ok (.aaload, 1) := by decide +kernel
theorem dX6_base_15 : decode cX6_base 15 = .ok (.getfield 153, 3) := by decide +kernel
theorem dX6_base_18 : decode cX6_base 18 = .ok (.freturn, 1) := by decide +kernel
set_option maxRecDepth 20000 in
theorem ggX6_place_X6_mustExist : GoodIn wsX6_place wsX6_mustExist := goodIn_ca (goodIn_r _ [10, 11, 12] (by decide +kernel) (by decide +kernel)) (goodIn_sub (fun _ h => List.mem_cons_of_mem _ (List.mem_append_right _ h)) (by decide +kernel))
set_option maxRecDepth 20000 in
theorem gX6_place_X6_mustExist : GoodIn wsX6_place (va_wsS RX6 48 yX6_mustExist wsX6_mustExist) := goodIn_app (goodIn_of _ (by decide +kernel)) ggX6_place_X6_mustExist
set_option maxRecDepth 20000 in
theorem ggX6_place_X3_reachedPlaces : GoodIn wsX6_place wsX3_reachedPlaces := goodIn_r _ [17, 18, 19, 20, 16, 21, 22, 23, 24, 25, 26, 27, 28, 39, 40, 41, 42, 43, 44, 45, 46, 47, 48, 49, 50, 51] (by decide +kernel) (by decide +kernel)
set_option maxRecDepth 20000 in
theorem gX6_place_X3_reachedPlaces : GoodIn wsX6_place (wsV RX6 156 RX3 yX3_reachedPlaces wsX3_reachedPlaces) := goodIn_app (goodIn_of _ (by decide +kernel)) ggX6_place_X3_reachedPlaces
theorem dX6_place_0 : decode cX6_place 0 = .ok (.iload_n 1, 1) := by decide +kernel
theorem dX6_place_1 : decode cX6_place 1 = .ok (.bipush 16, 2) := by decide +kernel
theorem dX6_place_3 : decode cX6_place 3 = .ok (.invokestatic 48, 3) := by decide +kernel
theorem dX6_place_6 : decode cX6_place 6 = .ok (.aload_n 0, 1) := by decide +kernel
theorem dX6_place_7 : decode cX6_place 7 = .ok (.getfield 10, 3) := by decide +kernel
theorem dX6_place_10 : decode cX6_place 10 = .ok (.getfield 62, 3) := by decide +kernel
theorem dX6_place_13 : decode cX6_place 13 = .ok (.iload_n 1, 1) := by decide +kernel
theorem dX6_place_14 : decode cX6_place 14 = .ok (.aaload, 1) := by decide +kernel
theorem dX6_place_15 : decode cX6_place 15 = .ok (.astore_n 2, 1) := by decide +kernel
theorem dX6_place_16 : decode cX6_place 16 = .ok (.aload_n 0, 1) := by decide +kernel
theorem dX6_place_17 : decode cX6_place 17 = .ok (.getfield 10, 3) := by decide +kernel
theorem dX6_place_20 : decode cX6_place 20 = .ok (.invokevirtual 156, 3) := by decide +kernel
theorem dX6_place_23 : decode cX6_place 23 = .ok (.iload_n 1, 1) := by decide +kernel
theorem dX6_place_24 : decode cX6_place 24 = .ok (.ishr, 1) := by decide +kernel
theorem dX6_place_25 : decode cX6_place 25 = .ok (.iconst 1, 1) := by decide +kernel
theorem dX6_place_26 : decode cX6_place 26 = .ok (.iand, 1) := by decide +kernel
theorem dX6_place_27 : decode cX6_place 27 = .ok (.istore_n 3, 1) := by decide +kernel
theorem dX6_place_28 : decode cX6_place 28 = .ok (.iload_n 3, 1) := by decide +kernel
theorem dX6_place_29 : decode cX6_place 29 = .ok (.aload_n 2, 1) := by decide +kernel
theorem dX6_place_30 : decode cX6_place 30 = .ok (.getfield 159, 3) := by decide +kernel
theorem dX6_place_33 : decode cX6_place 33 = .ok (.ifCond .eq 7, 3) := by decide +kernel
theorem dX6_place_36 : decode cX6_place 36 = .ok (.iconst 2, 1) := by decide +kernel
theorem dX6_place_37 : decode cX6_place 37 = .ok (.goto 4, 3) := by decide +kernel
theorem dX6_place_40 : decode cX6_place 40 = .ok (.iconst 0, 1) := by decide +kernel
theorem dX6_place_41 : decode cX6_place 41 = .ok (.iadd, 1) := by decide +kernel
theorem dX6_place_42 : decode cX6_place 42 = .ok (.aload_n 2, 1) := by decide +kernel
theorem dX6_place_43 : decode cX6_place 43 = .ok (.getfield 162, 3) := by decide +kernel
theorem dX6_place_46 : decode cX6_place 46 = .ok (.ifCond .eq 7, 3) := by decide +kernel
theorem dX6_place_49 : decode cX6_place 49 = .ok (.iconst 4, 1) := by decide +kernel
theorem dX6_place_50 : decode cX6_place 50 = .ok (.goto 4, 3) := by decide +kernel
theorem dX6_place_53 : decode cX6_place 53 = .ok (.iconst 0, 1) := by decide +kernel
theorem dX6_place_54 : decode cX6_place 54 = .ok (.iadd, 1) := by decide +kernel
theorem dX6_place_55 : decode cX6_place 55 = .ok (.aload_n 2, 1) := by decide +kernel
theorem dX6_place_56 : decode cX6_place 56 = .ok (.getfield 149, 3) := by decide +kernel
theorem dX6_place_59 : decode cX6_place 59 = .ok (.ifCond .eq 8, 3) := by decide +kernel
theorem dX6_place_62 : decode cX6_place 62 = .ok (.bipush 8, 2) := by decide +kernel
theorem dX6_place_64 : decode cX6_place 64 = .ok (.goto 4, 3) := by decide +kernel
theorem dX6_place_67 : decode cX6_place 67 = .ok (.iconst 0, 1) := by decide +kernel
theorem dX6_place_68 : decode cX6_place 68 = .ok (.iadd, 1) := by decide +kernel
theorem dX6_place_69 : decode cX6_place 69 = .ok (.bipush 16, 2) := by decide +kernel
theorem dX6_place_71 : decode cX6_place 71 = .ok (.aload_n 2, 1) := by decide +kernel
theorem dX6_place_72 : decode cX6_place 72 = .ok (.getfield 165, 3) := by decide +kernel
theorem dX6_place_75 : decode cX6_place 75 = .ok (.imul, 1) := by decide +kernel
theorem dX6_place_76 : decode cX6_place 76 = .ok (.iadd, 1) := by decide +kernel
theorem dX6_place_77 : decode cX6_place 77 = .ok (.ireturn, 1) := by decide +kernel
set_option maxRecDepth 20000 in
theorem ggX6_zone_X6_mustExist : GoodIn wsX6_zone wsX6_mustExist := goodIn_ca (goodIn_r _ [7, 8, 9] (by decide +kernel) (by decide +kernel)) (goodIn_sub (fun _ h => List.mem_cons_of_mem _ (List.mem_append_right _ h)) (by decide +kernel))
set_option maxRecDepth 20000 in
theorem gX6_zone_X6_mustExist : GoodIn wsX6_zone (va_wsS RX6 48 yX6_mustExist wsX6_mustExist) := goodIn_app (goodIn_of _ (by decide +kernel)) ggX6_zone_X6_mustExist
set_option maxRecDepth 20000 in
theorem ggX6_zone_X6_hasWarning : GoodIn wsX6_zone wsX6_hasWarning := goodIn_r _ [13, 14, 15, 16, 17, 18, 19, 20, 21, 22, 23, 24, 25, 26, 27, 28, 29, 30, 31, 32, 33, 34, 35, 36, 37, 38, 39, 40, 41, 42, 43, 44, 45, 49, 50, 51, 52, 53, 54, 55, 56, 57, 58, 59, 60, 61] (by decide +kernel) (by decide +kernel)
set_option maxRecDepth 20000 in
theorem gX6_zone_X6_hasWarning : GoodIn wsX6_zone (wsV RX6 168 RX6 yX6_hasWarning wsX6_hasWarning) := goodIn_app (goodIn_of _ (by decide +kernel)) ggX6_zone_X6_hasWarning
theorem dX6_zone_0 : decode cX6_zone 0 = .ok (.iload_n 1, 1) := by decide +kernel
theorem dX6_zone_1 : decode cX6_zone 1 = .ok (.iconst 4, 1) := by decide +kernel
theorem dX6_zone_2 : decode cX6_zone 2 = .ok (.invokestatic 48, 3) := by decide +kernel
theorem dX6_zone_5 : decode cX6_zone 5 = .ok (.aload_n 0, 1) := by decide +kernel
theorem dX6_zone_6 : decode cX6_zone 6 = .ok (.getfield 18, 3) := by decide +kernel
theorem dX6_zone_9 : decode cX6_zone 9 = .ok (.iload_n 1, 1) := by decide +kernel
theorem dX6_zone_10 : decode cX6_zone 10 = .ok (.aaload, 1) := by decide +kernel
theorem dX6_zone_11 : decode cX6_zone 11 = .ok (.astore_n 2, 1) := by decide +kernel
theorem dX6_zone_12 : decode cX6_zone 12 = .ok (.aload_n 2, 1) := by decide +kernel
theorem dX6_zone_13 : decode cX6_zone 13 = .ok (.getfield 137, 3) := by decide +kernel
theorem dX6_zone_16 : decode cX6_zone 16 = .ok (.ifCond .eq 7, 3) := by decide +kernel
theorem dX6_zone_19 : decode cX6_zone 19 = .ok (.iconst 1, 1) := by decide +kernel
theorem dX6_zone_20 : decode cX6_zone 20 = .ok (.goto 4, 3) := by decide +kernel
theorem dX6_zone_23 : decode cX6_zone 23 = .ok (.iconst 0, 1) := by decide +kernel
theorem dX6_zone_24 : decode cX6_zone 24 = .ok (.aload_n 0, 1) := by decide +kernel
theorem dX6_zone_25 : decode cX6_zone 25 = .ok (.iload_n 1, 1) := by decide +kernel
theorem dX6_zone_26 : decode cX6_zone 26 = .ok (.invokevirtual 168, 3) := by decide +kernel
theorem dX6_zone_29 : decode cX6_zone 29 = .ok (.ifCond .eq 7, 3) := by decide +kernel
theorem dX6_zone_32 : decode cX6_zone 32 = .ok (.iconst 2, 1) := by decide +kernel
theorem dX6_zone_33 : decode cX6_zone 33 = .ok (.goto 4, 3) := by decide +kernel
theorem dX6_zone_36 : decode cX6_zone 36 = .ok (.iconst 0, 1) := by decide +kernel
theorem dX6_zone_37 : decode cX6_zone 37 = .ok (.iadd, 1) := by decide +kernel
theorem dX6_zone_38 : decode cX6_zone 38 = .ok (.aload_n 2, 1) := by decide +kernel
theorem dX6_zone_39 : decode cX6_zone 39 = .ok (.getfield 146, 3) := by decide +kernel
theorem dX6_zone_42 : decode cX6_zone 42 = .ok (.ifCond .eq 7, 3) := by decide +kernel
theorem dX6_zone_45 : decode cX6_zone 45 = .ok (.iconst 4, 1) := by decide +kernel
theorem dX6_zone_46 : decode cX6_zone 46 = .ok (.goto 4, 3) := by decide +kernel
theorem dX6_zone_49 : decode cX6_zone 49 = .ok (.iconst 0, 1) := by decide +kernel
theorem dX6_zone_50 : decode cX6_zone 50 = .ok (.iadd, 1) := by decide +kernel
theorem dX6_zone_51 : decode cX6_zone 51 = .ok (.ireturn, 1) := by decide +kernel
set_option maxRecDepth 20000 in
theorem ggX6_output_X6_mustExist : GoodIn wsX6_output wsX6_mustExist := goodIn_ca (goodIn_r _ [6, 7, 8] (by decide +kernel) (by decide +kernel)) (goodIn_sub (fun _ h => List.mem_cons_of_mem _ (List.mem_append_right _ h)) (by decide +kernel))
set_option maxRecDepth 20000 in
theorem gX6_output_X6_mustExist : GoodIn wsX6_output (va_wsS RX6 48 yX6_mustExist wsX6_mustExist) := goodIn_app (goodIn_of _ (by decide +kernel)) ggX6_output_X6_mustExist
theorem dX6_output_0 : decode cX6_output 0 = .ok (.iload_n 1, 1) := by decide +kernel
theorem dX6_output_1 : decode cX6_output 1 = .ok (.bipush 6, 2) := by decide +kernel
theorem dX6_output_3 : decode cX6_output 3 = .ok (.invokestatic 48, 3) := by decide +kernel
theorem dX6_output_6 : decode cX6_output 6 = .ok (.aload_n 0, 1) := by decide +kernel
theorem dX6_output_7 : decode cX6_output 7 = .ok (.getfield 30, 3) := by decide +kernel
theorem dX6_output_10 : decode cX6_output 10 = .ok (.iload_n 1, 1) := by decide +kernel
theorem dX6_output_11 : decode cX6_output 11 = .ok (.baload, 1) := by decide +kernel
theorem dX6_output_12 : decode cX6_output 12 = .ok (.ifCond .ne 5, 3) := by decide +kernel
theorem dX6_output_15 : decode cX6_output 15 = .ok (.iconst 0, 1) := by decide +kernel
theorem dX6_output_16 : decode cX6_output 16 = .ok (.ireturn, 1) := by decide +kernel
theorem dX6_output_17 : decode cX6_output 17 = .ok (.aload_n 0, 1) := by decide +kernel
theorem dX6_output_18 : decode cX6_output 18 = .ok (.getfield 129, 3) := by decide +kernel
theorem dX6_output_21 : decode cX6_output 21 = .ok (.ifCond .eq 12, 3) := by decide +kernel
theorem dX6_output_24 : decode cX6_output 24 = .ok (.iload_n 1, 1) := by decide +kernel
theorem dX6_output_25 : decode cX6_output 25 = .ok (.iconst 3, 1) := by decide +kernel
theorem dX6_output_26 : decode cX6_output 26 = .ok (.if_icmp .ge 7, 3) := by decide +kernel
theorem dX6_output_29 : decode cX6_output 29 = .ok (.iconst 1, 1) := by decide +kernel
theorem dX6_output_30 : decode cX6_output 30 = .ok (.goto 4, 3) := by decide +kernel
theorem dX6_output_33 : decode cX6_output 33 = .ok (.iconst 0, 1) := by decide +kernel
theorem dX6_output_34 : decode cX6_output 34 = .ok (.istore_n 2, 1) := by decide +kernel
theorem dX6_output_35 : decode cX6_output 35 = .ok (.iload_n 2, 1) := by decide +kernel
theorem dX6_output_36 : decode cX6_output 36 = .ok (.ifCond .eq 7, 3) := by decide +kernel
theorem dX6_output_39 : decode cX6_output 39 = .ok (.iconst 1, 1) := by decide +kernel
theorem dX6_output_40 : decode cX6_output 40 = .ok (.goto 4, 3) := by decide +kernel
theorem dX6_output_43 : decode cX6_output 43 = .ok (.iconst 3, 1) := by decide +kernel
theorem dX6_output_44 : decode cX6_output 44 = .ok (.ireturn, 1) := by decide +kernel
set_option maxRecDepth 20000 in
theorem ggX6_held_X6_mustExist : GoodIn wsX6_held wsX6_mustExist := goodIn_ca (goodIn_r _ [11, 12, 13] (by decide +kernel) (by decide +kernel)) (goodIn_sub (fun _ h => List.mem_cons_of_mem _ (List.mem_append_right _ h)) (by decide +kernel))
set_option maxRecDepth 20000 in
theorem gX6_held_X6_mustExist : GoodIn wsX6_held (va_wsS RX6 48 yX6_mustExist wsX6_mustExist) := goodIn_app (goodIn_of _ (by decide +kernel)) ggX6_held_X6_mustExist
theorem dX6_held_0 : decode cX6_held 0 = .ok (.iload_n 1, 1) := by decide +kernel
theorem dX6_held_1 : decode cX6_held 1 = .ok (.aload_n 0, 1) := by decide +kernel
theorem dX6_held_2 : decode cX6_held 2 = .ok (.getfield 90, 3) := by decide +kernel
theorem dX6_held_5 : decode cX6_held 5 = .ok (.bipush 6, 2) := by decide +kernel
theorem dX6_held_7 : decode cX6_held 7 = .ok (.invokestatic 172, 3) := by decide +kernel
theorem dX6_held_10 : decode cX6_held 10 = .ok (.invokestatic 48, 3) := by decide +kernel
theorem dX6_held_13 : decode cX6_held 13 = .ok (.aload_n 0, 1) := by decide +kernel
theorem dX6_held_14 : decode cX6_held 14 = .ok (.getfield 25, 3) := by decide +kernel
theorem dX6_held_17 : decode cX6_held 17 = .ok (.iload_n 1, 1) := by decide +kernel
theorem dX6_held_18 : decode cX6_held 18 = .ok (.aaload, 1) := by decide +kernel
theorem dX6_held_19 : decode cX6_held 19 = .ok (.getfield 143, 3) := by decide +kernel
theorem dX6_held_22 : decode cX6_held 22 = .ok (.ireturn, 1) := by decide +kernel
set_option maxRecDepth 20000 in
theorem ggX6_log_X6_mustBeAllowed : GoodIn wsX6_log wsX6_mustBeAllowed := goodIn_ca (goodIn_r _ [11, 12, 13] (by decide +kernel) (by decide +kernel)) (goodIn_sub (fun _ h => List.mem_cons_of_mem _ (List.mem_append_right _ h)) (by decide +kernel))
set_option maxRecDepth 20000 in
theorem gX6_log_X6_mustBeAllowed : GoodIn wsX6_log (va_wsS RX6 52 yX6_mustBeAllowed wsX6_mustBeAllowed) := goodIn_app (goodIn_of _ (by decide +kernel)) ggX6_log_X6_mustBeAllowed
theorem dX6_log_0 : decode cX6_log 0 = .ok (.iload_n 1, 1) := by decide +kernel
theorem dX6_log_1 : decode cX6_log 1 = .ok (.ifCond .lt 23, 3) := by decide +kernel
theorem dX6_log_4 : decode cX6_log 4 = .ok (.iload_n 1, 1) := by decide +kernel
theorem dX6_log_5 : decode cX6_log 5 = .ok (.aload_n 0, 1) := by decide +kernel
theorem dX6_log_6 : decode cX6_log 6 = .ok (.getfield 44, 3) := by decide +kernel
theorem dX6_log_9 : decode cX6_log 9 = .ok (.getfield 178, 3) := by decide +kernel
theorem dX6_log_12 : decode cX6_log 12 = .ok (.bipush 16, 2) := by decide +kernel
theorem dX6_log_14 : decode cX6_log 14 = .ok (.invokestatic 172, 3) := by decide +kernel
theorem dX6_log_17 : decode cX6_log 17 = .ok (.if_icmp .ge 7, 3) := by decide +kernel
theorem dX6_log_20 : decode cX6_log 20 = .ok (.iconst 1, 1) := by decide +kernel
theorem dX6_log_21 : decode cX6_log 21 = .ok (.goto 4, 3) := by decide +kernel
theorem dX6_log_24 : decode cX6_log 24 = .ok (.iconst 0, 1) := by decide +kernel
theorem dX6_log_25 : decode cX6_log 25 = .ok (.invokestatic 52, 3) := by decide +kernel
theorem dX6_log_28 : decode cX6_log 28 = .ok (.iload_n 2, 1) := by decide +kernel
theorem dX6_log_29 : decode cX6_log 29 = .ok (.ifCond .lt 12, 3) := by decide +kernel
theorem dX6_log_32 : decode cX6_log 32 = .ok (.iload_n 2, 1) := by decide +kernel
theorem dX6_log_33 : decode cX6_log 33 = .ok (.iconst 3, 1) := by decide +kernel
theorem dX6_log_34 : decode cX6_log 34 = .ok (.if_icmp .ge 7, 3) := by decide +kernel
theorem dX6_log_37 : decode cX6_log 37 = .ok (.iconst 1, 1) := by decide +kernel
theorem dX6_log_38 : decode cX6_log 38 = .ok (.goto 4, 3) := by decide +kernel
theorem dX6_log_41 : decode cX6_log 41 = .ok (.iconst 0, 1) := by decide +kernel
theorem dX6_log_42 : decode cX6_log 42 = .ok (.invokestatic 52, 3) := by decide +kernel
theorem dX6_log_45 : decode cX6_log 45 = .ok (.aload_n 0, 1) := by decide +kernel
theorem dX6_log_46 : decode cX6_log 46 = .ok (.getfield 44, 3) := by decide +kernel
theorem dX6_log_49 : decode cX6_log 49 = .ok (.getfield 181, 3) := by decide +kernel
theorem dX6_log_52 : decode cX6_log 52 = .ok (.iload_n 1, 1) := by decide +kernel
theorem dX6_log_53 : decode cX6_log 53 = .ok (.iconst 3, 1) := by decide +kernel
theorem dX6_log_54 : decode cX6_log 54 = .ok (.imul, 1) := by decide +kernel
theorem dX6_log_55 : decode cX6_log 55 = .ok (.iload_n 2, 1) := by decide +kernel
theorem dX6_log_56 : decode cX6_log 56 = .ok (.iadd, 1) := by decide +kernel
theorem dX6_log_57 : decode cX6_log 57 = .ok (.iaload, 1) := by decide +kernel
theorem dX6_log_58 : decode cX6_log 58 = .ok (.ireturn, 1) := by decide +kernel
set_option maxRecDepth 20000 in
theorem ggX6_count_X6_faults : GoodIn wsX6_count wsX6_faults := goodIn_r _ [13, 14, 15, 16, 17, 18, 19, 20, 21, 22, 23, 24, 25, 26, 30, 31, 32, 33, 34, 35, 36, 37, 38, 39, 40, 41, 42] (by decide +kernel) (by decide +kernel)
set_option maxRecDepth 20000 in
theorem gX6_count_X6_faults : GoodIn wsX6_count (wsV RX6 184 RX6 yX6_faults wsX6_faults) := goodIn_app (goodIn_of _ (by decide +kernel)) ggX6_count_X6_faults
theorem dX6_count_0 : decode cX6_count 0 = .ok (.iload_n 1, 1) := by decide +kernel
theorem dX6_count_1 : decode cX6_count 1 = .ok (.tableswitch 80 0 5 #[39, 44, 49, 54, 67, 75], 39) := by decide +kernel
theorem dX6_count_40 : decode cX6_count 40 = .ok (.aload_n 0, 1) := by decide +kernel
theorem dX6_count_41 : decode cX6_count 41 = .ok (.getfield 110, 3) := by decide +kernel
theorem dX6_count_44 : decode cX6_count 44 = .ok (.ireturn, 1) := by decide +kernel
theorem dX6_count_45 : decode cX6_count 45 = .ok (.aload_n 0, 1) := by decide +kernel
theorem dX6_count_46 : decode cX6_count 46 = .ok (.getfield 90, 3) := by decide +kernel
theorem dX6_count_49 : decode cX6_count 49 = .ok (.ireturn, 1) := by decide +kernel
theorem dX6_count_50 : decode cX6_count 50 = .ok (.aload_n 0, 1) := by decide +kernel
theorem dX6_count_51 : decode cX6_count 51 = .ok (.getfield 126, 3) := by decide +kernel
theorem dX6_count_54 : decode cX6_count 54 = .ok (.ireturn, 1) := by decide +kernel
theorem dX6_count_55 : decode cX6_count 55 = .ok (.aload_n 0, 1) := by decide +kernel
theorem dX6_count_56 : decode cX6_count 56 = .ok (.getfield 129, 3) := by decide +kernel
theorem dX6_count_59 : decode cX6_count 59 = .ok (.ifCond .eq 7, 3) := by decide +kernel
theorem dX6_count_62 : decode cX6_count 62 = .ok (.iconst 1, 1) := by decide +kernel
theorem dX6_count_63 : decode cX6_count 63 = .ok (.goto 4, 3) := by decide +kernel
theorem dX6_count_66 : decode cX6_count 66 = .ok (.iconst 0, 1) := by decide +kernel
theorem dX6_count_67 : decode cX6_count 67 = .ok (.ireturn, 1) := by decide +kernel
theorem dX6_count_68 : decode cX6_count 68 = .ok (.aload_n 0, 1) := by decide +kernel
theorem dX6_count_69 : decode cX6_count 69 = .ok (.getfield 37, 3) := by decide +kernel
theorem dX6_count_72 : decode cX6_count 72 = .ok (.getfield 104, 3) := by decide +kernel
theorem dX6_count_75 : decode cX6_count 75 = .ok (.ireturn, 1) := by decide +kernel
theorem dX6_count_76 : decode cX6_count 76 = .ok (.aload_n 0, 1) := by decide +kernel
theorem dX6_count_77 : decode cX6_count 77 = .ok (.invokevirtual 184, 3) := by decide +kernel
theorem dX6_count_80 : decode cX6_count 80 = .ok (.ireturn, 1) := by decide +kernel
theorem dX6_count_81 : decode cX6_count 81 = .ok (.new 187, 3) := by decide +kernel
theorem dX6_count_84 : decode cX6_count 84 = .ok (.dup, 1) := by decide +kernel
theorem dX6_count_85 : decode cX6_count 85 = .ok (.ldc 189, 2) := by decide +kernel
theorem dX6_count_87 : decode cX6_count 87 = .ok (.invokespecial 191, 3) := by decide +kernel
theorem dX6_count_90 : decode cX6_count 90 = .ok (.athrow, 1) := by decide +kernel
theorem dX6_mustExist_0 : decode cX6_mustExist 0 = .ok (.iload_n 0, 1) := by decide +kernel
theorem dX6_mustExist_1 : decode cX6_mustExist 1 = .ok (.ifCond .lt 8, 3) := by decide +kernel
theorem dX6_mustExist_4 : decode cX6_mustExist 4 = .ok (.iload_n 0, 1) := by decide +kernel
theorem dX6_mustExist_5 : decode cX6_mustExist 5 = .ok (.iload_n 1, 1) := by decide +kernel
theorem dX6_mustExist_6 : decode cX6_mustExist 6 = .ok (.if_icmp .lt 13, 3) := by decide +kernel
theorem dX6_mustExist_9 : decode cX6_mustExist 9 = .ok (.new 192, 3) := by decide +kernel
theorem dX6_mustExist_12 : decode cX6_mustExist 12 = .ok (.dup, 1) := by decide +kernel
theorem dX6_mustExist_13 : decode cX6_mustExist 13 = .ok (.ldc 194, 2) := by decide +kernel
theorem dX6_mustExist_15 : decode cX6_mustExist 15 = .ok (.invokespecial 196, 3) := by decide +kernel
theorem dX6_mustExist_18 : decode cX6_mustExist 18 = .ok (.athrow, 1) := by decide +kernel
theorem dX6_mustExist_19 : decode cX6_mustExist 19 = .ok (.return_, 1) := by decide +kernel
theorem dX6_mustBeAllowed_0 : decode cX6_mustBeAllowed 0 = .ok (.iload_n 0, 1) := by decide +kernel
theorem dX6_mustBeAllowed_1 : decode cX6_mustBeAllowed 1 = .ok (.ifCond .ne 13, 3) := by decide +kernel
theorem dX6_mustBeAllowed_4 : decode cX6_mustBeAllowed 4 = .ok (.new 187, 3) := by decide +kernel
theorem dX6_mustBeAllowed_7 : decode cX6_mustBeAllowed 7 = .ok (.dup, 1) := by decide +kernel
theorem dX6_mustBeAllowed_8 : decode cX6_mustBeAllowed 8 = .ok (.ldc 197, 2) := by decide +kernel
theorem dX6_mustBeAllowed_10 : decode cX6_mustBeAllowed 10 = .ok (.invokespecial 191, 3) := by decide +kernel
theorem dX6_mustBeAllowed_13 : decode cX6_mustBeAllowed 13 = .ok (.athrow, 1) := by decide +kernel
theorem dX6_mustBeAllowed_14 : decode cX6_mustBeAllowed 14 = .ok (.return_, 1) := by decide +kernel
theorem dX6_mustHaveEntered_0 : decode cX6_mustHaveEntered 0 = .ok (.aload_n 0, 1) := by decide +kernel
theorem dX6_mustHaveEntered_1 : decode cX6_mustHaveEntered 1 = .ok (.getfield 126, 3) := by decide +kernel
theorem dX6_mustHaveEntered_4 : decode cX6_mustHaveEntered 4 = .ok (.iload_n 1, 1) := by decide +kernel
theorem dX6_mustHaveEntered_5 : decode cX6_mustHaveEntered 5 = .ok (.if_icmp .ge 13, 3) := by decide +kernel
theorem dX6_mustHaveEntered_8 : decode cX6_mustHaveEntered 8 = .ok (.new 93, 3) := by decide +kernel
theorem dX6_mustHaveEntered_11 : decode cX6_mustHaveEntered 11 = .ok (.dup, 1) := by decide +kernel
theorem dX6_mustHaveEntered_12 : decode cX6_mustHaveEntered 12 = .ok (.ldc 199, 2) := by decide +kernel
theorem dX6_mustHaveEntered_14 : decode cX6_mustHaveEntered 14 = .ok (.invokespecial 97, 3) := by decide +kernel
theorem dX6_mustHaveEntered_17 : decode cX6_mustHaveEntered 17 = .ok (.athrow, 1) := by decide +kernel
theorem dX6_mustHaveEntered_18 : decode cX6_mustHaveEntered 18 = .ok (.return_, 1) := by decide +kernel
set_option maxRecDepth 20000 in
theorem ggX6_askPlaces_X3_reachedPlaces : GoodIn wsX6_askPlaces wsX3_reachedPlaces := goodIn_r _ [7, 8, 9, 10, 6, 11, 12, 13, 14, 15, 16, 17, 18, 94, 95, 96, 97, 98, 99, 100, 101, 102, 103, 104, 105, 106] (by decide +kernel) (by decide +kernel)
set_option maxRecDepth 20000 in
theorem gX6_askPlaces_X3_reachedPlaces : GoodIn wsX6_askPlaces (wsV RX6 156 RX3 yX3_reachedPlaces wsX3_reachedPlaces) := goodIn_app (goodIn_of _ (by decide +kernel)) ggX6_askPlaces_X3_reachedPlaces
set_option maxRecDepth 20000 in
theorem ggX6_askPlaces_X2_isSensor : GoodIn wsX6_askPlaces wsX2_isSensor := goodIn_r _ [23, 24, 96, 97, 98, 99, 100, 101, 102, 103, 104, 105, 106] (by decide +kernel) (by decide +kernel)
set_option maxRecDepth 20000 in
theorem gX6_askPlaces_X2_isSensor : GoodIn wsX6_askPlaces (wsV RX6 201 RX2 yX2_isSensor wsX2_isSensor) := goodIn_app (goodIn_of _ (by decide +kernel)) ggX6_askPlaces_X2_isSensor
set_option maxRecDepth 20000 in
theorem ggX6_askPlaces_X6_noteMiss : GoodIn wsX6_askPlaces wsX6_noteMiss := goodIn_r _ [29, 30, 31, 32, 33, 34, 35, 36, 37, 38, 39, 40, 41, 42, 43, 44, 45, 46, 47, 48, 96, 97, 98, 99, 100, 101, 102, 103, 104, 105, 106, 84, 85, 86, 87, 88, 89, 90, 91, 92, 93, 107, 108] (by decide +kernel) (by decide +kernel)
set_option maxRecDepth 20000 in
theorem gX6_askPlaces_X6_noteMiss : GoodIn wsX6_askPlaces (wsV RX6 205 RX6 yX6_noteMiss wsX6_noteMiss) := goodIn_app (goodIn_of _ (by decide +kernel)) ggX6_askPlaces_X6_noteMiss
set_option maxRecDepth 20000 in
theorem ggX6_askPlaces_X6_noteAnswer : GoodIn wsX6_askPlaces wsX6_noteAnswer := goodIn_r _ [52, 30, 31, 32, 33, 53, 34, 35, 36, 37, 38, 39, 40, 41, 42, 43, 44, 45, 46, 47, 48, 54, 55, 56, 22, 57, 24, 58, 59, 60, 61, 62, 63, 64, 65, 66, 67, 68, 69, 70, 71, 72, 73, 74, 75, 76, 77, 78, 79, 80, 81, 82, 83, 96, 97, 98, 99, 100, 101, 102, 103, 104, 105, 106, 84, 85, 86, 87, 88, 89, 90, 91, 92, 93, 107, 108] (by decide +kernel) (by decide +kernel)
set_option maxRecDepth 20000 in
theorem gX6_askPlaces_X6_noteAnswer : GoodIn wsX6_askPlaces (wsV RX6 209 RX6 yX6_noteAnswer wsX6_noteAnswer) := goodIn_app (goodIn_of _ (by decide +kernel)) ggX6_askPlaces_X6_noteAnswer
theorem dX6_askPlaces_0 : decode cX6_askPlaces 0 = .ok (.aload_n 0, 1) := by decide +kernel
theorem dX6_askPlaces_1 : decode cX6_askPlaces 1 = .ok (.getfield 10, 3) := by decide +kernel
theorem dX6_askPlaces_4 : decode cX6_askPlaces 4 = .ok (.invokevirtual 156, 3) := by decide +kernel
theorem dX6_askPlaces_7 : decode cX6_askPlaces 7 = .ok (.istore_n 1, 1) := by decide +kernel
theorem dX6_askPlaces_8 : decode cX6_askPlaces 8 = .ok (.iconst 0, 1) := by decide +kernel
theorem dX6_askPlaces_9 : decode cX6_askPlaces 9 = .ok (.istore_n 2, 1) := by decide +kernel
theorem dX6_askPlaces_10 : decode cX6_askPlaces 10 = .ok (.iload_n 2, 1) := by decide +kernel
theorem dX6_askPlaces_11 : decode cX6_askPlaces 11 = .ok (.bipush 16, 2) := by decide +kernel
theorem dX6_askPlaces_13 : decode cX6_askPlaces 13 = .ok (.if_icmp .ge 52, 3) := by decide +kernel
theorem dX6_askPlaces_16 : decode cX6_askPlaces 16 = .ok (.aload_n 0, 1) := by decide +kernel
theorem dX6_askPlaces_17 : decode cX6_askPlaces 17 = .ok (.getfield 10, 3) := by decide +kernel
theorem dX6_askPlaces_20 : decode cX6_askPlaces 20 = .ok (.getfield 62, 3) := by decide +kernel
theorem dX6_askPlaces_23 : decode cX6_askPlaces 23 = .ok (.iload_n 2, 1) := by decide +kernel
theorem dX6_askPlaces_24 : decode cX6_askPlaces 24 = .ok (.aaload, 1) := by decide +kernel
theorem dX6_askPlaces_25 : decode cX6_askPlaces 25 = .ok (.astore_n 3, 1) := by decide +kernel
theorem dX6_askPlaces_26 : decode cX6_askPlaces 26 = .ok (.aload_n 3, 1) := by decide +kernel
theorem dX6_askPlaces_27 : decode cX6_askPlaces 27 = .ok (.invokevirtual 201, 3) := by decide +kernel
theorem dX6_askPlaces_30 : decode cX6_askPlaces 30 = .ok (.ifCond .ne 6, 3) := by decide +kernel
theorem dX6_askPlaces_33 : decode cX6_askPlaces 33 = .ok (.goto 26, 3) := by decide +kernel
theorem dX6_askPlaces_36 : decode cX6_askPlaces 36 = .ok (.iload_n 1, 1) := by decide +kernel
theorem dX6_askPlaces_37 : decode cX6_askPlaces 37 = .ok (.iload_n 2, 1) := by decide +kernel
theorem dX6_askPlaces_38 : decode cX6_askPlaces 38 = .ok (.ishr, 1) := by decide +kernel
theorem dX6_askPlaces_39 : decode cX6_askPlaces 39 = .ok (.iconst 1, 1) := by decide +kernel
theorem dX6_askPlaces_40 : decode cX6_askPlaces 40 = .ok (.iand, 1) := by decide +kernel
theorem dX6_askPlaces_41 : decode cX6_askPlaces 41 = .ok (.ifCond .ne 12, 3) := by decide +kernel
theorem dX6_askPlaces_44 : decode cX6_askPlaces 44 = .ok (.aload_n 0, 1) := by decide +kernel
theorem dX6_askPlaces_45 : decode cX6_askPlaces 45 = .ok (.aload_n 3, 1) := by decide +kernel
theorem dX6_askPlaces_46 : decode cX6_askPlaces 46 = .ok (.iload_n 2, 1) := by decide +kernel
theorem dX6_askPlaces_47 : decode cX6_askPlaces 47 = .ok (.invokevirtual 205, 3) := by decide +kernel
theorem dX6_askPlaces_50 : decode cX6_askPlaces 50 = .ok (.goto 9, 3) := by decide +kernel
theorem dX6_askPlaces_53 : decode cX6_askPlaces 53 = .ok (.aload_n 0, 1) := by decide +kernel
theorem dX6_askPlaces_54 : decode cX6_askPlaces 54 = .ok (.aload_n 3, 1) := by decide +kernel
theorem dX6_askPlaces_55 : decode cX6_askPlaces 55 = .ok (.iload_n 2, 1) := by decide +kernel
theorem dX6_askPlaces_56 : decode cX6_askPlaces 56 = .ok (.invokevirtual 209, 3) := by decide +kernel
theorem dX6_askPlaces_59 : decode cX6_askPlaces 59 = .ok (.iinc 2 1, 3) := by decide +kernel
theorem dX6_askPlaces_62 : decode cX6_askPlaces 62 = .ok (.goto (-52), 3) := by decide +kernel
theorem dX6_askPlaces_65 : decode cX6_askPlaces 65 = .ok (.return_, 1) := by decide +kernel
set_option maxRecDepth 20000 in
theorem ggX6_noteMiss_X0_add : GoodIn wsX6_noteMiss wsX0_add := goodIn_r _ [9, 10, 11, 12, 13, 14, 15, 16, 17, 18, 19, 41, 42] (by decide +kernel) (by decide +kernel)
set_option maxRecDepth 20000 in
theorem gX6_noteMiss_X0_add : GoodIn wsX6_noteMiss (wsV RX6 133 RX0 yX0_add wsX0_add) := goodIn_app (goodIn_of _ (by decide +kernel)) ggX6_noteMiss_X0_add
theorem dX6_noteMiss_0 : decode cX6_noteMiss 0 = .ok (.aload_n 1, 1) := by decide +kernel
theorem dX6_noteMiss_1 : decode cX6_noteMiss 1 = .ok (.dup, 1) := by decide +kernel
theorem dX6_noteMiss_2 : decode cX6_noteMiss 2 = .ok (.getfield 212, 3) := by decide +kernel
theorem dX6_noteMiss_5 : decode cX6_noteMiss 5 = .ok (.iconst 1, 1) := by decide +kernel
theorem dX6_noteMiss_6 : decode cX6_noteMiss 6 = .ok (.iadd, 1) := by decide +kernel
theorem dX6_noteMiss_7 : decode cX6_noteMiss 7 = .ok (.putfield 212, 3) := by decide +kernel
theorem dX6_noteMiss_10 : decode cX6_noteMiss 10 = .ok (.aload_n 1, 1) := by decide +kernel
theorem dX6_noteMiss_11 : decode cX6_noteMiss 11 = .ok (.getfield 212, 3) := by decide +kernel
theorem dX6_noteMiss_14 : decode cX6_noteMiss 14 = .ok (.iconst 2, 1) := by decide +kernel
theorem dX6_noteMiss_15 : decode cX6_noteMiss 15 = .ok (.if_icmp .ne 21, 3) := by decide +kernel
theorem dX6_noteMiss_18 : decode cX6_noteMiss 18 = .ok (.aload_n 1, 1) := by decide +kernel
theorem dX6_noteMiss_19 : decode cX6_noteMiss 19 = .ok (.iconst 1, 1) := by decide +kernel
theorem dX6_noteMiss_20 : decode cX6_noteMiss 20 = .ok (.putfield 162, 3) := by decide +kernel
theorem dX6_noteMiss_23 : decode cX6_noteMiss 23 = .ok (.aload_n 0, 1) := by decide +kernel
theorem dX6_noteMiss_24 : decode cX6_noteMiss 24 = .ok (.getfield 44, 3) := by decide +kernel
theorem dX6_noteMiss_27 : decode cX6_noteMiss 27 = .ok (.iconst 2, 1) := by decide +kernel
theorem dX6_noteMiss_28 : decode cX6_noteMiss 28 = .ok (.iload_n 2, 1) := by decide +kernel
theorem dX6_noteMiss_29 : decode cX6_noteMiss 29 = .ok (.aload_n 0, 1) := by decide +kernel
theorem dX6_noteMiss_30 : decode cX6_noteMiss 30 = .ok (.getfield 110, 3) := by decide +kernel
theorem dX6_noteMiss_33 : decode cX6_noteMiss 33 = .ok (.invokevirtual 133, 3) := by decide +kernel
theorem dX6_noteMiss_36 : decode cX6_noteMiss 36 = .ok (.return_, 1) := by decide +kernel
set_option maxRecDepth 20000 in
theorem ggX6_noteAnswer_X0_add : GoodIn wsX6_noteAnswer wsX0_add := goodIn_r _ [10, 11, 12, 13, 14, 15, 16, 17, 18, 19, 20, 74, 75] (by decide +kernel) (by decide +kernel)
set_option maxRecDepth 20000 in
theorem gX6_noteAnswer_X0_add : GoodIn wsX6_noteAnswer (wsV RX6 133 RX0 yX0_add wsX0_add) := goodIn_app (goodIn_of _ (by decide +kernel)) ggX6_noteAnswer_X0_add
set_option maxRecDepth 20000 in
theorem ggX6_noteAnswer_X2_sense : GoodIn wsX6_noteAnswer wsX2_sense := goodIn_r _ [25, 26, 27, 28, 29, 30, 31, 24, 32, 33, 34, 35, 36, 37, 38, 39, 40, 41, 42, 43, 44, 45, 46, 47, 48, 49, 50, 51, 52, 53, 54, 55, 56, 57, 58, 59, 60, 61, 62, 63] (by decide +kernel) (by decide +kernel)
set_option maxRecDepth 20000 in
theorem gX6_noteAnswer_X2_sense : GoodIn wsX6_noteAnswer (wsV RX6 215 RX2 yX2_sense wsX2_sense) := goodIn_app (goodIn_of _ (by decide +kernel)) ggX6_noteAnswer_X2_sense
theorem dX6_noteAnswer_0 : decode cX6_noteAnswer 0 = .ok (.aload_n 1, 1) := by decide +kernel
theorem dX6_noteAnswer_1 : decode cX6_noteAnswer 1 = .ok (.iconst 0, 1) := by decide +kernel
theorem dX6_noteAnswer_2 : decode cX6_noteAnswer 2 = .ok (.putfield 212, 3) := by decide +kernel
theorem dX6_noteAnswer_5 : decode cX6_noteAnswer 5 = .ok (.aload_n 1, 1) := by decide +kernel
theorem dX6_noteAnswer_6 : decode cX6_noteAnswer 6 = .ok (.getfield 162, 3) := by decide +kernel
theorem dX6_noteAnswer_9 : decode cX6_noteAnswer 9 = .ok (.ifCond .eq 21, 3) := by decide +kernel
theorem dX6_noteAnswer_12 : decode cX6_noteAnswer 12 = .ok (.aload_n 1, 1) := by decide +kernel
theorem dX6_noteAnswer_13 : decode cX6_noteAnswer 13 = .ok (.iconst 0, 1) := by decide +kernel
theorem dX6_noteAnswer_14 : decode cX6_noteAnswer 14 = .ok (.putfield 162, 3) := by decide +kernel
theorem dX6_noteAnswer_17 : decode cX6_noteAnswer 17 = .ok (.aload_n 0, 1) := by decide +kernel
theorem dX6_noteAnswer_18 : decode cX6_noteAnswer 18 = .ok (.getfield 44, 3) := by decide +kernel
theorem dX6_noteAnswer_21 : decode cX6_noteAnswer 21 = .ok (.iconst 3, 1) := by decide +kernel
theorem dX6_noteAnswer_22 : decode cX6_noteAnswer 22 = .ok (.iload_n 2, 1) := by decide +kernel
theorem dX6_noteAnswer_23 : decode cX6_noteAnswer 23 = .ok (.aload_n 0, 1) := by decide +kernel
theorem dX6_noteAnswer_24 : decode cX6_noteAnswer 24 = .ok (.getfield 110, 3) := by decide +kernel
theorem dX6_noteAnswer_27 : decode cX6_noteAnswer 27 = .ok (.invokevirtual 133, 3) := by decide +kernel
theorem dX6_noteAnswer_30 : decode cX6_noteAnswer 30 = .ok (.aload_n 1, 1) := by decide +kernel
theorem dX6_noteAnswer_31 : decode cX6_noteAnswer 31 = .ok (.getfield 149, 3) := by decide +kernel
theorem dX6_noteAnswer_34 : decode cX6_noteAnswer 34 = .ok (.ifCond .ne 7, 3) := by decide +kernel
theorem dX6_noteAnswer_37 : decode cX6_noteAnswer 37 = .ok (.aload_n 1, 1) := by decide +kernel
theorem dX6_noteAnswer_38 : decode cX6_noteAnswer 38 = .ok (.invokevirtual 215, 3) := by decide +kernel
theorem dX6_noteAnswer_41 : decode cX6_noteAnswer 41 = .ok (.return_, 1) := by decide +kernel
set_option maxRecDepth 20000 in
theorem ggX6_watchZones_X6_hasEnoughAlarms : GoodIn wsX6_watchZones wsX6_hasEnoughAlarms := goodIn_r _ [12, 13, 14, 15, 16, 17, 18, 19, 20, 21, 22, 23, 24, 25, 26, 27, 28, 44, 45, 46, 47, 48, 49, 50, 51, 52, 53, 57, 58, 59, 60, 61, 62, 63, 64, 65, 66, 67, 68, 69] (by decide +kernel) (by decide +kernel)
set_option maxRecDepth 20000 in
theorem gX6_watchZones_X6_hasEnoughAlarms : GoodIn wsX6_watchZones (wsV RX6 218 RX6 yX6_hasEnoughAlarms wsX6_hasEnoughAlarms) := goodIn_app (goodIn_of _ (by decide +kernel)) ggX6_watchZones_X6_hasEnoughAlarms
set_option maxRecDepth 20000 in
theorem ggX6_watchZones_X0_add : GoodIn wsX6_watchZones wsX0_add := goodIn_r _ [33, 34, 35, 36, 37, 38, 39, 40, 41, 42, 43, 70, 71] (by decide +kernel) (by decide +kernel)
set_option maxRecDepth 20000 in
theorem gX6_watchZones_X0_add : GoodIn wsX6_watchZones (wsV RX6 133 RX0 yX0_add wsX0_add) := goodIn_app (goodIn_of _ (by decide +kernel)) ggX6_watchZones_X0_add
theorem dX6_watchZones_0 : decode cX6_watchZones 0 = .ok (.iconst 0, 1) := by decide +kernel
theorem dX6_watchZones_1 : decode cX6_watchZones 1 = .ok (.istore_n 1, 1) := by decide +kernel
theorem dX6_watchZones_2 : decode cX6_watchZones 2 = .ok (.iconst 0, 1) := by decide +kernel
theorem dX6_watchZones_3 : decode cX6_watchZones 3 = .ok (.istore_n 2, 1) := by decide +kernel
theorem dX6_watchZones_4 : decode cX6_watchZones 4 = .ok (.iload_n 2, 1) := by decide +kernel
theorem dX6_watchZones_5 : decode cX6_watchZones 5 = .ok (.iconst 4, 1) := by decide +kernel
theorem dX6_watchZones_6 : decode cX6_watchZones 6 = .ok (.if_icmp .ge 68, 3) := by decide +kernel
theorem dX6_watchZones_9 : decode cX6_watchZones 9 = .ok (.aload_n 0, 1) := by decide +kernel
theorem dX6_watchZones_10 : decode cX6_watchZones 10 = .ok (.getfield 18, 3) := by decide +kernel
theorem dX6_watchZones_13 : decode cX6_watchZones 13 = .ok (.iload_n 2, 1) := by decide +kernel
theorem dX6_watchZones_14 : decode cX6_watchZones 14 = .ok (.aaload, 1) := by decide +kernel
theorem dX6_watchZones_15 : decode cX6_watchZones 15 = .ok (.astore_n 3, 1) := by decide +kernel
theorem dX6_watchZones_16 : decode cX6_watchZones 16 = .ok (.aload_n 3, 1) := by decide +kernel
theorem dX6_watchZones_17 : decode cX6_watchZones 17 = .ok (.getfield 146, 3) := by decide +kernel
theorem dX6_watchZones_20 : decode cX6_watchZones 20 = .ok (.ifCond .ne 48, 3) := by decide +kernel
theorem dX6_watchZones_23 : decode cX6_watchZones 23 = .ok (.aload_n 3, 1) := by decide +kernel
theorem dX6_watchZones_24 : decode cX6_watchZones 24 = .ok (.getfield 137, 3) := by decide +kernel
theorem dX6_watchZones_27 : decode cX6_watchZones 27 = .ok (.ifCond .ne 41, 3) := by decide +kernel
theorem dX6_watchZones_30 : decode cX6_watchZones 30 = .ok (.aload_n 0, 1) := by decide +kernel
theorem dX6_watchZones_31 : decode cX6_watchZones 31 = .ok (.iload_n 2, 1) := by decide +kernel
theorem dX6_watchZones_32 : decode cX6_watchZones 32 = .ok (.aload_n 3, 1) := by decide +kernel
theorem dX6_watchZones_33 : decode cX6_watchZones 33 = .ok (.getfield 72, 3) := by decide +kernel
theorem dX6_watchZones_36 : decode cX6_watchZones 36 = .ok (.invokevirtual 218, 3) := by decide +kernel
theorem dX6_watchZones_39 : decode cX6_watchZones 39 = .ok (.ifCond .eq 29, 3) := by decide +kernel
theorem dX6_watchZones_42 : decode cX6_watchZones 42 = .ok (.aload_n 3, 1) := by decide +kernel
theorem dX6_watchZones_43 : decode cX6_watchZones 43 = .ok (.iconst 1, 1) := by decide +kernel
theorem dX6_watchZones_44 : decode cX6_watchZones 44 = .ok (.putfield 137, 3) := by decide +kernel
theorem dX6_watchZones_47 : decode cX6_watchZones 47 = .ok (.aload_n 0, 1) := by decide +kernel
theorem dX6_watchZones_48 : decode cX6_watchZones 48 = .ok (.iconst 0, 1) := by decide +kernel
theorem dX6_watchZones_49 : decode cX6_watchZones 49 = .ok (.putfield 129, 3) := by decide +kernel
theorem dX6_watchZones_52 : decode cX6_watchZones 52 = .ok (.aload_n 0, 1) := by decide +kernel
theorem dX6_watchZones_53 : decode cX6_watchZones 53 = .ok (.getfield 44, 3) := by decide +kernel
theorem dX6_watchZones_56 : decode cX6_watchZones 56 = .ok (.iconst 1, 1) := by decide +kernel
theorem dX6_watchZones_57 : decode cX6_watchZones 57 = .ok (.iload_n 2, 1) := by decide +kernel
theorem dX6_watchZones_58 : decode cX6_watchZones 58 = .ok (.aload_n 0, 1) := by decide +kernel
theorem dX6_watchZones_59 : decode cX6_watchZones 59 = .ok (.getfield 110, 3) := by decide +kernel
theorem dX6_watchZones_62 : decode cX6_watchZones 62 = .ok (.invokevirtual 133, 3) := by decide +kernel
theorem dX6_watchZones_65 : decode cX6_watchZones 65 = .ok (.iinc 1 1, 3) := by decide +kernel
theorem dX6_watchZones_68 : decode cX6_watchZones 68 = .ok (.iinc 2 1, 3) := by decide +kernel
theorem dX6_watchZones_71 : decode cX6_watchZones 71 = .ok (.goto (-67), 3) := by decide +kernel
theorem dX6_watchZones_74 : decode cX6_watchZones 74 = .ok (.iload_n 1, 1) := by decide +kernel
theorem dX6_watchZones_75 : decode cX6_watchZones 75 = .ok (.ireturn, 1) := by decide +kernel
set_option maxRecDepth 20000 in
theorem ggX6_hasEnoughAlarms_X2_watches : GoodIn wsX6_hasEnoughAlarms wsX2_watches := goodIn_r _ [9, 10, 11, 12, 13, 14, 8, 15, 16, 29, 30, 31, 32, 33, 34, 35, 36, 37, 38, 39] (by decide +kernel) (by decide +kernel)
set_option maxRecDepth 20000 in
theorem gX6_hasEnoughAlarms_X2_watches : GoodIn wsX6_hasEnoughAlarms (wsV RX6 222 RX2 yX2_watches wsX2_watches) := goodIn_app (goodIn_of _ (by decide +kernel)) ggX6_hasEnoughAlarms_X2_watches
theorem dX6_hasEnoughAlarms_0 : decode cX6_hasEnoughAlarms 0 = .ok (.iconst 0, 1) := by decide +kernel
theorem dX6_hasEnoughAlarms_1 : decode cX6_hasEnoughAlarms 1 = .ok (.istore_n 3, 1) := by decide +kernel
theorem dX6_hasEnoughAlarms_2 : decode cX6_hasEnoughAlarms 2 = .ok (.aload_n 0, 1) := by decide +kernel
theorem dX6_hasEnoughAlarms_3 : decode cX6_hasEnoughAlarms 3 = .ok (.getfield 10, 3) := by decide +kernel
theorem dX6_hasEnoughAlarms_6 : decode cX6_hasEnoughAlarms 6 = .ok (.getfield 62, 3) := by decide +kernel
theorem dX6_hasEnoughAlarms_9 : decode cX6_hasEnoughAlarms 9 = .ok (.astore 4, 2) := by decide +kernel
theorem dX6_hasEnoughAlarms_11 : decode cX6_hasEnoughAlarms 11 = .ok (.aload 4, 2) := by decide +kernel
theorem dX6_hasEnoughAlarms_13 : decode cX6_hasEnoughAlarms 13 = .ok (.arraylength, 1) := by decide +kernel
theorem dX6_hasEnoughAlarms_14 : decode cX6_hasEnoughAlarms 14 = .ok (.istore 5, 2) := by decide +kernel
theorem dX6_hasEnoughAlarms_16 : decode cX6_hasEnoughAlarms 16 = .ok (.iconst 0, 1) := by decide +kernel
theorem dX6_hasEnoughAlarms_17 : decode cX6_hasEnoughAlarms 17 = .ok (.istore 6, 2) := by decide +kernel
theorem dX6_hasEnoughAlarms_19 : decode cX6_hasEnoughAlarms 19 = .ok (.iload 6, 2) := by decide +kernel
theorem dX6_hasEnoughAlarms_21 : decode cX6_hasEnoughAlarms 21 = .ok (.iload 5, 2) := by decide +kernel
theorem dX6_hasEnoughAlarms_23 : decode cX6_hasEnoughAlarms 23 = .ok (.if_icmp .ge 47, 3) := by decide +kernel
theorem dX6_hasEnoughAlarms_26 : decode cX6_hasEnoughAlarms 26 = .ok (.aload 4, 2) := by decide +kernel
theorem dX6_hasEnoughAlarms_28 : decode cX6_hasEnoughAlarms 28 = .ok (.iload 6, 2) := by decide +kernel
theorem dX6_hasEnoughAlarms_30 : decode cX6_hasEnoughAlarms 30 = .ok (.aaload, 1) := by decide +kernel
theorem dX6_hasEnoughAlarms_31 : decode cX6_hasEnoughAlarms 31 = .ok (.astore 7, 2) := by decide +kernel
theorem dX6_hasEnoughAlarms_33 : decode cX6_hasEnoughAlarms 33 = .ok (.aload 7, 2) := by decide +kernel
theorem dX6_hasEnoughAlarms_35 : decode cX6_hasEnoughAlarms 35 = .ok (.iload_n 1, 1) := by decide +kernel
theorem dX6_hasEnoughAlarms_36 : decode cX6_hasEnoughAlarms 36 = .ok (.invokevirtual 222, 3) := by decide +kernel
theorem dX6_hasEnoughAlarms_39 : decode cX6_hasEnoughAlarms 39 = .ok (.ifCond .eq 25, 3) := by decide +kernel
theorem dX6_hasEnoughAlarms_42 : decode cX6_hasEnoughAlarms 42 = .ok (.aload 7, 2) := by decide +kernel
theorem dX6_hasEnoughAlarms_44 : decode cX6_hasEnoughAlarms 44 = .ok (.getfield 159, 3) := by decide +kernel
theorem dX6_hasEnoughAlarms_47 : decode cX6_hasEnoughAlarms 47 = .ok (.ifCond .eq 17, 3) := by decide +kernel
theorem dX6_hasEnoughAlarms_50 : decode cX6_hasEnoughAlarms 50 = .ok (.aload 7, 2) := by decide +kernel
theorem dX6_hasEnoughAlarms_52 : decode cX6_hasEnoughAlarms 52 = .ok (.getfield 165, 3) := by decide +kernel
theorem dX6_hasEnoughAlarms_55 : decode cX6_hasEnoughAlarms 55 = .ok (.iconst 3, 1) := by decide +kernel
theorem dX6_hasEnoughAlarms_56 : decode cX6_hasEnoughAlarms 56 = .ok (.if_icmp .ne 5, 3) := by decide +kernel
theorem dX6_hasEnoughAlarms_59 : decode cX6_hasEnoughAlarms 59 = .ok (.iconst 1, 1) := by decide +kernel
theorem dX6_hasEnoughAlarms_60 : decode cX6_hasEnoughAlarms 60 = .ok (.ireturn, 1) := by decide +kernel
theorem dX6_hasEnoughAlarms_61 : decode cX6_hasEnoughAlarms 61 = .ok (.iinc 3 1, 3) := by decide +kernel
theorem dX6_hasEnoughAlarms_64 : decode cX6_hasEnoughAlarms 64 = .ok (.iinc 6 1, 3) := by decide +kernel
theorem dX6_hasEnoughAlarms_67 : decode cX6_hasEnoughAlarms 67 = .ok (.goto (-48), 3) := by decide +kernel
theorem dX6_hasEnoughAlarms_70 : decode cX6_hasEnoughAlarms 70 = .ok (.iload_n 3, 1) := by decide +kernel
theorem dX6_hasEnoughAlarms_71 : decode cX6_hasEnoughAlarms 71 = .ok (.iload_n 2, 1) := by decide +kernel
theorem dX6_hasEnoughAlarms_72 : decode cX6_hasEnoughAlarms 72 = .ok (.if_icmp .lt 7, 3) := by decide +kernel
theorem dX6_hasEnoughAlarms_75 : decode cX6_hasEnoughAlarms 75 = .ok (.iconst 1, 1) := by decide +kernel
theorem dX6_hasEnoughAlarms_76 : decode cX6_hasEnoughAlarms 76 = .ok (.goto 4, 3) := by decide +kernel
theorem dX6_hasEnoughAlarms_79 : decode cX6_hasEnoughAlarms 79 = .ok (.iconst 0, 1) := by decide +kernel
theorem dX6_hasEnoughAlarms_80 : decode cX6_hasEnoughAlarms 80 = .ok (.ireturn, 1) := by decide +kernel
set_option maxRecDepth 20000 in
theorem ggX6_hasWarning_X2_watches : GoodIn wsX6_hasWarning wsX2_watches := goodIn_r _ [7, 8, 9, 10, 11, 12, 6, 13, 14, 35, 36, 37, 38, 39, 40, 41, 42, 43, 44, 45] (by decide +kernel) (by decide +kernel)
set_option maxRecDepth 20000 in
theorem gX6_hasWarning_X2_watches : GoodIn wsX6_hasWarning (wsV RX6 222 RX2 yX2_watches wsX2_watches) := goodIn_app (goodIn_of _ (by decide +kernel)) ggX6_hasWarning_X2_watches
set_option maxRecDepth 20000 in
theorem ggX6_hasWarning_X2_warns : GoodIn wsX6_hasWarning wsX2_warns := goodIn_r _ [18, 19, 14, 20, 21, 22, 35, 36, 37, 38, 39, 40, 41, 42, 43, 44, 45] (by decide +kernel) (by decide +kernel)
set_option maxRecDepth 20000 in
theorem gX6_hasWarning_X2_warns : GoodIn wsX6_hasWarning (wsV RX6 225 RX2 yX2_warns wsX2_warns) := goodIn_app (goodIn_of _ (by decide +kernel)) ggX6_hasWarning_X2_warns
theorem dX6_hasWarning_0 : decode cX6_hasWarning 0 = .ok (.aload_n 0, 1) := by decide +kernel
theorem dX6_hasWarning_1 : decode cX6_hasWarning 1 = .ok (.getfield 10, 3) := by decide +kernel
theorem dX6_hasWarning_4 : decode cX6_hasWarning 4 = .ok (.getfield 62, 3) := by decide +kernel
theorem dX6_hasWarning_7 : decode cX6_hasWarning 7 = .ok (.astore_n 2, 1) := by decide +kernel
theorem dX6_hasWarning_8 : decode cX6_hasWarning 8 = .ok (.aload_n 2, 1) := by decide +kernel
theorem dX6_hasWarning_9 : decode cX6_hasWarning 9 = .ok (.arraylength, 1) := by decide +kernel
theorem dX6_hasWarning_10 : decode cX6_hasWarning 10 = .ok (.istore_n 3, 1) := by decide +kernel
theorem dX6_hasWarning_11 : decode cX6_hasWarning 11 = .ok (.iconst 0, 1) := by decide +kernel
theorem dX6_hasWarning_12 : decode cX6_hasWarning 12 = .ok (.istore 4, 2) := by decide +kernel
theorem dX6_hasWarning_14 : decode cX6_hasWarning 14 = .ok (.iload 4, 2) := by decide +kernel
theorem dX6_hasWarning_16 : decode cX6_hasWarning 16 = .ok (.iload_n 3, 1) := by decide +kernel
theorem dX6_hasWarning_17 : decode cX6_hasWarning 17 = .ok (.if_icmp .ge 34, 3) := by decide +kernel
theorem dX6_hasWarning_20 : decode cX6_hasWarning 20 = .ok (.aload_n 2, 1) := by decide +kernel
theorem dX6_hasWarning_21 : decode cX6_hasWarning 21 = .ok (.iload 4, 2) := by decide +kernel
theorem dX6_hasWarning_23 : decode cX6_hasWarning 23 = .ok (.aaload, 1) := by decide +kernel
theorem dX6_hasWarning_24 : decode cX6_hasWarning 24 = .ok (.astore 5, 2) := by decide +kernel
theorem dX6_hasWarning_26 : decode cX6_hasWarning 26 = .ok (.aload 5, 2) := by decide +kernel
theorem dX6_hasWarning_28 : decode cX6_hasWarning 28 = .ok (.iload_n 1, 1) := by decide +kernel
theorem dX6_hasWarning_29 : decode cX6_hasWarning 29 = .ok (.invokevirtual 222, 3) := by decide +kernel
theorem dX6_hasWarning_32 : decode cX6_hasWarning 32 = .ok (.ifCond .eq 13, 3) := by decide +kernel
theorem dX6_hasWarning_35 : decode cX6_hasWarning 35 = .ok (.aload 5, 2) := by decide +kernel
theorem dX6_hasWarning_37 : decode cX6_hasWarning 37 = .ok (.invokevirtual 225, 3) := by decide +kernel
theorem dX6_hasWarning_40 : decode cX6_hasWarning 40 = .ok (.ifCond .eq 5, 3) := by decide +kernel
theorem dX6_hasWarning_43 : decode cX6_hasWarning 43 = .ok (.iconst 1, 1) := by decide +kernel
theorem dX6_hasWarning_44 : decode cX6_hasWarning 44 = .ok (.ireturn, 1) := by decide +kernel
theorem dX6_hasWarning_45 : decode cX6_hasWarning 45 = .ok (.iinc 4 1, 3) := by decide +kernel
theorem dX6_hasWarning_48 : decode cX6_hasWarning 48 = .ok (.goto (-34), 3) := by decide +kernel
theorem dX6_hasWarning_51 : decode cX6_hasWarning 51 = .ok (.iconst 0, 1) := by decide +kernel
theorem dX6_hasWarning_52 : decode cX6_hasWarning 52 = .ok (.ireturn, 1) := by decide +kernel
theorem dX6_faults_0 : decode cX6_faults 0 = .ok (.iconst 0, 1) := by decide +kernel
theorem dX6_faults_1 : decode cX6_faults 1 = .ok (.istore_n 1, 1) := by decide +kernel
theorem dX6_faults_2 : decode cX6_faults 2 = .ok (.aload_n 0, 1) := by decide +kernel
theorem dX6_faults_3 : decode cX6_faults 3 = .ok (.getfield 10, 3) := by decide +kernel
theorem dX6_faults_6 : decode cX6_faults 6 = .ok (.getfield 62, 3) := by decide +kernel
theorem dX6_faults_9 : decode cX6_faults 9 = .ok (.astore_n 2, 1) := by decide +kernel
theorem dX6_faults_10 : decode cX6_faults 10 = .ok (.aload_n 2, 1) := by decide +kernel
theorem dX6_faults_11 : decode cX6_faults 11 = .ok (.arraylength, 1) := by decide +kernel
theorem dX6_faults_12 : decode cX6_faults 12 = .ok (.istore_n 3, 1) := by decide +kernel
theorem dX6_faults_13 : decode cX6_faults 13 = .ok (.iconst 0, 1) := by decide +kernel
theorem dX6_faults_14 : decode cX6_faults 14 = .ok (.istore 4, 2) := by decide +kernel
theorem dX6_faults_16 : decode cX6_faults 16 = .ok (.iload 4, 2) := by decide +kernel
theorem dX6_faults_18 : decode cX6_faults 18 = .ok (.iload_n 3, 1) := by decide +kernel
theorem dX6_faults_19 : decode cX6_faults 19 = .ok (.if_icmp .ge 31, 3) := by decide +kernel
theorem dX6_faults_22 : decode cX6_faults 22 = .ok (.aload_n 2, 1) := by decide +kernel
theorem dX6_faults_23 : decode cX6_faults 23 = .ok (.iload 4, 2) := by decide +kernel
theorem dX6_faults_25 : decode cX6_faults 25 = .ok (.aaload, 1) := by decide +kernel
theorem dX6_faults_26 : decode cX6_faults 26 = .ok (.astore 5, 2) := by decide +kernel
theorem dX6_faults_28 : decode cX6_faults 28 = .ok (.iload_n 1, 1) := by decide +kernel
theorem dX6_faults_29 : decode cX6_faults 29 = .ok (.aload 5, 2) := by decide +kernel
theorem dX6_faults_31 : decode cX6_faults 31 = .ok (.getfield 162, 3) := by decide +kernel
theorem dX6_faults_34 : decode cX6_faults 34 = .ok (.ifCond .eq 7, 3) := by decide +kernel
theorem dX6_faults_37 : decode cX6_faults 37 = .ok (.iconst 1, 1) := by decide +kernel
theorem dX6_faults_38 : decode cX6_faults 38 = .ok (.goto 4, 3) := by decide +kernel
theorem dX6_faults_41 : decode cX6_faults 41 = .ok (.iconst 0, 1) := by decide +kernel
theorem dX6_faults_42 : decode cX6_faults 42 = .ok (.iadd, 1) := by decide +kernel
theorem dX6_faults_43 : decode cX6_faults 43 = .ok (.istore_n 1, 1) := by decide +kernel
theorem dX6_faults_44 : decode cX6_faults 44 = .ok (.iinc 4 1, 3) := by decide +kernel
theorem dX6_faults_47 : decode cX6_faults 47 = .ok (.goto (-31), 3) := by decide +kernel
theorem dX6_faults_50 : decode cX6_faults 50 = .ok (.iload_n 1, 1) := by decide +kernel
theorem dX6_faults_51 : decode cX6_faults 51 = .ok (.ireturn, 1) := by decide +kernel
set_option maxRecDepth 20000 in
theorem ggX6_facts_X6_faults : GoodIn wsX6_facts wsX6_faults := goodIn_r _ [7, 8, 9, 10, 35, 36, 37, 38, 39, 40, 41, 42, 43, 44, 48, 49, 50, 51, 52, 53, 54, 55, 56, 57, 58, 59, 60] (by decide +kernel) (by decide +kernel)
set_option maxRecDepth 20000 in
theorem gX6_facts_X6_faults : GoodIn wsX6_facts (wsV RX6 184 RX6 yX6_faults wsX6_faults) := goodIn_app (goodIn_of _ (by decide +kernel)) ggX6_facts_X6_faults
set_option maxRecDepth 20000 in
theorem ggX6_facts_X6_hasWarning : GoodIn wsX6_facts wsX6_hasWarning := goodIn_r _ [14, 8, 9, 15, 16, 17, 18, 19, 20, 21, 22, 23, 24, 25, 26, 27, 28, 29, 30, 31, 32, 33, 34, 35, 36, 37, 38, 39, 40, 41, 42, 43, 44, 48, 49, 50, 51, 52, 53, 54, 55, 56, 57, 58, 59, 60] (by decide +kernel) (by decide +kernel)
set_option maxRecDepth 20000 in
theorem gX6_facts_X6_hasWarning : GoodIn wsX6_facts (wsV RX6 168 RX6 yX6_hasWarning wsX6_hasWarning) := goodIn_app (goodIn_of _ (by decide +kernel)) ggX6_facts_X6_hasWarning
theorem dX6_facts_0 : decode cX6_facts 0 = .ok (.aload_n 0, 1) := by decide +kernel
theorem dX6_facts_1 : decode cX6_facts 1 = .ok (.invokevirtual 184, 3) := by decide +kernel
theorem dX6_facts_4 : decode cX6_facts 4 = .ok (.ifCond .le 9, 3) := by decide +kernel
theorem dX6_facts_7 : decode cX6_facts 7 = .ok (.sipush 256, 3) := by decide +kernel
theorem dX6_facts_10 : decode cX6_facts 10 = .ok (.goto 4, 3) := by decide +kernel
theorem dX6_facts_13 : decode cX6_facts 13 = .ok (.iconst 0, 1) := by decide +kernel
theorem dX6_facts_14 : decode cX6_facts 14 = .ok (.istore_n 1, 1) := by decide +kernel
theorem dX6_facts_15 : decode cX6_facts 15 = .ok (.iconst 0, 1) := by decide +kernel
theorem dX6_facts_16 : decode cX6_facts 16 = .ok (.istore_n 2, 1) := by decide +kernel
theorem dX6_facts_17 : decode cX6_facts 17 = .ok (.iload_n 2, 1) := by decide +kernel
theorem dX6_facts_18 : decode cX6_facts 18 = .ok (.iconst 4, 1) := by decide +kernel
theorem dX6_facts_19 : decode cX6_facts 19 = .ok (.if_icmp .ge 45, 3) := by decide +kernel
theorem dX6_facts_22 : decode cX6_facts 22 = .ok (.aload_n 0, 1) := by decide +kernel
theorem dX6_facts_23 : decode cX6_facts 23 = .ok (.getfield 18, 3) := by decide +kernel
theorem dX6_facts_26 : decode cX6_facts 26 = .ok (.iload_n 2, 1) := by decide +kernel
theorem dX6_facts_27 : decode cX6_facts 27 = .ok (.aaload, 1) := by decide +kernel
theorem dX6_facts_28 : decode cX6_facts 28 = .ok (.getfield 137, 3) := by decide +kernel
theorem dX6_facts_31 : decode cX6_facts 31 = .ok (.ifCond .eq 11, 3) := by decide +kernel
theorem dX6_facts_34 : decode cX6_facts 34 = .ok (.iload_n 1, 1) := by decide +kernel
theorem dX6_facts_35 : decode cX6_facts 35 = .ok (.iconst 1, 1) := by decide +kernel
theorem dX6_facts_36 : decode cX6_facts 36 = .ok (.iconst 0, 1) := by decide +kernel
theorem dX6_facts_37 : decode cX6_facts 37 = .ok (.iload_n 2, 1) := by decide +kernel
theorem dX6_facts_38 : decode cX6_facts 38 = .ok (.iadd, 1) := by decide +kernel
theorem dX6_facts_39 : decode cX6_facts 39 = .ok (.ishl, 1) := by decide +kernel
theorem dX6_facts_40 : decode cX6_facts 40 = .ok (.ior, 1) := by decide +kernel
theorem dX6_facts_41 : decode cX6_facts 41 = .ok (.istore_n 1, 1) := by decide +kernel
theorem dX6_facts_42 : decode cX6_facts 42 = .ok (.aload_n 0, 1) := by decide +kernel
theorem dX6_facts_43 : decode cX6_facts 43 = .ok (.iload_n 2, 1) := by decide +kernel
theorem dX6_facts_44 : decode cX6_facts 44 = .ok (.invokevirtual 168, 3) := by decide +kernel
theorem dX6_facts_47 : decode cX6_facts 47 = .ok (.ifCond .eq 11, 3) := by decide +kernel
theorem dX6_facts_50 : decode cX6_facts 50 = .ok (.iload_n 1, 1) := by decide +kernel
theorem dX6_facts_51 : decode cX6_facts 51 = .ok (.iconst 1, 1) := by decide +kernel
theorem dX6_facts_52 : decode cX6_facts 52 = .ok (.iconst 4, 1) := by decide +kernel
theorem dX6_facts_53 : decode cX6_facts 53 = .ok (.iload_n 2, 1) := by decide +kernel
theorem dX6_facts_54 : decode cX6_facts 54 = .ok (.iadd, 1) := by decide +kernel
theorem dX6_facts_55 : decode cX6_facts 55 = .ok (.ishl, 1) := by decide +kernel
theorem dX6_facts_56 : decode cX6_facts 56 = .ok (.ior, 1) := by decide +kernel
theorem dX6_facts_57 : decode cX6_facts 57 = .ok (.istore_n 1, 1) := by decide +kernel
theorem dX6_facts_58 : decode cX6_facts 58 = .ok (.iinc 2 1, 3) := by decide +kernel
theorem dX6_facts_61 : decode cX6_facts 61 = .ok (.goto (-44), 3) := by decide +kernel
theorem dX6_facts_64 : decode cX6_facts 64 = .ok (.iload_n 1, 1) := by decide +kernel
theorem dX6_facts_65 : decode cX6_facts 65 = .ok (.ireturn, 1) := by decide +kernel
set_option maxRecDepth 20000 in
theorem ggX6_followRules_X6_facts : GoodIn wsX6_followRules wsX6_facts := goodIn_r _ [8, 9, 10, 11, 12, 13, 7, 14, 15, 16, 17, 18, 19, 20, 21, 22, 23, 24, 25, 26, 27, 28, 29, 30, 31, 32, 33, 34, 35, 36, 37, 38, 39, 40, 41, 52, 53, 54, 55, 56, 57, 58, 59, 60, 61, 67, 68, 69, 70, 71, 72, 73, 74, 75, 76, 77, 78, 79, 80, 81, 82] (by decide +kernel) (by decide +kernel)
set_option maxRecDepth 20000 in
theorem gX6_followRules_X6_facts : GoodIn wsX6_followRules (wsV RX6 228 RX6 yX6_facts wsX6_facts) := goodIn_app (goodIn_of _ (by decide +kernel)) ggX6_followRules_X6_facts
set_option maxRecDepth 20000 in
theorem ggX6_followRules_X4_isTrue : GoodIn wsX6_followRules wsX4_isTrue := goodIn_r _ [46, 47, 48, 49, 50, 45, 51, 62, 63, 64, 65, 66] (by decide +kernel) (by decide +kernel)
set_option maxRecDepth 20000 in
theorem gX6_followRules_X4_isTrue : GoodIn wsX6_followRules (wsV RX6 231 RX4 yX4_isTrue wsX4_isTrue) := goodIn_app (goodIn_of _ (by decide +kernel)) ggX6_followRules_X4_isTrue
theorem dX6_followRules_0 : decode cX6_followRules 0 = .ok (.aload_n 0, 1) := by decide +kernel
theorem dX6_followRules_1 : decode cX6_followRules 1 = .ok (.invokevirtual 228, 3) := by decide +kernel
theorem dX6_followRules_4 : decode cX6_followRules 4 = .ok (.istore_n 1, 1) := by decide +kernel
theorem dX6_followRules_5 : decode cX6_followRules 5 = .ok (.iconst 0, 1) := by decide +kernel
theorem dX6_followRules_6 : decode cX6_followRules 6 = .ok (.istore_n 2, 1) := by decide +kernel
theorem dX6_followRules_7 : decode cX6_followRules 7 = .ok (.iload_n 2, 1) := by decide +kernel
theorem dX6_followRules_8 : decode cX6_followRules 8 = .ok (.aload_n 0, 1) := by decide +kernel
theorem dX6_followRules_9 : decode cX6_followRules 9 = .ok (.getfield 90, 3) := by decide +kernel
theorem dX6_followRules_12 : decode cX6_followRules 12 = .ok (.if_icmp .ge 44, 3) := by decide +kernel
theorem dX6_followRules_15 : decode cX6_followRules 15 = .ok (.iload_n 2, 1) := by decide +kernel
theorem dX6_followRules_16 : decode cX6_followRules 16 = .ok (.bipush 6, 2) := by decide +kernel
theorem dX6_followRules_18 : decode cX6_followRules 18 = .ok (.if_icmp .ge 38, 3) := by decide +kernel
theorem dX6_followRules_21 : decode cX6_followRules 21 = .ok (.aload_n 0, 1) := by decide +kernel
theorem dX6_followRules_22 : decode cX6_followRules 22 = .ok (.getfield 25, 3) := by decide +kernel
theorem dX6_followRules_25 : decode cX6_followRules 25 = .ok (.iload_n 2, 1) := by decide +kernel
theorem dX6_followRules_26 : decode cX6_followRules 26 = .ok (.aaload, 1) := by decide +kernel
theorem dX6_followRules_27 : decode cX6_followRules 27 = .ok (.astore_n 3, 1) := by decide +kernel
theorem dX6_followRules_28 : decode cX6_followRules 28 = .ok (.aload_n 3, 1) := by decide +kernel
theorem dX6_followRules_29 : decode cX6_followRules 29 = .ok (.aload_n 3, 1) := by decide +kernel
theorem dX6_followRules_30 : decode cX6_followRules 30 = .ok (.iload_n 1, 1) := by decide +kernel
theorem dX6_followRules_31 : decode cX6_followRules 31 = .ok (.invokevirtual 231, 3) := by decide +kernel
theorem dX6_followRules_34 : decode cX6_followRules 34 = .ok (.ifCond .eq 12, 3) := by decide +kernel
theorem dX6_followRules_37 : decode cX6_followRules 37 = .ok (.aload_n 3, 1) := by decide +kernel
theorem dX6_followRules_38 : decode cX6_followRules 38 = .ok (.getfield 143, 3) := by decide +kernel
theorem dX6_followRules_41 : decode cX6_followRules 41 = .ok (.iconst 1, 1) := by decide +kernel
theorem dX6_followRules_42 : decode cX6_followRules 42 = .ok (.iadd, 1) := by decide +kernel
theorem dX6_followRules_43 : decode cX6_followRules 43 = .ok (.goto 4, 3) := by decide +kernel
theorem dX6_followRules_46 : decode cX6_followRules 46 = .ok (.iconst 0, 1) := by decide +kernel
theorem dX6_followRules_47 : decode cX6_followRules 47 = .ok (.putfield 143, 3) := by decide +kernel
theorem dX6_followRules_50 : decode cX6_followRules 50 = .ok (.iinc 2 1, 3) := by decide +kernel
theorem dX6_followRules_53 : decode cX6_followRules 53 = .ok (.goto (-46), 3) := by decide +kernel
theorem dX6_followRules_56 : decode cX6_followRules 56 = .ok (.return_, 1) := by decide +kernel
set_option maxRecDepth 20000 in
theorem ggX6_driveOutputs_X6_isDriven : GoodIn wsX6_driveOutputs wsX6_isDriven := goodIn_r _ [8, 9, 10, 11, 12, 13, 29, 30, 31, 32, 33, 34, 35, 36, 37, 38, 39, 40, 41, 42, 43] (by decide +kernel) (by decide +kernel)
set_option maxRecDepth 20000 in
theorem gX6_driveOutputs_X6_isDriven : GoodIn wsX6_driveOutputs (wsV RX6 234 RX6 yX6_isDriven wsX6_isDriven) := goodIn_app (goodIn_of _ (by decide +kernel)) ggX6_driveOutputs_X6_isDriven
set_option maxRecDepth 20000 in
theorem ggX6_driveOutputs_X0_add : GoodIn wsX6_driveOutputs wsX0_add := goodIn_r _ [18, 19, 20, 21, 22, 23, 24, 25, 26, 27, 28, 44, 45] (by decide +kernel) (by decide +kernel)
set_option maxRecDepth 20000 in
theorem gX6_driveOutputs_X0_add : GoodIn wsX6_driveOutputs (wsV RX6 133 RX0 yX0_add wsX0_add) := goodIn_app (goodIn_of _ (by decide +kernel)) ggX6_driveOutputs_X0_add
theorem dX6_driveOutputs_0 : decode cX6_driveOutputs 0 = .ok (.iconst 0, 1) := by decide +kernel
theorem dX6_driveOutputs_1 : decode cX6_driveOutputs 1 = .ok (.istore_n 1, 1) := by decide +kernel
theorem dX6_driveOutputs_2 : decode cX6_driveOutputs 2 = .ok (.iload_n 1, 1) := by decide +kernel
theorem dX6_driveOutputs_3 : decode cX6_driveOutputs 3 = .ok (.bipush 6, 2) := by decide +kernel
theorem dX6_driveOutputs_5 : decode cX6_driveOutputs 5 = .ok (.if_icmp .ge 48, 3) := by decide +kernel
theorem dX6_driveOutputs_8 : decode cX6_driveOutputs 8 = .ok (.aload_n 0, 1) := by decide +kernel
theorem dX6_driveOutputs_9 : decode cX6_driveOutputs 9 = .ok (.iload_n 1, 1) := by decide +kernel
theorem dX6_driveOutputs_10 : decode cX6_driveOutputs 10 = .ok (.invokevirtual 234, 3) := by decide +kernel
theorem dX6_driveOutputs_13 : decode cX6_driveOutputs 13 = .ok (.istore_n 2, 1) := by decide +kernel
theorem dX6_driveOutputs_14 : decode cX6_driveOutputs 14 = .ok (.iload_n 2, 1) := by decide +kernel
theorem dX6_driveOutputs_15 : decode cX6_driveOutputs 15 = .ok (.ifCond .eq 25, 3) := by decide +kernel
theorem dX6_driveOutputs_18 : decode cX6_driveOutputs 18 = .ok (.aload_n 0, 1) := by decide +kernel
theorem dX6_driveOutputs_19 : decode cX6_driveOutputs 19 = .ok (.getfield 30, 3) := by decide +kernel
theorem dX6_driveOutputs_22 : decode cX6_driveOutputs 22 = .ok (.iload_n 1, 1) := by decide +kernel
theorem dX6_driveOutputs_23 : decode cX6_driveOutputs 23 = .ok (.baload, 1) := by decide +kernel
theorem dX6_driveOutputs_24 : decode cX6_driveOutputs 24 = .ok (.ifCond .ne 16, 3) := by decide +kernel
theorem dX6_driveOutputs_27 : decode cX6_driveOutputs 27 = .ok (.aload_n 0, 1) := by decide +kernel
theorem dX6_driveOutputs_28 : decode cX6_driveOutputs 28 = .ok (.getfield 44, 3) := by decide +kernel
theorem dX6_driveOutputs_31 : decode cX6_driveOutputs 31 = .ok (.iconst 4, 1) := by decide +kernel
theorem dX6_driveOutputs_32 : decode cX6_driveOutputs 32 = .ok (.iload_n 1, 1) := by decide +kernel
theorem dX6_driveOutputs_33 : decode cX6_driveOutputs 33 = .ok (.aload_n 0, 1) := by decide +kernel
theorem dX6_driveOutputs_34 : decode cX6_driveOutputs 34 = .ok (.getfield 110, 3) := by decide +kernel
theorem dX6_driveOutputs_37 : decode cX6_driveOutputs 37 = .ok (.invokevirtual 133, 3) := by decide +kernel
theorem dX6_driveOutputs_40 : decode cX6_driveOutputs 40 = .ok (.aload_n 0, 1) := by decide +kernel
theorem dX6_driveOutputs_41 : decode cX6_driveOutputs 41 = .ok (.getfield 30, 3) := by decide +kernel
theorem dX6_driveOutputs_44 : decode cX6_driveOutputs 44 = .ok (.iload_n 1, 1) := by decide +kernel
theorem dX6_driveOutputs_45 : decode cX6_driveOutputs 45 = .ok (.iload_n 2, 1) := by decide +kernel
theorem dX6_driveOutputs_46 : decode cX6_driveOutputs 46 = .ok (.bastore, 1) := by decide +kernel
theorem dX6_driveOutputs_47 : decode cX6_driveOutputs 47 = .ok (.iinc 1 1, 3) := by decide +kernel
theorem dX6_driveOutputs_50 : decode cX6_driveOutputs 50 = .ok (.goto (-48), 3) := by decide +kernel
theorem dX6_driveOutputs_53 : decode cX6_driveOutputs 53 = .ok (.return_, 1) := by decide +kernel
theorem dX6_isDriven_0 : decode cX6_isDriven 0 = .ok (.iconst 0, 1) := by decide +kernel
theorem dX6_isDriven_1 : decode cX6_isDriven 1 = .ok (.istore_n 2, 1) := by decide +kernel
theorem dX6_isDriven_2 : decode cX6_isDriven 2 = .ok (.iload_n 2, 1) := by decide +kernel
theorem dX6_isDriven_3 : decode cX6_isDriven 3 = .ok (.aload_n 0, 1) := by decide +kernel
theorem dX6_isDriven_4 : decode cX6_isDriven 4 = .ok (.getfield 90, 3) := by decide +kernel
theorem dX6_isDriven_7 : decode cX6_isDriven 7 = .ok (.if_icmp .ge 51, 3) := by decide +kernel
theorem dX6_isDriven_10 : decode cX6_isDriven 10 = .ok (.iload_n 2, 1) := by decide +kernel
theorem dX6_isDriven_11 : decode cX6_isDriven 11 = .ok (.bipush 6, 2) := by decide +kernel
theorem dX6_isDriven_13 : decode cX6_isDriven 13 = .ok (.if_icmp .ge 45, 3) := by decide +kernel
theorem dX6_isDriven_16 : decode cX6_isDriven 16 = .ok (.aload_n 0, 1) := by decide +kernel
theorem dX6_isDriven_17 : decode cX6_isDriven 17 = .ok (.getfield 25, 3) := by decide +kernel
theorem dX6_isDriven_20 : decode cX6_isDriven 20 = .ok (.iload_n 2, 1) := by decide +kernel
theorem dX6_isDriven_21 : decode cX6_isDriven 21 = .ok (.aaload, 1) := by decide +kernel
theorem dX6_isDriven_22 : decode cX6_isDriven 22 = .ok (.getfield 237, 3) := by decide +kernel
theorem dX6_isDriven_25 : decode cX6_isDriven 25 = .ok (.iload_n 1, 1) := by decide +kernel
theorem dX6_isDriven_26 : decode cX6_isDriven 26 = .ok (.if_icmp .ne 26, 3) := by decide +kernel
theorem dX6_isDriven_29 : decode cX6_isDriven 29 = .ok (.aload_n 0, 1) := by decide +kernel
theorem dX6_isDriven_30 : decode cX6_isDriven 30 = .ok (.getfield 25, 3) := by decide +kernel
theorem dX6_isDriven_33 : decode cX6_isDriven 33 = .ok (.iload_n 2, 1) := by decide +kernel
theorem dX6_isDriven_34 : decode cX6_isDriven 34 = .ok (.aaload, 1) := by decide +kernel
theorem dX6_isDriven_35 : decode cX6_isDriven 35 = .ok (.getfield 143, 3) := by decide +kernel
theorem dX6_isDriven_38 : decode cX6_isDriven 38 = .ok (.aload_n 0, 1) := by decide +kernel
theorem dX6_isDriven_39 : decode cX6_isDriven 39 = .ok (.getfield 25, 3) := by decide +kernel
theorem dX6_isDriven_42 : decode cX6_isDriven 42 = .ok (.iload_n 2, 1) := by decide +kernel
theorem dX6_isDriven_43 : decode cX6_isDriven 43 = .ok (.aaload, 1) := by decide +kernel
theorem dX6_isDriven_44 : decode cX6_isDriven 44 = .ok (.getfield 240, 3) := by decide +kernel
theorem dX6_isDriven_47 : decode cX6_isDriven 47 = .ok (.if_icmp .le 5, 3) := by decide +kernel
theorem dX6_isDriven_50 : decode cX6_isDriven 50 = .ok (.iconst 1, 1) := by decide +kernel
theorem dX6_isDriven_51 : decode cX6_isDriven 51 = .ok (.ireturn, 1) := by decide +kernel
theorem dX6_isDriven_52 : decode cX6_isDriven 52 = .ok (.iinc 2 1, 3) := by decide +kernel
theorem dX6_isDriven_55 : decode cX6_isDriven 55 = .ok (.goto (-53), 3) := by decide +kernel
theorem dX6_isDriven_58 : decode cX6_isDriven 58 = .ok (.iconst 0, 1) := by decide +kernel
theorem dX6_isDriven_59 : decode cX6_isDriven 59 = .ok (.ireturn, 1) := by decide +kernel
theorem dX6_allOutputsOff_0 : decode cX6_allOutputsOff 0 = .ok (.iconst 0, 1) := by decide +kernel
theorem dX6_allOutputsOff_1 : decode cX6_allOutputsOff 1 = .ok (.istore_n 1, 1) := by decide +kernel
theorem dX6_allOutputsOff_2 : decode cX6_allOutputsOff 2 = .ok (.iload_n 1, 1) := by decide +kernel
theorem dX6_allOutputsOff_3 : decode cX6_allOutputsOff 3 = .ok (.bipush 6, 2) := by decide +kernel
theorem dX6_allOutputsOff_5 : decode cX6_allOutputsOff 5 = .ok (.if_icmp .ge 16, 3) := by decide +kernel
theorem dX6_allOutputsOff_8 : decode cX6_allOutputsOff 8 = .ok (.aload_n 0, 1) := by decide +kernel
theorem dX6_allOutputsOff_9 : decode cX6_allOutputsOff 9 = .ok (.getfield 30, 3) := by decide +kernel
theorem dX6_allOutputsOff_12 : decode cX6_allOutputsOff 12 = .ok (.iload_n 1, 1) := by decide +kernel
theorem dX6_allOutputsOff_13 : decode cX6_allOutputsOff 13 = .ok (.iconst 0, 1) := by decide +kernel
theorem dX6_allOutputsOff_14 : decode cX6_allOutputsOff 14 = .ok (.bastore, 1) := by decide +kernel
theorem dX6_allOutputsOff_15 : decode cX6_allOutputsOff 15 = .ok (.iinc 1 1, 3) := by decide +kernel
theorem dX6_allOutputsOff_18 : decode cX6_allOutputsOff 18 = .ok (.goto (-16), 3) := by decide +kernel
theorem dX6_allOutputsOff_21 : decode cX6_allOutputsOff 21 = .ok (.return_, 1) := by decide +kernel
