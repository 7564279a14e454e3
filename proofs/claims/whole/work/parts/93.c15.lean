section LAW
variable {C : jC} {a m : Nat → Nat} {b L h j : Nat} {xs : Nat → Int32} {o : Nat → Int64} {v : Nat → UInt64} {M : pM} {kc ks : Nat} {Q : State → Prop}
theorem law_c15 (E : jE C cL_law 8 wsL_law RL ret room_1) (hlt : (jl C).stackTraces = false) (hx : xW (jA C) (js C) (js C).heap) (hn3 : xN3 (js C)) (hs : lS C b L xs) (hX : wX (jG C) a) (hM : wM (jG C) m) (A : sAd a m) (B : sAp a m) (h0 : simP zZ a m M M) (hj : 5 * j + 5 ≤ L) (hc : kc + 5 ≤ 639400 ∧ ks + 30 ≤ 7177904)
    (nx : ∀ (M2 : pM) (o2 : Nat → Int64) (v2 : Nat → UInt64), simP zZ a m M2 M2 → jW C 8 1243 (lvB a m b h j) [] (lX (jcy C) h o2 v2) M2 (kc + 5) (ks + 30) Q) : jW C 8 951 (lvB a m b h j) [] (lX (jcy C) h o v) M kc ks Q := by
  have hm1 := hM.1
  have hm2 := hM.2.1
  have hx1 := hX.1.1
  have hx2 := hX.1.2.1
  have hN : simP zZ a m M (oM (xZoO a M (xs (5 * j + 1))) M) := simP.x B h0 (frx_ask (oM_zo _))
  have hS := S_zone A hN (xs (5 * j + 1))
  have h2 := simP.mm B hS.2.1 (frm_thrown _)
  refine j_aload_n E dL_law_951 rfl rfl ?_
  refine j_aload_n E dL_law_952 rfl rfl ?_
  refine j_iload E dL_law_953 rfl ?_
  refine j_iconst E dL_law_955 (v := 1) (by decide) ?_
  refine j_iadd E dL_law_956 ?_
  refine j_sld E hs.1 hs.2.1 hs.2.2.1 dL_law_957 (j := 5 * j + 1) (nI_add (5 * j) 1) (by omega) hs.2.2.2 ?_
  refine j_aload_n E dL_law_958 rfl rfl ?_
  refine j_hS (n := 3) E hx hn3 (k_L_zone hlt hX (mLv_no h0).2.2.1) rfl dL_law_959 gL_law_L_zone rfl (by decide +kernel) ⟨rfl, rfl, by decide, by decide⟩ ⟨by show kc + 1 ≤ 639400; omega, by show ks + 6 ≤ 7177904; omega⟩ rfl rfl (Nat.le_of_ble_eq_true rfl) ?_
  refine j_istore E dL_law_962 (by decide) ?_
  refine j_aload_n E dL_law_964 rfl rfl ?_
  refine j_aload_n E dL_law_965 rfl rfl ?_
  refine j_iload E dL_law_966 rfl ?_
  refine j_iconst E dL_law_968 (v := 1) (by decide) ?_
  refine j_iadd E dL_law_969 ?_
  refine j_sld E hs.1 hs.2.1 hs.2.2.1 dL_law_970 (j := 5 * j + 1) (nI_add (5 * j) 1) (by omega) hs.2.2.2 ?_
  refine j_callV1 (ci := 7) (n := 1) E (k_X7_zone hM (mLv_no hN).2.2.2) dL_law_971 gL_law_X7_zone rfl (by decide +kernel) ⟨rfl, rfl, by decide, by decide⟩ ⟨by show kc + 1 ≤ 639400; omega, by show ks + 6 ≤ 7177904; omega⟩ hm1 hm2 rfl rfl rfl (Nat.le_of_ble_eq_true rfl) rfl ?_
  refine j_istore E dL_law_974 (by decide) ?_
  refine j_aload_n E dL_law_976 rfl rfl ?_
  refine j_callV1 (ci := 7) (n := 0) E (k_X7_thrown hM) dL_law_977 gL_law_X7_thrown rfl (by decide +kernel) ⟨rfl, rfl, by decide, by decide⟩ ⟨by show kc + 1 ≤ 639400; omega, by show ks + 6 ≤ 7177904; omega⟩ hm1 hm2 rfl rfl rfl (Nat.le_of_ble_eq_true rfl) rfl ?_
  refine j_iload E dL_law_980 rfl ?_
  refine j_icmp_eq E dL_law_982 (tgt := 987) (by decide) (fun _ => ?_) (fun q => absurd hS.1 q)
  refine j_iload E dL_law_987 rfl ?_
  refine j_if_ne E dL_law_989 (tgt := 1004) (by decide) (fun c0 => ?_) (fun c9 => ?_)
  · skip
    refine j_goto E dL_law_1004 (tgt := 1243) (by decide) ?_
    refine j_lv [0, 1, 2, 3, 4, 5] rfl ?_
    exact j_widen (by omega) (by omega) (nx _ _ _ h2)
  · have c0 : oK k1 (xZoO a M (xs (5 * j + 1))) = 0 := c9
    refine j_aload_n E dL_law_992 rfl rfl ?_
    refine j_iconst E dL_law_993 (v := 0) (by decide) ?_
    refine j_lald E dL_law_994 ?_
    refine j_iload E dL_law_995 rfl ?_
    refine j_i2l E dL_law_997 ?_
    refine j_lcmp E dL_law_998 ?_
    refine j_if_eq E dL_law_999 (tgt := 1004) (by decide) (fun _ => ?_) (fun q => absurd (lCmp_0.mpr ?_) q)
    · skip
      refine j_goto E dL_law_1004 (tgt := 1243) (by decide) ?_
      refine j_lv [0, 1, 2, 3, 4, 5] rfl ?_
      exact j_widen (by omega) (by omega) (nx _ _ _ h2)
    · rw [lO_0 k1_ne c0, hS.2.2 c0]
theorem law_c16 (E : jE C cL_law 8 wsL_law RL ret room_1) (hlt : (jl C).stackTraces = false) (hx : xW (jA C) (js C) (js C).heap) (hn3 : xN3 (js C)) (hs : lS C b L xs) (hX : wX (jG C) a) (hM : wM (jG C) m) (A : sAd a m) (B : sAp a m) (h0 : simP zZ a m M M) (hj : 5 * j + 5 ≤ L) (hc : kc + 5 ≤ 639400 ∧ ks + 30 ≤ 7177904)
    (nx : ∀ (M2 : pM) (o2 : Nat → Int64) (v2 : Nat → UInt64), simP zZ a m M2 M2 → jW C 8 1243 (lvB a m b h j) [] (lX (jcy C) h o2 v2) M2 (kc + 5) (ks + 30) Q) : jW C 8 1007 (lvB a m b h j) [] (lX (jcy C) h o v) M kc ks Q := by
  have hm1 := hM.1
  have hm2 := hM.2.1
  have hx1 := hX.1.1
  have hx2 := hX.1.2.1
  have hN : simP zZ a m M (oM (xOuO a M (xs (5 * j + 1))) M) := simP.x B h0 (frx_ask (oM_ou _))
  have hS := S_output A hN (xs (5 * j + 1))
  have h2 := simP.mm B hS.2.1 (frm_thrown _)
  refine j_aload_n E dL_law_1007 rfl rfl ?_
  refine j_aload_n E dL_law_1008 rfl rfl ?_
  refine j_iload E dL_law_1009 rfl ?_
  refine j_iconst E dL_law_1011 (v := 1) (by decide) ?_
  refine j_iadd E dL_law_1012 ?_
  refine j_sld E hs.1 hs.2.1 hs.2.2.1 dL_law_1013 (j := 5 * j + 1) (nI_add (5 * j) 1) (by omega) hs.2.2.2 ?_
  refine j_aload_n E dL_law_1014 rfl rfl ?_
  refine j_hS (n := 3) E hx hn3 (k_L_output hlt hX) rfl dL_law_1015 gL_law_L_output rfl (by decide +kernel) ⟨rfl, rfl, by decide, by decide⟩ ⟨by show kc + 1 ≤ 639400; omega, by show ks + 6 ≤ 7177904; omega⟩ rfl rfl (Nat.le_of_ble_eq_true rfl) ?_
  refine j_istore E dL_law_1018 (by decide) ?_
  refine j_aload_n E dL_law_1020 rfl rfl ?_
  refine j_aload_n E dL_law_1021 rfl rfl ?_
  refine j_iload E dL_law_1022 rfl ?_
  refine j_iconst E dL_law_1024 (v := 1) (by decide) ?_
  refine j_iadd E dL_law_1025 ?_
  refine j_sld E hs.1 hs.2.1 hs.2.2.1 dL_law_1026 (j := 5 * j + 1) (nI_add (5 * j) 1) (by omega) hs.2.2.2 ?_
  refine j_callV1 (ci := 7) (n := 1) E (k_X7_output hM) dL_law_1027 gL_law_X7_output rfl (by decide +kernel) ⟨rfl, rfl, by decide, by decide⟩ ⟨by show kc + 1 ≤ 639400; omega, by show ks + 6 ≤ 7177904; omega⟩ hm1 hm2 rfl rfl rfl (Nat.le_of_ble_eq_true rfl) rfl ?_
  refine j_istore E dL_law_1030 (by decide) ?_
  refine j_aload_n E dL_law_1032 rfl rfl ?_
  refine j_callV1 (ci := 7) (n := 0) E (k_X7_thrown hM) dL_law_1033 gL_law_X7_thrown rfl (by decide +kernel) ⟨rfl, rfl, by decide, by decide⟩ ⟨by show kc + 1 ≤ 639400; omega, by show ks + 6 ≤ 7177904; omega⟩ hm1 hm2 rfl rfl rfl (Nat.le_of_ble_eq_true rfl) rfl ?_
  refine j_iload E dL_law_1036 rfl ?_
  refine j_icmp_eq E dL_law_1038 (tgt := 1043) (by decide) (fun _ => ?_) (fun q => absurd hS.1 q)
  refine j_iload E dL_law_1043 rfl ?_
  refine j_if_ne E dL_law_1045 (tgt := 1060) (by decide) (fun c0 => ?_) (fun c9 => ?_)
  · skip
    refine j_goto E dL_law_1060 (tgt := 1243) (by decide) ?_
    refine j_lv [0, 1, 2, 3, 4, 5] rfl ?_
    exact j_widen (by omega) (by omega) (nx _ _ _ h2)
  · have c0 : oK k1 (xOuO a M (xs (5 * j + 1))) = 0 := c9
    refine j_aload_n E dL_law_1048 rfl rfl ?_
    refine j_iconst E dL_law_1049 (v := 0) (by decide) ?_
    refine j_lald E dL_law_1050 ?_
    refine j_iload E dL_law_1051 rfl ?_
    refine j_i2l E dL_law_1053 ?_
    refine j_lcmp E dL_law_1054 ?_
    refine j_if_eq E dL_law_1055 (tgt := 1060) (by decide) (fun _ => ?_) (fun q => absurd (lCmp_0.mpr ?_) q)
    · skip
      refine j_goto E dL_law_1060 (tgt := 1243) (by decide) ?_
      refine j_lv [0, 1, 2, 3, 4, 5] rfl ?_
      exact j_widen (by omega) (by omega) (nx _ _ _ h2)
    · rw [lO_0 k1_ne c0, hS.2.2 c0]
theorem law_c17 (E : jE C cL_law 8 wsL_law RL ret room_1) (hlt : (jl C).stackTraces = false) (hx : xW (jA C) (js C) (js C).heap) (hn3 : xN3 (js C)) (hs : lS C b L xs) (hX : wX (jG C) a) (hM : wM (jG C) m) (A : sAd a m) (B : sAp a m) (h0 : simP zZ a m M M) (hj : 5 * j + 5 ≤ L) (hc : kc + 5 ≤ 639400 ∧ ks + 30 ≤ 7177904)
    (nx : ∀ (M2 : pM) (o2 : Nat → Int64) (v2 : Nat → UInt64), simP zZ a m M2 M2 → jW C 8 1243 (lvB a m b h j) [] (lX (jcy C) h o2 v2) M2 (kc + 5) (ks + 30) Q) : jW C 8 1063 (lvB a m b h j) [] (lX (jcy C) h o v) M kc ks Q := by
  have hm1 := hM.1
  have hm2 := hM.2.1
  have hx1 := hX.1.1
  have hx2 := hX.1.2.1
  have hN : simP zZ a m M (oM (xHeO a M (xs (5 * j + 1))) M) := simP.x B h0 (frx_ask (oM_he _))
  have hS := S_held A hN (xs (5 * j + 1))
  have h2 := simP.mm B hS.2.1 (frm_thrown _)
  refine j_aload_n E dL_law_1063 rfl rfl ?_
  refine j_aload_n E dL_law_1064 rfl rfl ?_
  refine j_iload E dL_law_1065 rfl ?_
  refine j_iconst E dL_law_1067 (v := 1) (by decide) ?_
  refine j_iadd E dL_law_1068 ?_
  refine j_sld E hs.1 hs.2.1 hs.2.2.1 dL_law_1069 (j := 5 * j + 1) (nI_add (5 * j) 1) (by omega) hs.2.2.2 ?_
  refine j_aload_n E dL_law_1070 rfl rfl ?_
  refine j_hS (n := 3) E hx hn3 (k_L_held hlt hX) rfl dL_law_1071 gL_law_L_held rfl (by decide +kernel) ⟨rfl, rfl, by decide, by decide⟩ ⟨by show kc + 1 ≤ 639400; omega, by show ks + 6 ≤ 7177904; omega⟩ rfl rfl (Nat.le_of_ble_eq_true rfl) ?_
  refine j_istore E dL_law_1074 (by decide) ?_
  refine j_aload_n E dL_law_1076 rfl rfl ?_
  refine j_aload_n E dL_law_1077 rfl rfl ?_
  refine j_iload E dL_law_1078 rfl ?_
  refine j_iconst E dL_law_1080 (v := 1) (by decide) ?_
  refine j_iadd E dL_law_1081 ?_
  refine j_sld E hs.1 hs.2.1 hs.2.2.1 dL_law_1082 (j := 5 * j + 1) (nI_add (5 * j) 1) (by omega) hs.2.2.2 ?_
  refine j_callV1 (ci := 7) (n := 1) E (k_X7_held hM (mRs_no hN).2.1) dL_law_1083 gL_law_X7_held rfl (by decide +kernel) ⟨rfl, rfl, by decide, by decide⟩ ⟨by show kc + 1 ≤ 639400; omega, by show ks + 6 ≤ 7177904; omega⟩ hm1 hm2 rfl rfl rfl (Nat.le_of_ble_eq_true rfl) rfl ?_
  refine j_istore E dL_law_1086 (by decide) ?_
  refine j_aload_n E dL_law_1088 rfl rfl ?_
  refine j_callV1 (ci := 7) (n := 0) E (k_X7_thrown hM) dL_law_1089 gL_law_X7_thrown rfl (by decide +kernel) ⟨rfl, rfl, by decide, by decide⟩ ⟨by show kc + 1 ≤ 639400; omega, by show ks + 6 ≤ 7177904; omega⟩ hm1 hm2 rfl rfl rfl (Nat.le_of_ble_eq_true rfl) rfl ?_
  refine j_iload E dL_law_1092 rfl ?_
  refine j_icmp_eq E dL_law_1094 (tgt := 1099) (by decide) (fun _ => ?_) (fun q => absurd hS.1 q)
  refine j_iload E dL_law_1099 rfl ?_
  refine j_if_ne E dL_law_1101 (tgt := 1116) (by decide) (fun c0 => ?_) (fun c9 => ?_)
  · skip
    refine j_goto E dL_law_1116 (tgt := 1243) (by decide) ?_
    refine j_lv [0, 1, 2, 3, 4, 5] rfl ?_
    exact j_widen (by omega) (by omega) (nx _ _ _ h2)
  · have c0 : oK k1 (xHeO a M (xs (5 * j + 1))) = 0 := c9
    refine j_aload_n E dL_law_1104 rfl rfl ?_
    refine j_iconst E dL_law_1105 (v := 0) (by decide) ?_
    refine j_lald E dL_law_1106 ?_
    refine j_iload E dL_law_1107 rfl ?_
    refine j_i2l E dL_law_1109 ?_
    refine j_lcmp E dL_law_1110 ?_
    refine j_if_eq E dL_law_1111 (tgt := 1116) (by decide) (fun _ => ?_) (fun q => absurd (lCmp_0.mpr ?_) q)
    · skip
      refine j_goto E dL_law_1116 (tgt := 1243) (by decide) ?_
      refine j_lv [0, 1, 2, 3, 4, 5] rfl ?_
      exact j_widen (by omega) (by omega) (nx _ _ _ h2)
    · rw [lO_0 k1_ne c0, hS.2.2 c0]
theorem law_c18 (E : jE C cL_law 8 wsL_law RL ret room_1) (hlt : (jl C).stackTraces = false) (hx : xW (jA C) (js C) (js C).heap) (hn3 : xN3 (js C)) (hs : lS C b L xs) (hX : wX (jG C) a) (hM : wM (jG C) m) (A : sAd a m) (B : sAp a m) (h0 : simP zZ a m M M) (hj : 5 * j + 5 ≤ L) (hc : kc + 5 ≤ 639400 ∧ ks + 30 ≤ 7177904)
    (nx : ∀ (M2 : pM) (o2 : Nat → Int64) (v2 : Nat → UInt64), simP zZ a m M2 M2 → jW C 8 1243 (lvB a m b h j) [] (lX (jcy C) h o2 v2) M2 (kc + 5) (ks + 30) Q) : jW C 8 1119 (lvB a m b h j) [] (lX (jcy C) h o v) M kc ks Q := by
  have hm1 := hM.1
  have hm2 := hM.2.1
  have hx1 := hX.1.1
  have hx2 := hX.1.2.1
  have hN : simP zZ a m M (oM (xLoO a M (xs (5 * j + 1)) (xs (5 * j + 2))) M) := simP.x B h0 (frx_ask (oM_lo _ _))
  have hS := S_log A hN (xs (5 * j + 1)) (xs (5 * j + 2))
  have h2 := simP.mm B hS.2.1 (frm_thrown _)
  refine j_aload_n E dL_law_1119 rfl rfl ?_
  refine j_aload_n E dL_law_1120 rfl rfl ?_
  refine j_iload E dL_law_1121 rfl ?_
  refine j_iconst E dL_law_1123 (v := 1) (by decide) ?_
  refine j_iadd E dL_law_1124 ?_
  refine j_sld E hs.1 hs.2.1 hs.2.2.1 dL_law_1125 (j := 5 * j + 1) (nI_add (5 * j) 1) (by omega) hs.2.2.2 ?_
  refine j_aload_n E dL_law_1126 rfl rfl ?_
  refine j_iload E dL_law_1127 rfl ?_
  refine j_iconst E dL_law_1129 (v := 2) (by decide) ?_
  refine j_iadd E dL_law_1130 ?_
  refine j_sld E hs.1 hs.2.1 hs.2.2.1 dL_law_1131 (j := 5 * j + 2) (nI_add (5 * j) 2) (by omega) hs.2.2.2 ?_
  refine j_aload_n E dL_law_1132 rfl rfl ?_
  refine j_hS (n := 4) E hx hn3 (k_L_log hlt hX) rfl dL_law_1133 gL_law_L_log rfl (by decide +kernel) ⟨rfl, rfl, by decide, by decide⟩ ⟨by show kc + 2 ≤ 639400; omega, by show ks + 12 ≤ 7177904; omega⟩ rfl rfl (Nat.le_of_ble_eq_true rfl) ?_
  refine j_istore E dL_law_1136 (by decide) ?_
  refine j_aload_n E dL_law_1138 rfl rfl ?_
  refine j_aload_n E dL_law_1139 rfl rfl ?_
  refine j_iload E dL_law_1140 rfl ?_
  refine j_iconst E dL_law_1142 (v := 1) (by decide) ?_
  refine j_iadd E dL_law_1143 ?_
  refine j_sld E hs.1 hs.2.1 hs.2.2.1 dL_law_1144 (j := 5 * j + 1) (nI_add (5 * j) 1) (by omega) hs.2.2.2 ?_
  refine j_aload_n E dL_law_1145 rfl rfl ?_
  refine j_iload E dL_law_1146 rfl ?_
  refine j_iconst E dL_law_1148 (v := 2) (by decide) ?_
  refine j_iadd E dL_law_1149 ?_
  refine j_sld E hs.1 hs.2.1 hs.2.2.1 dL_law_1150 (j := 5 * j + 2) (nI_add (5 * j) 2) (by omega) hs.2.2.2 ?_
  refine j_callV1 (ci := 7) (n := 2) E (k_X7_log hM (mRs_no hN).2.2.1) dL_law_1151 gL_law_X7_log rfl (by decide +kernel) ⟨rfl, rfl, by decide, by decide⟩ ⟨by show kc + 2 ≤ 639400; omega, by show ks + 12 ≤ 7177904; omega⟩ hm1 hm2 rfl rfl rfl (Nat.le_of_ble_eq_true rfl) rfl ?_
  refine j_istore E dL_law_1154 (by decide) ?_
  refine j_aload_n E dL_law_1156 rfl rfl ?_
  refine j_callV1 (ci := 7) (n := 0) E (k_X7_thrown hM) dL_law_1157 gL_law_X7_thrown rfl (by decide +kernel) ⟨rfl, rfl, by decide, by decide⟩ ⟨by show kc + 2 ≤ 639400; omega, by show ks + 12 ≤ 7177904; omega⟩ hm1 hm2 rfl rfl rfl (Nat.le_of_ble_eq_true rfl) rfl ?_
  refine j_iload E dL_law_1160 rfl ?_
  refine j_icmp_eq E dL_law_1162 (tgt := 1167) (by decide) (fun _ => ?_) (fun q => absurd hS.1 q)
  refine j_iload E dL_law_1167 rfl ?_
  refine j_if_ne E dL_law_1169 (tgt := 1184) (by decide) (fun c0 => ?_) (fun c9 => ?_)
  · skip
    refine j_goto E dL_law_1184 (tgt := 1243) (by decide) ?_
    refine j_lv [0, 1, 2, 3, 4, 5] rfl ?_
    exact j_widen (by omega) (by omega) (nx _ _ _ h2)
  · have c0 : oK k1 (xLoO a M (xs (5 * j + 1)) (xs (5 * j + 2))) = 0 := c9
    refine j_aload_n E dL_law_1172 rfl rfl ?_
    refine j_iconst E dL_law_1173 (v := 0) (by decide) ?_
    refine j_lald E dL_law_1174 ?_
    refine j_iload E dL_law_1175 rfl ?_
    refine j_i2l E dL_law_1177 ?_
    refine j_lcmp E dL_law_1178 ?_
    refine j_if_eq E dL_law_1179 (tgt := 1184) (by decide) (fun _ => ?_) (fun q => absurd (lCmp_0.mpr ?_) q)
    · skip
      refine j_goto E dL_law_1184 (tgt := 1243) (by decide) ?_
      refine j_lv [0, 1, 2, 3, 4, 5] rfl ?_
      exact j_widen (by omega) (by omega) (nx _ _ _ h2)
    · rw [lO_0 k1_ne c0, hS.2.2 c0]
theorem law_c19 (E : jE C cL_law 8 wsL_law RL ret room_1) (hlt : (jl C).stackTraces = false) (hx : xW (jA C) (js C) (js C).heap) (hn3 : xN3 (js C)) (hs : lS C b L xs) (hX : wX (jG C) a) (hM : wM (jG C) m) (A : sAd a m) (B : sAp a m) (h0 : simP zZ a m M M) (hj : 5 * j + 5 ≤ L) (hc : kc + 5 ≤ 639400 ∧ ks + 30 ≤ 7177904)
    (nx : ∀ (M2 : pM) (o2 : Nat → Int64) (v2 : Nat → UInt64), simP zZ a m M2 M2 → jW C 8 1243 (lvB a m b h j) [] (lX (jcy C) h o2 v2) M2 (kc + 5) (ks + 30) Q) : jW C 8 1187 (lvB a m b h j) [] (lX (jcy C) h o v) M kc ks Q := by
  have hm1 := hM.1
  have hm2 := hM.2.1
  have hx1 := hX.1.1
  have hx2 := hX.1.2.1
  have hN : simP zZ a m M (oM (xCoO a M (xs (5 * j + 1))) M) := simP.x B h0 (frx_ask (oM_co _))
  have hS := S_count A hN (xs (5 * j + 1))
  have h2 := simP.mm B hS.2.1 (frm_thrown _)
  refine j_aload_n E dL_law_1187 rfl rfl ?_
  refine j_aload_n E dL_law_1188 rfl rfl ?_
  refine j_iload E dL_law_1189 rfl ?_
  refine j_iconst E dL_law_1191 (v := 1) (by decide) ?_
  refine j_iadd E dL_law_1192 ?_
  refine j_sld E hs.1 hs.2.1 hs.2.2.1 dL_law_1193 (j := 5 * j + 1) (nI_add (5 * j) 1) (by omega) hs.2.2.2 ?_
  refine j_aload_n E dL_law_1194 rfl rfl ?_
  refine j_hS (n := 3) E hx hn3 (k_L_count hlt hX) rfl dL_law_1195 gL_law_L_count rfl (by decide +kernel) ⟨rfl, rfl, by decide, by decide⟩ ⟨by show kc + 1 ≤ 639400; omega, by show ks + 6 ≤ 7177904; omega⟩ rfl rfl (Nat.le_of_ble_eq_true rfl) ?_
  refine j_istore E dL_law_1198 (by decide) ?_
  refine j_aload_n E dL_law_1200 rfl rfl ?_
  refine j_aload_n E dL_law_1201 rfl rfl ?_
  refine j_iload E dL_law_1202 rfl ?_
  refine j_iconst E dL_law_1204 (v := 1) (by decide) ?_
  refine j_iadd E dL_law_1205 ?_
  refine j_sld E hs.1 hs.2.1 hs.2.2.1 dL_law_1206 (j := 5 * j + 1) (nI_add (5 * j) 1) (by omega) hs.2.2.2 ?_
  refine j_callV1 (ci := 7) (n := 1) E (k_X7_count hM) dL_law_1207 gL_law_X7_count rfl (by decide +kernel) ⟨rfl, rfl, by decide, by decide⟩ ⟨by show kc + 1 ≤ 639400; omega, by show ks + 6 ≤ 7177904; omega⟩ hm1 hm2 rfl rfl rfl (Nat.le_of_ble_eq_true rfl) rfl ?_
  refine j_istore E dL_law_1210 (by decide) ?_
  refine j_aload_n E dL_law_1212 rfl rfl ?_
  refine j_callV1 (ci := 7) (n := 0) E (k_X7_thrown hM) dL_law_1213 gL_law_X7_thrown rfl (by decide +kernel) ⟨rfl, rfl, by decide, by decide⟩ ⟨by show kc + 1 ≤ 639400; omega, by show ks + 6 ≤ 7177904; omega⟩ hm1 hm2 rfl rfl rfl (Nat.le_of_ble_eq_true rfl) rfl ?_
  refine j_iload E dL_law_1216 rfl ?_
  refine j_icmp_eq E dL_law_1218 (tgt := 1223) (by decide) (fun _ => ?_) (fun q => absurd hS.1 q)
  refine j_iload E dL_law_1223 rfl ?_
  refine j_if_ne E dL_law_1225 (tgt := 1240) (by decide) (fun c0 => ?_) (fun c9 => ?_)
  · skip
    refine j_goto E dL_law_1240 (tgt := 1243) (by decide) ?_
    refine j_lv [0, 1, 2, 3, 4, 5] rfl ?_
    exact j_widen (by omega) (by omega) (nx _ _ _ h2)
  · have c0 : oK k1 (xCoO a M (xs (5 * j + 1))) = 0 := c9
    refine j_aload_n E dL_law_1228 rfl rfl ?_
    refine j_iconst E dL_law_1229 (v := 0) (by decide) ?_
    refine j_lald E dL_law_1230 ?_
    refine j_iload E dL_law_1231 rfl ?_
    refine j_i2l E dL_law_1233 ?_
    refine j_lcmp E dL_law_1234 ?_
    refine j_if_eq E dL_law_1235 (tgt := 1240) (by decide) (fun _ => ?_) (fun q => absurd (lCmp_0.mpr ?_) q)
    · skip
      refine j_goto E dL_law_1240 (tgt := 1243) (by decide) ?_
      refine j_lv [0, 1, 2, 3, 4, 5] rfl ?_
      exact j_widen (by omega) (by omega) (nx _ _ _ h2)
    · rw [lO_0 k1_ne c0, hS.2.2 c0]
end LAW
