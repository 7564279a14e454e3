section LAW
variable {C : jC} {a m : Nat → Nat} {b L h j : Nat} {xs : Nat → Int32} {o : Nat → Int64} {v : Nat → UInt64} {M : pM} {kc ks : Nat} {Q : State → Prop}
theorem law_c10 (E : jE C cL_law 8 wsL_law RL ret room_1) (hlt : (jl C).stackTraces = false) (hx : xW (jA C) (js C) (js C).heap) (hn3 : xN3 (js C)) (hs : lS C b L xs) (hX : wX (jG C) a) (hM : wM (jG C) m) (A : sAd a m) (B : sAp a m) (h0 : simP zZ a m M M) (hj : 5 * j + 5 ≤ L) (hc : kc + 5 ≤ 639400 ∧ ks + 30 ≤ 7177904)
    (nx : ∀ (M2 : pM) (o2 : Nat → Int64) (v2 : Nat → UInt64), simP zZ a m M2 M2 → jW C 8 1243 (lvB a m b h j) [] (lX (jcy C) h o2 v2) M2 (kc + 5) (ks + 30) Q) : jW C 8 576 (lvB a m b h j) [] (lX (jcy C) h o v) M kc ks Q := by
  have hm1 := hM.1
  have hm2 := hM.2.1
  have hx1 := hX.1.1
  have hx2 := hX.1.2.1
  have hN : simP zZ a m M (oM (xResO a M) M) := simP.x B h0 frx_reset
  have hS := S_reset A hN
  have h2 := simP.mm B hS.2.1 frm_reset
  refine j_aload_n E dL_law_576 rfl rfl ?_
  refine j_aload_n E dL_law_577 rfl rfl ?_
  refine j_hS (n := 2) E hx hn3 (k_L_reset hlt hX) rfl dL_law_578 gL_law_L_reset rfl (by decide +kernel) ⟨rfl, rfl, by decide, by decide⟩ ⟨by show kc + 1 ≤ 639400; omega, by show ks + 6 ≤ 7177904; omega⟩ rfl rfl (Nat.le_of_ble_eq_true rfl) ?_
  refine j_istore E dL_law_581 (by decide) ?_
  refine j_aload_n E dL_law_583 rfl rfl ?_
  refine j_callV1 (ci := 7) (n := 0) E (k_X7_reset hM) dL_law_584 gL_law_X7_reset rfl (by decide +kernel) ⟨rfl, rfl, by decide, by decide⟩ ⟨by show kc + 1 ≤ 639400; omega, by show ks + 6 ≤ 7177904; omega⟩ hm1 hm2 rfl rfl rfl (Nat.le_of_ble_eq_true rfl) rfl ?_
  refine j_istore E dL_law_587 (by decide) ?_
  refine j_aload_n E dL_law_589 rfl rfl ?_
  refine j_callV1 (ci := 7) (n := 0) E (k_X7_thrown hM) dL_law_590 gL_law_X7_thrown rfl (by decide +kernel) ⟨rfl, rfl, by decide, by decide⟩ ⟨by show kc + 1 ≤ 639400; omega, by show ks + 6 ≤ 7177904; omega⟩ hm1 hm2 rfl rfl rfl (Nat.le_of_ble_eq_true rfl) rfl ?_
  refine j_iload E dL_law_593 rfl ?_
  refine j_icmp_eq E dL_law_595 (tgt := 600) (by decide) (fun _ => ?_) (fun q => absurd hS.1 q)
  refine j_iload E dL_law_600 rfl ?_
  refine j_if_ne E dL_law_602 (tgt := 617) (by decide) (fun c0 => ?_) (fun c9 => ?_)
  · skip
    refine j_goto E dL_law_617 (tgt := 1243) (by decide) ?_
    refine j_lv [0, 1, 2, 3, 4, 5] rfl ?_
    exact j_widen (by omega) (by omega) (nx _ _ _ h2)
  · have c0 : oK k1 (xResO a M) = 0 := c9
    refine j_aload_n E dL_law_605 rfl rfl ?_
    refine j_iconst E dL_law_606 (v := 0) (by decide) ?_
    refine j_lald E dL_law_607 ?_
    refine j_iload E dL_law_608 rfl ?_
    refine j_i2l E dL_law_610 ?_
    refine j_lcmp E dL_law_611 ?_
    refine j_if_eq E dL_law_612 (tgt := 617) (by decide) (fun _ => ?_) (fun q => absurd (lCmp_0.mpr ?_) q)
    · skip
      refine j_goto E dL_law_617 (tgt := 1243) (by decide) ?_
      refine j_lv [0, 1, 2, 3, 4, 5] rfl ?_
      exact j_widen (by omega) (by omega) (nx _ _ _ h2)
    · rw [lO_0 k1_ne c0, hS.2.2 c0]
theorem law_c11 (E : jE C cL_law 8 wsL_law RL ret room_1) (hlt : (jl C).stackTraces = false) (hx : xW (jA C) (js C) (js C).heap) (hn3 : xN3 (js C)) (hs : lS C b L xs) (hX : wX (jG C) a) (hM : wM (jG C) m) (A : sAd a m) (B : sAp a m) (h0 : simP zZ a m M M) (hj : 5 * j + 5 ≤ L) (hc : kc + 5 ≤ 639400 ∧ ks + 30 ≤ 7177904)
    (nx : ∀ (M2 : pM) (o2 : Nat → Int64) (v2 : Nat → UInt64), simP zZ a m M2 M2 → jW C 8 1243 (lvB a m b h j) [] (lX (jcy C) h o2 v2) M2 (kc + 5) (ks + 30) Q) : jW C 8 620 (lvB a m b h j) [] (lX (jcy C) h o v) M kc ks Q := by
  by_cases cz : (xs (5 * j + 1)) = 0
  · by_cases cf : (xs (5 * j + 3)) = 0
    · skip
      have hm1 := hM.1
      have hm2 := hM.2.1
      have hx1 := hX.1.1
      have hx2 := hX.1.2.1
      have hN : simP zZ a m M (oM (xOffO a M 0 (xs (5 * j + 2)) 0) M) := simP.x B h0 (frx_off 0 (xs (5 * j + 2)) 0)
      have hS := S_off A hN 0 (xs (5 * j + 2)) 0
      have h2 := simP.mm B hS.2.1 (frm_off _ _ _)
      refine j_aload_n E dL_law_620 rfl rfl ?_
      refine j_aload_n E dL_law_621 rfl rfl ?_
      refine j_iload E dL_law_622 rfl ?_
      refine j_iconst E dL_law_624 (v := 1) (by decide) ?_
      refine j_iadd E dL_law_625 ?_
      refine j_sld E hs.1 hs.2.1 hs.2.2.1 dL_law_626 (j := 5 * j + 1) (nI_add (5 * j) 1) (by omega) hs.2.2.2 ?_
      refine j_if_eq E dL_law_627 (tgt := 634) (by decide) (fun _ => ?_) (fun q => absurd cz q)
      refine j_iconst E dL_law_634 (v := 0) (by decide) ?_
      refine j_aload_n E dL_law_635 rfl rfl ?_
      refine j_iload E dL_law_636 rfl ?_
      refine j_iconst E dL_law_638 (v := 2) (by decide) ?_
      refine j_iadd E dL_law_639 ?_
      refine j_sld E hs.1 hs.2.1 hs.2.2.1 dL_law_640 (j := 5 * j + 2) (nI_add (5 * j) 2) (by omega) hs.2.2.2 ?_
      refine j_aload_n E dL_law_641 rfl rfl ?_
      refine j_iload E dL_law_642 rfl ?_
      refine j_iconst E dL_law_644 (v := 3) (by decide) ?_
      refine j_iadd E dL_law_645 ?_
      refine j_sld E hs.1 hs.2.1 hs.2.2.1 dL_law_646 (j := 5 * j + 3) (nI_add (5 * j) 3) (by omega) hs.2.2.2 ?_
      refine j_if_eq E dL_law_647 (tgt := 654) (by decide) (fun _ => ?_) (fun q => absurd cf q)
      refine j_iconst E dL_law_654 (v := 0) (by decide) ?_
      refine j_aload_n E dL_law_655 rfl rfl ?_
      refine j_hS (n := 5) E hx hn3 (k_L_off hlt hX (by decide)) rfl dL_law_656 gL_law_L_off rfl (by decide +kernel) ⟨rfl, rfl, by decide, by decide⟩ ⟨by show kc + 2 ≤ 639400; omega, by show ks + 12 ≤ 7177904; omega⟩ rfl rfl (Nat.le_of_ble_eq_true rfl) ?_
      refine j_istore E dL_law_659 (by decide) ?_
      refine j_aload_n E dL_law_661 rfl rfl ?_
      refine j_aload_n E dL_law_662 rfl rfl ?_
      refine j_iload E dL_law_663 rfl ?_
      refine j_iconst E dL_law_665 (v := 1) (by decide) ?_
      refine j_iadd E dL_law_666 ?_
      refine j_sld E hs.1 hs.2.1 hs.2.2.1 dL_law_667 (j := 5 * j + 1) (nI_add (5 * j) 1) (by omega) hs.2.2.2 ?_
      refine j_if_eq E dL_law_668 (tgt := 675) (by decide) (fun _ => ?_) (fun q => absurd cz q)
      refine j_iconst E dL_law_675 (v := 0) (by decide) ?_
      refine j_aload_n E dL_law_676 rfl rfl ?_
      refine j_iload E dL_law_677 rfl ?_
      refine j_iconst E dL_law_679 (v := 2) (by decide) ?_
      refine j_iadd E dL_law_680 ?_
      refine j_sld E hs.1 hs.2.1 hs.2.2.1 dL_law_681 (j := 5 * j + 2) (nI_add (5 * j) 2) (by omega) hs.2.2.2 ?_
      refine j_aload_n E dL_law_682 rfl rfl ?_
      refine j_iload E dL_law_683 rfl ?_
      refine j_iconst E dL_law_685 (v := 3) (by decide) ?_
      refine j_iadd E dL_law_686 ?_
      refine j_sld E hs.1 hs.2.1 hs.2.2.1 dL_law_687 (j := 5 * j + 3) (nI_add (5 * j) 3) (by omega) hs.2.2.2 ?_
      refine j_if_eq E dL_law_688 (tgt := 695) (by decide) (fun _ => ?_) (fun q => absurd cf q)
      refine j_iconst E dL_law_695 (v := 0) (by decide) ?_
      refine j_callV1 (ci := 7) (n := 3) E (k_X7_off hM (by decide)) dL_law_696 gL_law_X7_off rfl (by decide +kernel) ⟨rfl, rfl, by decide, by decide⟩ ⟨by show kc + 2 ≤ 639400; omega, by show ks + 12 ≤ 7177904; omega⟩ hm1 hm2 rfl rfl rfl (Nat.le_of_ble_eq_true rfl) rfl ?_
      refine j_istore E dL_law_699 (by decide) ?_
      refine j_aload_n E dL_law_701 rfl rfl ?_
      refine j_callV1 (ci := 7) (n := 0) E (k_X7_thrown hM) dL_law_702 gL_law_X7_thrown rfl (by decide +kernel) ⟨rfl, rfl, by decide, by decide⟩ ⟨by show kc + 2 ≤ 639400; omega, by show ks + 12 ≤ 7177904; omega⟩ hm1 hm2 rfl rfl rfl (Nat.le_of_ble_eq_true rfl) rfl ?_
      refine j_iload E dL_law_705 rfl ?_
      refine j_icmp_eq E dL_law_707 (tgt := 712) (by decide) (fun _ => ?_) (fun q => absurd hS.1 q)
      refine j_iload E dL_law_712 rfl ?_
      refine j_if_ne E dL_law_714 (tgt := 736) (by decide) (fun c0 => ?_) (fun c9 => ?_)
      · skip
        refine j_goto E dL_law_736 (tgt := 1243) (by decide) ?_
        refine j_lv [0, 1, 2, 3, 4, 5] rfl ?_
        exact j_widen (by omega) (by omega) (nx _ _ _ h2)
      · have c0 : oK k2 (xOffO a M 0 (xs (5 * j + 2)) 0) = 0 := c9
        refine j_aload_n E dL_law_717 rfl rfl ?_
        refine j_iconst E dL_law_718 (v := 0) (by decide) ?_
        refine j_lald E dL_law_719 ?_
        refine j_iload E dL_law_720 rfl ?_
        refine j_if_eq E dL_law_722 (tgt := 729) (by decide) (fun cb => ?_) (fun cb => ?_)
        · skip
          refine j_lconst E dL_law_729 (v := 0) (by decide) ?_
          refine j_lcmp E dL_law_730 ?_
          refine j_if_eq E dL_law_731 (tgt := 736) (by decide) (fun _ => ?_) (fun q => absurd (lCmp_0.mpr ?_) q)
          · skip
            refine j_goto E dL_law_736 (tgt := 1243) (by decide) ?_
            refine j_lv [0, 1, 2, 3, 4, 5] rfl ?_
            exact j_widen (by omega) (by omega) (nx _ _ _ h2)
          · rw [lO_0 k2_ne c0, hS.2.2 c0, cb]; decide
        · skip
          refine j_lconst E dL_law_725 (v := 1) (by decide) ?_
          refine j_goto E dL_law_726 (tgt := 730) (by decide) ?_
          refine j_lcmp E dL_law_730 ?_
          refine j_if_eq E dL_law_731 (tgt := 736) (by decide) (fun _ => ?_) (fun q => absurd (lCmp_0.mpr ?_) q)
          · skip
            refine j_goto E dL_law_736 (tgt := 1243) (by decide) ?_
            refine j_lv [0, 1, 2, 3, 4, 5] rfl ?_
            exact j_widen (by omega) (by omega) (nx _ _ _ h2)
          · rw [lO_0 k2_ne c0]
            rcases oV01 k2_ne (fun _ e => oR_off e) c0 with e | e
            · exact absurd ((hS.2.2 c0).symm.trans e) cb
            · rw [e]; decide
    · skip
      have hm1 := hM.1
      have hm2 := hM.2.1
      have hx1 := hX.1.1
      have hx2 := hX.1.2.1
      have hN : simP zZ a m M (oM (xOffO a M 0 (xs (5 * j + 2)) 1) M) := simP.x B h0 (frx_off 0 (xs (5 * j + 2)) 1)
      have hS := S_off A hN 0 (xs (5 * j + 2)) 1
      have h2 := simP.mm B hS.2.1 (frm_off _ _ _)
      refine j_aload_n E dL_law_620 rfl rfl ?_
      refine j_aload_n E dL_law_621 rfl rfl ?_
      refine j_iload E dL_law_622 rfl ?_
      refine j_iconst E dL_law_624 (v := 1) (by decide) ?_
      refine j_iadd E dL_law_625 ?_
      refine j_sld E hs.1 hs.2.1 hs.2.2.1 dL_law_626 (j := 5 * j + 1) (nI_add (5 * j) 1) (by omega) hs.2.2.2 ?_
      refine j_if_eq E dL_law_627 (tgt := 634) (by decide) (fun _ => ?_) (fun q => absurd cz q)
      refine j_iconst E dL_law_634 (v := 0) (by decide) ?_
      refine j_aload_n E dL_law_635 rfl rfl ?_
      refine j_iload E dL_law_636 rfl ?_
      refine j_iconst E dL_law_638 (v := 2) (by decide) ?_
      refine j_iadd E dL_law_639 ?_
      refine j_sld E hs.1 hs.2.1 hs.2.2.1 dL_law_640 (j := 5 * j + 2) (nI_add (5 * j) 2) (by omega) hs.2.2.2 ?_
      refine j_aload_n E dL_law_641 rfl rfl ?_
      refine j_iload E dL_law_642 rfl ?_
      refine j_iconst E dL_law_644 (v := 3) (by decide) ?_
      refine j_iadd E dL_law_645 ?_
      refine j_sld E hs.1 hs.2.1 hs.2.2.1 dL_law_646 (j := 5 * j + 3) (nI_add (5 * j) 3) (by omega) hs.2.2.2 ?_
      refine j_if_eq E dL_law_647 (tgt := 654) (by decide) (fun q => absurd q cf) (fun _ => ?_)
      refine j_iconst E dL_law_650 (v := 1) (by decide) ?_
      refine j_goto E dL_law_651 (tgt := 655) (by decide) ?_
      refine j_aload_n E dL_law_655 rfl rfl ?_
      refine j_hS (n := 5) E hx hn3 (k_L_off hlt hX (by decide)) rfl dL_law_656 gL_law_L_off rfl (by decide +kernel) ⟨rfl, rfl, by decide, by decide⟩ ⟨by show kc + 2 ≤ 639400; omega, by show ks + 12 ≤ 7177904; omega⟩ rfl rfl (Nat.le_of_ble_eq_true rfl) ?_
      refine j_istore E dL_law_659 (by decide) ?_
      refine j_aload_n E dL_law_661 rfl rfl ?_
      refine j_aload_n E dL_law_662 rfl rfl ?_
      refine j_iload E dL_law_663 rfl ?_
      refine j_iconst E dL_law_665 (v := 1) (by decide) ?_
      refine j_iadd E dL_law_666 ?_
      refine j_sld E hs.1 hs.2.1 hs.2.2.1 dL_law_667 (j := 5 * j + 1) (nI_add (5 * j) 1) (by omega) hs.2.2.2 ?_
      refine j_if_eq E dL_law_668 (tgt := 675) (by decide) (fun _ => ?_) (fun q => absurd cz q)
      refine j_iconst E dL_law_675 (v := 0) (by decide) ?_
      refine j_aload_n E dL_law_676 rfl rfl ?_
      refine j_iload E dL_law_677 rfl ?_
      refine j_iconst E dL_law_679 (v := 2) (by decide) ?_
      refine j_iadd E dL_law_680 ?_
      refine j_sld E hs.1 hs.2.1 hs.2.2.1 dL_law_681 (j := 5 * j + 2) (nI_add (5 * j) 2) (by omega) hs.2.2.2 ?_
      refine j_aload_n E dL_law_682 rfl rfl ?_
      refine j_iload E dL_law_683 rfl ?_
      refine j_iconst E dL_law_685 (v := 3) (by decide) ?_
      refine j_iadd E dL_law_686 ?_
      refine j_sld E hs.1 hs.2.1 hs.2.2.1 dL_law_687 (j := 5 * j + 3) (nI_add (5 * j) 3) (by omega) hs.2.2.2 ?_
      refine j_if_eq E dL_law_688 (tgt := 695) (by decide) (fun q => absurd q cf) (fun _ => ?_)
      refine j_iconst E dL_law_691 (v := 1) (by decide) ?_
      refine j_goto E dL_law_692 (tgt := 696) (by decide) ?_
      refine j_callV1 (ci := 7) (n := 3) E (k_X7_off hM (by decide)) dL_law_696 gL_law_X7_off rfl (by decide +kernel) ⟨rfl, rfl, by decide, by decide⟩ ⟨by show kc + 2 ≤ 639400; omega, by show ks + 12 ≤ 7177904; omega⟩ hm1 hm2 rfl rfl rfl (Nat.le_of_ble_eq_true rfl) rfl ?_
      refine j_istore E dL_law_699 (by decide) ?_
      refine j_aload_n E dL_law_701 rfl rfl ?_
      refine j_callV1 (ci := 7) (n := 0) E (k_X7_thrown hM) dL_law_702 gL_law_X7_thrown rfl (by decide +kernel) ⟨rfl, rfl, by decide, by decide⟩ ⟨by show kc + 2 ≤ 639400; omega, by show ks + 12 ≤ 7177904; omega⟩ hm1 hm2 rfl rfl rfl (Nat.le_of_ble_eq_true rfl) rfl ?_
      refine j_iload E dL_law_705 rfl ?_
      refine j_icmp_eq E dL_law_707 (tgt := 712) (by decide) (fun _ => ?_) (fun q => absurd hS.1 q)
      refine j_iload E dL_law_712 rfl ?_
      refine j_if_ne E dL_law_714 (tgt := 736) (by decide) (fun c0 => ?_) (fun c9 => ?_)
      · skip
        refine j_goto E dL_law_736 (tgt := 1243) (by decide) ?_
        refine j_lv [0, 1, 2, 3, 4, 5] rfl ?_
        exact j_widen (by omega) (by omega) (nx _ _ _ h2)
      · have c0 : oK k2 (xOffO a M 0 (xs (5 * j + 2)) 1) = 0 := c9
        refine j_aload_n E dL_law_717 rfl rfl ?_
        refine j_iconst E dL_law_718 (v := 0) (by decide) ?_
        refine j_lald E dL_law_719 ?_
        refine j_iload E dL_law_720 rfl ?_
        refine j_if_eq E dL_law_722 (tgt := 729) (by decide) (fun cb => ?_) (fun cb => ?_)
        · skip
          refine j_lconst E dL_law_729 (v := 0) (by decide) ?_
          refine j_lcmp E dL_law_730 ?_
          refine j_if_eq E dL_law_731 (tgt := 736) (by decide) (fun _ => ?_) (fun q => absurd (lCmp_0.mpr ?_) q)
          · skip
            refine j_goto E dL_law_736 (tgt := 1243) (by decide) ?_
            refine j_lv [0, 1, 2, 3, 4, 5] rfl ?_
            exact j_widen (by omega) (by omega) (nx _ _ _ h2)
          · rw [lO_0 k2_ne c0, hS.2.2 c0, cb]; decide
        · skip
          refine j_lconst E dL_law_725 (v := 1) (by decide) ?_
          refine j_goto E dL_law_726 (tgt := 730) (by decide) ?_
          refine j_lcmp E dL_law_730 ?_
          refine j_if_eq E dL_law_731 (tgt := 736) (by decide) (fun _ => ?_) (fun q => absurd (lCmp_0.mpr ?_) q)
          · skip
            refine j_goto E dL_law_736 (tgt := 1243) (by decide) ?_
            refine j_lv [0, 1, 2, 3, 4, 5] rfl ?_
            exact j_widen (by omega) (by omega) (nx _ _ _ h2)
          · rw [lO_0 k2_ne c0]
            rcases oV01 k2_ne (fun _ e => oR_off e) c0 with e | e
            · exact absurd ((hS.2.2 c0).symm.trans e) cb
            · rw [e]; decide
  · by_cases cf : (xs (5 * j + 3)) = 0
    · skip
      have hm1 := hM.1
      have hm2 := hM.2.1
      have hx1 := hX.1.1
      have hx2 := hX.1.2.1
      have hN : simP zZ a m M (oM (xOffO a M 1 (xs (5 * j + 2)) 0) M) := simP.x B h0 (frx_off 1 (xs (5 * j + 2)) 0)
      have hS := S_off A hN 1 (xs (5 * j + 2)) 0
      have h2 := simP.mm B hS.2.1 (frm_off _ _ _)
      refine j_aload_n E dL_law_620 rfl rfl ?_
      refine j_aload_n E dL_law_621 rfl rfl ?_
      refine j_iload E dL_law_622 rfl ?_
      refine j_iconst E dL_law_624 (v := 1) (by decide) ?_
      refine j_iadd E dL_law_625 ?_
      refine j_sld E hs.1 hs.2.1 hs.2.2.1 dL_law_626 (j := 5 * j + 1) (nI_add (5 * j) 1) (by omega) hs.2.2.2 ?_
      refine j_if_eq E dL_law_627 (tgt := 634) (by decide) (fun q => absurd q cz) (fun _ => ?_)
      refine j_iconst E dL_law_630 (v := 1) (by decide) ?_
      refine j_goto E dL_law_631 (tgt := 635) (by decide) ?_
      refine j_aload_n E dL_law_635 rfl rfl ?_
      refine j_iload E dL_law_636 rfl ?_
      refine j_iconst E dL_law_638 (v := 2) (by decide) ?_
      refine j_iadd E dL_law_639 ?_
      refine j_sld E hs.1 hs.2.1 hs.2.2.1 dL_law_640 (j := 5 * j + 2) (nI_add (5 * j) 2) (by omega) hs.2.2.2 ?_
      refine j_aload_n E dL_law_641 rfl rfl ?_
      refine j_iload E dL_law_642 rfl ?_
      refine j_iconst E dL_law_644 (v := 3) (by decide) ?_
      refine j_iadd E dL_law_645 ?_
      refine j_sld E hs.1 hs.2.1 hs.2.2.1 dL_law_646 (j := 5 * j + 3) (nI_add (5 * j) 3) (by omega) hs.2.2.2 ?_
      refine j_if_eq E dL_law_647 (tgt := 654) (by decide) (fun _ => ?_) (fun q => absurd cf q)
      refine j_iconst E dL_law_654 (v := 0) (by decide) ?_
      refine j_aload_n E dL_law_655 rfl rfl ?_
      refine j_hS (n := 5) E hx hn3 (k_L_off hlt hX (by decide)) rfl dL_law_656 gL_law_L_off rfl (by decide +kernel) ⟨rfl, rfl, by decide, by decide⟩ ⟨by show kc + 2 ≤ 639400; omega, by show ks + 12 ≤ 7177904; omega⟩ rfl rfl (Nat.le_of_ble_eq_true rfl) ?_
      refine j_istore E dL_law_659 (by decide) ?_
      refine j_aload_n E dL_law_661 rfl rfl ?_
      refine j_aload_n E dL_law_662 rfl rfl ?_
      refine j_iload E dL_law_663 rfl ?_
      refine j_iconst E dL_law_665 (v := 1) (by decide) ?_
      refine j_iadd E dL_law_666 ?_
      refine j_sld E hs.1 hs.2.1 hs.2.2.1 dL_law_667 (j := 5 * j + 1) (nI_add (5 * j) 1) (by omega) hs.2.2.2 ?_
      refine j_if_eq E dL_law_668 (tgt := 675) (by decide) (fun q => absurd q cz) (fun _ => ?_)
      refine j_iconst E dL_law_671 (v := 1) (by decide) ?_
      refine j_goto E dL_law_672 (tgt := 676) (by decide) ?_
      refine j_aload_n E dL_law_676 rfl rfl ?_
      refine j_iload E dL_law_677 rfl ?_
      refine j_iconst E dL_law_679 (v := 2) (by decide) ?_
      refine j_iadd E dL_law_680 ?_
      refine j_sld E hs.1 hs.2.1 hs.2.2.1 dL_law_681 (j := 5 * j + 2) (nI_add (5 * j) 2) (by omega) hs.2.2.2 ?_
      refine j_aload_n E dL_law_682 rfl rfl ?_
      refine j_iload E dL_law_683 rfl ?_
      refine j_iconst E dL_law_685 (v := 3) (by decide) ?_
      refine j_iadd E dL_law_686 ?_
      refine j_sld E hs.1 hs.2.1 hs.2.2.1 dL_law_687 (j := 5 * j + 3) (nI_add (5 * j) 3) (by omega) hs.2.2.2 ?_
      refine j_if_eq E dL_law_688 (tgt := 695) (by decide) (fun _ => ?_) (fun q => absurd cf q)
      refine j_iconst E dL_law_695 (v := 0) (by decide) ?_
      refine j_callV1 (ci := 7) (n := 3) E (k_X7_off hM (by decide)) dL_law_696 gL_law_X7_off rfl (by decide +kernel) ⟨rfl, rfl, by decide, by decide⟩ ⟨by show kc + 2 ≤ 639400; omega, by show ks + 12 ≤ 7177904; omega⟩ hm1 hm2 rfl rfl rfl (Nat.le_of_ble_eq_true rfl) rfl ?_
      refine j_istore E dL_law_699 (by decide) ?_
      refine j_aload_n E dL_law_701 rfl rfl ?_
      refine j_callV1 (ci := 7) (n := 0) E (k_X7_thrown hM) dL_law_702 gL_law_X7_thrown rfl (by decide +kernel) ⟨rfl, rfl, by decide, by decide⟩ ⟨by show kc + 2 ≤ 639400; omega, by show ks + 12 ≤ 7177904; omega⟩ hm1 hm2 rfl rfl rfl (Nat.le_of_ble_eq_true rfl) rfl ?_
      refine j_iload E dL_law_705 rfl ?_
      refine j_icmp_eq E dL_law_707 (tgt := 712) (by decide) (fun _ => ?_) (fun q => absurd hS.1 q)
      refine j_iload E dL_law_712 rfl ?_
      refine j_if_ne E dL_law_714 (tgt := 736) (by decide) (fun c0 => ?_) (fun c9 => ?_)
      · skip
        refine j_goto E dL_law_736 (tgt := 1243) (by decide) ?_
        refine j_lv [0, 1, 2, 3, 4, 5] rfl ?_
        exact j_widen (by omega) (by omega) (nx _ _ _ h2)
      · have c0 : oK k2 (xOffO a M 1 (xs (5 * j + 2)) 0) = 0 := c9
        refine j_aload_n E dL_law_717 rfl rfl ?_
        refine j_iconst E dL_law_718 (v := 0) (by decide) ?_
        refine j_lald E dL_law_719 ?_
        refine j_iload E dL_law_720 rfl ?_
        refine j_if_eq E dL_law_722 (tgt := 729) (by decide) (fun cb => ?_) (fun cb => ?_)
        · skip
          refine j_lconst E dL_law_729 (v := 0) (by decide) ?_
          refine j_lcmp E dL_law_730 ?_
          refine j_if_eq E dL_law_731 (tgt := 736) (by decide) (fun _ => ?_) (fun q => absurd (lCmp_0.mpr ?_) q)
          · skip
            refine j_goto E dL_law_736 (tgt := 1243) (by decide) ?_
            refine j_lv [0, 1, 2, 3, 4, 5] rfl ?_
            exact j_widen (by omega) (by omega) (nx _ _ _ h2)
          · rw [lO_0 k2_ne c0, hS.2.2 c0, cb]; decide
        · skip
          refine j_lconst E dL_law_725 (v := 1) (by decide) ?_
          refine j_goto E dL_law_726 (tgt := 730) (by decide) ?_
          refine j_lcmp E dL_law_730 ?_
          refine j_if_eq E dL_law_731 (tgt := 736) (by decide) (fun _ => ?_) (fun q => absurd (lCmp_0.mpr ?_) q)
          · skip
            refine j_goto E dL_law_736 (tgt := 1243) (by decide) ?_
            refine j_lv [0, 1, 2, 3, 4, 5] rfl ?_
            exact j_widen (by omega) (by omega) (nx _ _ _ h2)
          · rw [lO_0 k2_ne c0]
            rcases oV01 k2_ne (fun _ e => oR_off e) c0 with e | e
            · exact absurd ((hS.2.2 c0).symm.trans e) cb
            · rw [e]; decide
    · skip
      have hm1 := hM.1
      have hm2 := hM.2.1
      have hx1 := hX.1.1
      have hx2 := hX.1.2.1
      have hN : simP zZ a m M (oM (xOffO a M 1 (xs (5 * j + 2)) 1) M) := simP.x B h0 (frx_off 1 (xs (5 * j + 2)) 1)
      have hS := S_off A hN 1 (xs (5 * j + 2)) 1
      have h2 := simP.mm B hS.2.1 (frm_off _ _ _)
      refine j_aload_n E dL_law_620 rfl rfl ?_
      refine j_aload_n E dL_law_621 rfl rfl ?_
      refine j_iload E dL_law_622 rfl ?_
      refine j_iconst E dL_law_624 (v := 1) (by decide) ?_
      refine j_iadd E dL_law_625 ?_
      refine j_sld E hs.1 hs.2.1 hs.2.2.1 dL_law_626 (j := 5 * j + 1) (nI_add (5 * j) 1) (by omega) hs.2.2.2 ?_
      refine j_if_eq E dL_law_627 (tgt := 634) (by decide) (fun q => absurd q cz) (fun _ => ?_)
      refine j_iconst E dL_law_630 (v := 1) (by decide) ?_
      refine j_goto E dL_law_631 (tgt := 635) (by decide) ?_
      refine j_aload_n E dL_law_635 rfl rfl ?_
      refine j_iload E dL_law_636 rfl ?_
      refine j_iconst E dL_law_638 (v := 2) (by decide) ?_
      refine j_iadd E dL_law_639 ?_
      refine j_sld E hs.1 hs.2.1 hs.2.2.1 dL_law_640 (j := 5 * j + 2) (nI_add (5 * j) 2) (by omega) hs.2.2.2 ?_
      refine j_aload_n E dL_law_641 rfl rfl ?_
      refine j_iload E dL_law_642 rfl ?_
      refine j_iconst E dL_law_644 (v := 3) (by decide) ?_
      refine j_iadd E dL_law_645 ?_
      refine j_sld E hs.1 hs.2.1 hs.2.2.1 dL_law_646 (j := 5 * j + 3) (nI_add (5 * j) 3) (by omega) hs.2.2.2 ?_
      refine j_if_eq E dL_law_647 (tgt := 654) (by decide) (fun q => absurd q cf) (fun _ => ?_)
      refine j_iconst E dL_law_650 (v := 1) (by decide) ?_
      refine j_goto E dL_law_651 (tgt := 655) (by decide) ?_
      refine j_aload_n E dL_law_655 rfl rfl ?_
      refine j_hS (n := 5) E hx hn3 (k_L_off hlt hX (by decide)) rfl dL_law_656 gL_law_L_off rfl (by decide +kernel) ⟨rfl, rfl, by decide, by decide⟩ ⟨by show kc + 2 ≤ 639400; omega, by show ks + 12 ≤ 7177904; omega⟩ rfl rfl (Nat.le_of_ble_eq_true rfl) ?_
      refine j_istore E dL_law_659 (by decide) ?_
      refine j_aload_n E dL_law_661 rfl rfl ?_
      refine j_aload_n E dL_law_662 rfl rfl ?_
      refine j_iload E dL_law_663 rfl ?_
      refine j_iconst E dL_law_665 (v := 1) (by decide) ?_
      refine j_iadd E dL_law_666 ?_
      refine j_sld E hs.1 hs.2.1 hs.2.2.1 dL_law_667 (j := 5 * j + 1) (nI_add (5 * j) 1) (by omega) hs.2.2.2 ?_
      refine j_if_eq E dL_law_668 (tgt := 675) (by decide) (fun q => absurd q cz) (fun _ => ?_)
      refine j_iconst E dL_law_671 (v := 1) (by decide) ?_
      refine j_goto E dL_law_672 (tgt := 676) (by decide) ?_
      refine j_aload_n E dL_law_676 rfl rfl ?_
      refine j_iload E dL_law_677 rfl ?_
      refine j_iconst E dL_law_679 (v := 2) (by decide) ?_
      refine j_iadd E dL_law_680 ?_
      refine j_sld E hs.1 hs.2.1 hs.2.2.1 dL_law_681 (j := 5 * j + 2) (nI_add (5 * j) 2) (by omega) hs.2.2.2 ?_
      refine j_aload_n E dL_law_682 rfl rfl ?_
      refine j_iload E dL_law_683 rfl ?_
      refine j_iconst E dL_law_685 (v := 3) (by decide) ?_
      refine j_iadd E dL_law_686 ?_
      refine j_sld E hs.1 hs.2.1 hs.2.2.1 dL_law_687 (j := 5 * j + 3) (nI_add (5 * j) 3) (by omega) hs.2.2.2 ?_
      refine j_if_eq E dL_law_688 (tgt := 695) (by decide) (fun q => absurd q cf) (fun _ => ?_)
      refine j_iconst E dL_law_691 (v := 1) (by decide) ?_
      refine j_goto E dL_law_692 (tgt := 696) (by decide) ?_
      refine j_callV1 (ci := 7) (n := 3) E (k_X7_off hM (by decide)) dL_law_696 gL_law_X7_off rfl (by decide +kernel) ⟨rfl, rfl, by decide, by decide⟩ ⟨by show kc + 2 ≤ 639400; omega, by show ks + 12 ≤ 7177904; omega⟩ hm1 hm2 rfl rfl rfl (Nat.le_of_ble_eq_true rfl) rfl ?_
      refine j_istore E dL_law_699 (by decide) ?_
      refine j_aload_n E dL_law_701 rfl rfl ?_
      refine j_callV1 (ci := 7) (n := 0) E (k_X7_thrown hM) dL_law_702 gL_law_X7_thrown rfl (by decide +kernel) ⟨rfl, rfl, by decide, by decide⟩ ⟨by show kc + 2 ≤ 639400; omega, by show ks + 12 ≤ 7177904; omega⟩ hm1 hm2 rfl rfl rfl (Nat.le_of_ble_eq_true rfl) rfl ?_
      refine j_iload E dL_law_705 rfl ?_
      refine j_icmp_eq E dL_law_707 (tgt := 712) (by decide) (fun _ => ?_) (fun q => absurd hS.1 q)
      refine j_iload E dL_law_712 rfl ?_
      refine j_if_ne E dL_law_714 (tgt := 736) (by decide) (fun c0 => ?_) (fun c9 => ?_)
      · skip
        refine j_goto E dL_law_736 (tgt := 1243) (by decide) ?_
        refine j_lv [0, 1, 2, 3, 4, 5] rfl ?_
        exact j_widen (by omega) (by omega) (nx _ _ _ h2)
      · have c0 : oK k2 (xOffO a M 1 (xs (5 * j + 2)) 1) = 0 := c9
        refine j_aload_n E dL_law_717 rfl rfl ?_
        refine j_iconst E dL_law_718 (v := 0) (by decide) ?_
        refine j_lald E dL_law_719 ?_
        refine j_iload E dL_law_720 rfl ?_
        refine j_if_eq E dL_law_722 (tgt := 729) (by decide) (fun cb => ?_) (fun cb => ?_)
        · skip
          refine j_lconst E dL_law_729 (v := 0) (by decide) ?_
          refine j_lcmp E dL_law_730 ?_
          refine j_if_eq E dL_law_731 (tgt := 736) (by decide) (fun _ => ?_) (fun q => absurd (lCmp_0.mpr ?_) q)
          · skip
            refine j_goto E dL_law_736 (tgt := 1243) (by decide) ?_
            refine j_lv [0, 1, 2, 3, 4, 5] rfl ?_
            exact j_widen (by omega) (by omega) (nx _ _ _ h2)
          · rw [lO_0 k2_ne c0, hS.2.2 c0, cb]; decide
        · skip
          refine j_lconst E dL_law_725 (v := 1) (by decide) ?_
          refine j_goto E dL_law_726 (tgt := 730) (by decide) ?_
          refine j_lcmp E dL_law_730 ?_
          refine j_if_eq E dL_law_731 (tgt := 736) (by decide) (fun _ => ?_) (fun q => absurd (lCmp_0.mpr ?_) q)
          · skip
            refine j_goto E dL_law_736 (tgt := 1243) (by decide) ?_
            refine j_lv [0, 1, 2, 3, 4, 5] rfl ?_
            exact j_widen (by omega) (by omega) (nx _ _ _ h2)
          · rw [lO_0 k2_ne c0]
            rcases oV01 k2_ne (fun _ e => oR_off e) c0 with e | e
            · exact absurd ((hS.2.2 c0).symm.trans e) cb
            · rw [e]; decide
theorem law_c12 (E : jE C cL_law 8 wsL_law RL ret room_1) (hlt : (jl C).stackTraces = false) (hx : xW (jA C) (js C) (js C).heap) (hn3 : xN3 (js C)) (hs : lS C b L xs) (hX : wX (jG C) a) (hM : wM (jG C) m) (A : sAd a m) (B : sAp a m) (h0 : simP zZ a m M M) (hj : 5 * j + 5 ≤ L) (hc : kc + 5 ≤ 639400 ∧ ks + 30 ≤ 7177904)
    (nx : ∀ (M2 : pM) (o2 : Nat → Int64) (v2 : Nat → UInt64), simP zZ a m M2 M2 → jW C 8 1243 (lvB a m b h j) [] (lX (jcy C) h o2 v2) M2 (kc + 5) (ks + 30) Q) : jW C 8 739 (lvB a m b h j) [] (lX (jcy C) h o v) M kc ks Q := by
  have hm1 := hM.1
  have hm2 := hM.2.1
  have hx1 := hX.1.1
  have hx2 := hX.1.2.1
  have hN : simP zZ a m M (oM (xLevO a M (xs (5 * j + 1)) 5) M) := simP.x B h0 (frx_ask (oM_lev _ _))
  have hS := S_level A hN (xs (5 * j + 1)) (s := 5) (k := 7) (by omega) (by omega) rfl
  have h2 := simP.mm B hS.2.1 (frm_thrown _)
  refine j_aload_n E dL_law_739 rfl rfl ?_
  refine j_aload_n E dL_law_740 rfl rfl ?_
  refine j_iload E dL_law_741 rfl ?_
  refine j_iconst E dL_law_743 (v := 1) (by decide) ?_
  refine j_iadd E dL_law_744 ?_
  refine j_sld E hs.1 hs.2.1 hs.2.2.1 dL_law_745 (j := 5 * j + 1) (nI_add (5 * j) 1) (by omega) hs.2.2.2 ?_
  refine j_aload E dL_law_746 rfl ?_
  refine j_hS (n := 3) E hx hn3 (k_L_level hlt hX (mLv_no h0).1) rfl dL_law_748 gL_law_L_level rfl (by decide +kernel) ⟨rfl, rfl, by decide, by decide⟩ ⟨by show kc + 1 ≤ 639400; omega, by show ks + 6 ≤ 7177904; omega⟩ rfl rfl (Nat.le_of_ble_eq_true rfl) ?_
  refine j_istore E dL_law_751 (by decide) ?_
  refine j_aload_n E dL_law_753 rfl rfl ?_
  refine j_aload_n E dL_law_754 rfl rfl ?_
  refine j_iload E dL_law_755 rfl ?_
  refine j_iconst E dL_law_757 (v := 1) (by decide) ?_
  refine j_iadd E dL_law_758 ?_
  refine j_sld E hs.1 hs.2.1 hs.2.2.1 dL_law_759 (j := 5 * j + 1) (nI_add (5 * j) 1) (by omega) hs.2.2.2 ?_
  refine j_callV1 (ci := 7) (n := 1) E (k_X7_level hM) dL_law_760 gL_law_X7_level rfl (by decide +kernel) ⟨rfl, rfl, by decide, by decide⟩ ⟨by show kc + 1 ≤ 639400; omega, by show ks + 6 ≤ 7177904; omega⟩ hm1 hm2 rfl rfl rfl (Nat.le_of_ble_eq_true rfl) rfl ?_
  refine j_fstore E dL_law_763 (by decide) ?_
  refine j_aload_n E dL_law_765 rfl rfl ?_
  refine j_callV1 (ci := 7) (n := 0) E (k_X7_thrown hM) dL_law_766 gL_law_X7_thrown rfl (by decide +kernel) ⟨rfl, rfl, by decide, by decide⟩ ⟨by show kc + 1 ≤ 639400; omega, by show ks + 6 ≤ 7177904; omega⟩ hm1 hm2 rfl rfl rfl (Nat.le_of_ble_eq_true rfl) rfl ?_
  refine j_iload E dL_law_769 rfl ?_
  refine j_icmp_eq E dL_law_771 (tgt := 776) (by decide) (fun _ => ?_) (fun q => absurd hS.1 q)
  refine j_iload E dL_law_776 rfl ?_
  refine j_if_ne E dL_law_778 (tgt := 814) (by decide) (fun c0 => ?_) (fun c9 => ?_)
  · skip
    refine j_goto E dL_law_814 (tgt := 1243) (by decide) ?_
    refine j_lv [0, 1, 2, 3, 4, 5] rfl ?_
    exact j_widen (by omega) (by omega) (nx _ _ _ h2)
  · have c0 : oK k1 (xLevO a M (xs (5 * j + 1)) 5) = 0 := c9
    have hnf : vf_n64 (FP.f2d (oF (xLevO a M (xs (5 * j + 1)) 5))) := lev_no h0 (by simp) c0
    refine j_aload E dL_law_781 rfl ?_
    refine j_iconst E dL_law_783 (v := 0) (by decide) ?_
    refine j_dald E dL_law_784 ?_
    refine j_fload E dL_law_785 rfl ?_
    refine j_f2d E dL_law_787 (by rw [← hS.2.2 c0]; exact hnf) ?_
    refine j_dcmp E dL_law_788 ?_
    refine j_if_eq E dL_law_789 (tgt := 814) (by decide) (fun _ => ?_) (fun q => absurd ?_ q)
    · skip
      refine j_goto E dL_law_814 (tgt := 1243) (by decide) ?_
      refine j_lv [0, 1, 2, 3, 4, 5] rfl ?_
      exact j_widen (by omega) (by omega) (nx _ _ _ h2)
    · rw [lD_0 k1_ne c0, ← hS.2.2 c0]; exact dcmp_l hnf
theorem law_c13 (E : jE C cL_law 8 wsL_law RL ret room_1) (hlt : (jl C).stackTraces = false) (hx : xW (jA C) (js C) (js C).heap) (hn3 : xN3 (js C)) (hs : lS C b L xs) (hX : wX (jG C) a) (hM : wM (jG C) m) (A : sAd a m) (B : sAp a m) (h0 : simP zZ a m M M) (hj : 5 * j + 5 ≤ L) (hc : kc + 5 ≤ 639400 ∧ ks + 30 ≤ 7177904)
    (nx : ∀ (M2 : pM) (o2 : Nat → Int64) (v2 : Nat → UInt64), simP zZ a m M2 M2 → jW C 8 1243 (lvB a m b h j) [] (lX (jcy C) h o2 v2) M2 (kc + 5) (ks + 30) Q) : jW C 8 817 (lvB a m b h j) [] (lX (jcy C) h o v) M kc ks Q := by
  have hm1 := hM.1
  have hm2 := hM.2.1
  have hx1 := hX.1.1
  have hx2 := hX.1.2.1
  have hN : simP zZ a m M (oM (xLevO a M (xs (5 * j + 1)) 4) M) := simP.x B h0 (frx_ask (oM_lev _ _))
  have hS := S_level A hN (xs (5 * j + 1)) (s := 4) (k := 6) (by omega) (by omega) rfl
  have h2 := simP.mm B hS.2.1 (frm_thrown _)
  refine j_aload_n E dL_law_817 rfl rfl ?_
  refine j_aload_n E dL_law_818 rfl rfl ?_
  refine j_iload E dL_law_819 rfl ?_
  refine j_iconst E dL_law_821 (v := 1) (by decide) ?_
  refine j_iadd E dL_law_822 ?_
  refine j_sld E hs.1 hs.2.1 hs.2.2.1 dL_law_823 (j := 5 * j + 1) (nI_add (5 * j) 1) (by omega) hs.2.2.2 ?_
  refine j_aload E dL_law_824 rfl ?_
  refine j_hS (n := 3) E hx hn3 (k_L_base hlt hX (mLv_no h0).2.1) rfl dL_law_826 gL_law_L_base rfl (by decide +kernel) ⟨rfl, rfl, by decide, by decide⟩ ⟨by show kc + 1 ≤ 639400; omega, by show ks + 6 ≤ 7177904; omega⟩ rfl rfl (Nat.le_of_ble_eq_true rfl) ?_
  refine j_istore E dL_law_829 (by decide) ?_
  refine j_aload_n E dL_law_831 rfl rfl ?_
  refine j_aload_n E dL_law_832 rfl rfl ?_
  refine j_iload E dL_law_833 rfl ?_
  refine j_iconst E dL_law_835 (v := 1) (by decide) ?_
  refine j_iadd E dL_law_836 ?_
  refine j_sld E hs.1 hs.2.1 hs.2.2.1 dL_law_837 (j := 5 * j + 1) (nI_add (5 * j) 1) (by omega) hs.2.2.2 ?_
  refine j_callV1 (ci := 7) (n := 1) E (k_X7_base hM) dL_law_838 gL_law_X7_base rfl (by decide +kernel) ⟨rfl, rfl, by decide, by decide⟩ ⟨by show kc + 1 ≤ 639400; omega, by show ks + 6 ≤ 7177904; omega⟩ hm1 hm2 rfl rfl rfl (Nat.le_of_ble_eq_true rfl) rfl ?_
  refine j_fstore E dL_law_841 (by decide) ?_
  refine j_aload_n E dL_law_843 rfl rfl ?_
  refine j_callV1 (ci := 7) (n := 0) E (k_X7_thrown hM) dL_law_844 gL_law_X7_thrown rfl (by decide +kernel) ⟨rfl, rfl, by decide, by decide⟩ ⟨by show kc + 1 ≤ 639400; omega, by show ks + 6 ≤ 7177904; omega⟩ hm1 hm2 rfl rfl rfl (Nat.le_of_ble_eq_true rfl) rfl ?_
  refine j_iload E dL_law_847 rfl ?_
  refine j_icmp_eq E dL_law_849 (tgt := 854) (by decide) (fun _ => ?_) (fun q => absurd hS.1 q)
  refine j_iload E dL_law_854 rfl ?_
  refine j_if_ne E dL_law_856 (tgt := 892) (by decide) (fun c0 => ?_) (fun c9 => ?_)
  · skip
    refine j_goto E dL_law_892 (tgt := 1243) (by decide) ?_
    refine j_lv [0, 1, 2, 3, 4, 5] rfl ?_
    exact j_widen (by omega) (by omega) (nx _ _ _ h2)
  · have c0 : oK k1 (xLevO a M (xs (5 * j + 1)) 4) = 0 := c9
    have hnf : vf_n64 (FP.f2d (oF (xLevO a M (xs (5 * j + 1)) 4))) := lev_no h0 (by simp) c0
    refine j_aload E dL_law_859 rfl ?_
    refine j_iconst E dL_law_861 (v := 0) (by decide) ?_
    refine j_dald E dL_law_862 ?_
    refine j_fload E dL_law_863 rfl ?_
    refine j_f2d E dL_law_865 (by rw [← hS.2.2 c0]; exact hnf) ?_
    refine j_dcmp E dL_law_866 ?_
    refine j_if_eq E dL_law_867 (tgt := 892) (by decide) (fun _ => ?_) (fun q => absurd ?_ q)
    · skip
      refine j_goto E dL_law_892 (tgt := 1243) (by decide) ?_
      refine j_lv [0, 1, 2, 3, 4, 5] rfl ?_
      exact j_widen (by omega) (by omega) (nx _ _ _ h2)
    · rw [lD_0 k1_ne c0, ← hS.2.2 c0]; exact dcmp_l hnf
theorem law_c14 (E : jE C cL_law 8 wsL_law RL ret room_1) (hlt : (jl C).stackTraces = false) (hx : xW (jA C) (js C) (js C).heap) (hn3 : xN3 (js C)) (hs : lS C b L xs) (hX : wX (jG C) a) (hM : wM (jG C) m) (A : sAd a m) (B : sAp a m) (h0 : simP zZ a m M M) (hj : 5 * j + 5 ≤ L) (hc : kc + 5 ≤ 639400 ∧ ks + 30 ≤ 7177904)
    (nx : ∀ (M2 : pM) (o2 : Nat → Int64) (v2 : Nat → UInt64), simP zZ a m M2 M2 → jW C 8 1243 (lvB a m b h j) [] (lX (jcy C) h o2 v2) M2 (kc + 5) (ks + 30) Q) : jW C 8 895 (lvB a m b h j) [] (lX (jcy C) h o v) M kc ks Q := by
  have hm1 := hM.1
  have hm2 := hM.2.1
  have hx1 := hX.1.1
  have hx2 := hX.1.2.1
  have hN : simP zZ a m M (oM (xPlO a M (xs (5 * j + 1))) M) := simP.x B h0 (frx_ask (oM_pl _))
  have hS := S_place A hN (xs (5 * j + 1))
  have h2 := simP.mm B hS.2.1 (frm_thrown _)
  refine j_aload_n E dL_law_895 rfl rfl ?_
  refine j_aload_n E dL_law_896 rfl rfl ?_
  refine j_iload E dL_law_897 rfl ?_
  refine j_iconst E dL_law_899 (v := 1) (by decide) ?_
  refine j_iadd E dL_law_900 ?_
  refine j_sld E hs.1 hs.2.1 hs.2.2.1 dL_law_901 (j := 5 * j + 1) (nI_add (5 * j) 1) (by omega) hs.2.2.2 ?_
  refine j_aload_n E dL_law_902 rfl rfl ?_
  refine j_hS (n := 3) E hx hn3 (k_L_place hlt hX) rfl dL_law_903 gL_law_L_place rfl (by decide +kernel) ⟨rfl, rfl, by decide, by decide⟩ ⟨by show kc + 1 ≤ 639400; omega, by show ks + 6 ≤ 7177904; omega⟩ rfl rfl (Nat.le_of_ble_eq_true rfl) ?_
  refine j_istore E dL_law_906 (by decide) ?_
  refine j_aload_n E dL_law_908 rfl rfl ?_
  refine j_aload_n E dL_law_909 rfl rfl ?_
  refine j_iload E dL_law_910 rfl ?_
  refine j_iconst E dL_law_912 (v := 1) (by decide) ?_
  refine j_iadd E dL_law_913 ?_
  refine j_sld E hs.1 hs.2.1 hs.2.2.1 dL_law_914 (j := 5 * j + 1) (nI_add (5 * j) 1) (by omega) hs.2.2.2 ?_
  refine j_callV1 (ci := 7) (n := 1) E (k_X7_place hM) dL_law_915 gL_law_X7_place rfl (by decide +kernel) ⟨rfl, rfl, by decide, by decide⟩ ⟨by show kc + 1 ≤ 639400; omega, by show ks + 6 ≤ 7177904; omega⟩ hm1 hm2 rfl rfl rfl (Nat.le_of_ble_eq_true rfl) rfl ?_
  refine j_istore E dL_law_918 (by decide) ?_
  refine j_aload_n E dL_law_920 rfl rfl ?_
  refine j_callV1 (ci := 7) (n := 0) E (k_X7_thrown hM) dL_law_921 gL_law_X7_thrown rfl (by decide +kernel) ⟨rfl, rfl, by decide, by decide⟩ ⟨by show kc + 1 ≤ 639400; omega, by show ks + 6 ≤ 7177904; omega⟩ hm1 hm2 rfl rfl rfl (Nat.le_of_ble_eq_true rfl) rfl ?_
  refine j_iload E dL_law_924 rfl ?_
  refine j_icmp_eq E dL_law_926 (tgt := 931) (by decide) (fun _ => ?_) (fun q => absurd hS.1 q)
  refine j_iload E dL_law_931 rfl ?_
  refine j_if_ne E dL_law_933 (tgt := 948) (by decide) (fun c0 => ?_) (fun c9 => ?_)
  · skip
    refine j_goto E dL_law_948 (tgt := 1243) (by decide) ?_
    refine j_lv [0, 1, 2, 3, 4, 5] rfl ?_
    exact j_widen (by omega) (by omega) (nx _ _ _ h2)
  · have c0 : oK k1 (xPlO a M (xs (5 * j + 1))) = 0 := c9
    refine j_aload_n E dL_law_936 rfl rfl ?_
    refine j_iconst E dL_law_937 (v := 0) (by decide) ?_
    refine j_lald E dL_law_938 ?_
    refine j_iload E dL_law_939 rfl ?_
    refine j_i2l E dL_law_941 ?_
    refine j_lcmp E dL_law_942 ?_
    refine j_if_eq E dL_law_943 (tgt := 948) (by decide) (fun _ => ?_) (fun q => absurd (lCmp_0.mpr ?_) q)
    · skip
      refine j_goto E dL_law_948 (tgt := 1243) (by decide) ?_
      refine j_lv [0, 1, 2, 3, 4, 5] rfl ?_
      exact j_widen (by omega) (by omega) (nx _ _ _ h2)
    · rw [lO_0 k1_ne c0, hS.2.2 c0]
end LAW
