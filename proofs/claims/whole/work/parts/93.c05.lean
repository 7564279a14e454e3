section LAW
variable {C : jC} {a m : Nat → Nat} {b L h j : Nat} {xs : Nat → Int32} {o : Nat → Int64} {v : Nat → UInt64} {M : pM} {kc ks : Nat} {Q : State → Prop}
theorem law_c05 (E : jE C cL_law 8 wsL_law RL ret room_1) (hlt : (jl C).stackTraces = false) (hx : xW (jA C) (js C) (js C).heap) (hn3 : xN3 (js C)) (hs : lS C b L xs) (hX : wX (jG C) a) (hM : wM (jG C) m) (A : sAd a m) (B : sAp a m) (h0 : simP zZ a m M M) (hj : 5 * j + 5 ≤ L) (hc : kc + 5 ≤ 639400 ∧ ks + 30 ≤ 7177904)
    (nx : ∀ (M2 : pM) (o2 : Nat → Int64) (v2 : Nat → UInt64), simP zZ a m M2 M2 → jW C 8 1243 (lvB a m b h j) [] (lX (jcy C) h o2 v2) M2 (kc + 5) (ks + 30) Q) : jW C 8 399 (lvB a m b h j) [] (lX (jcy C) h o v) M kc ks Q := by
  have hm1 := hM.1
  have hm2 := hM.2.1
  have hx1 := hX.1.1
  have hx2 := hX.1.2.1
  have hN : simP zZ a m M (oM (xRuO a M) M) := simP.x B h0 (frx_rule A h0)
  have hS := S_rule A hN
  have h2 := simP.mm B hS.2.1 frm_rule
  refine j_aload_n E dL_law_399 rfl rfl ?_
  refine j_aload_n E dL_law_400 rfl rfl ?_
  refine j_hS (n := 2) E hx hn3 (k_L_rule hlt hX) rfl dL_law_401 gL_law_L_rule rfl (by decide +kernel) ⟨rfl, rfl, by decide, by decide⟩ ⟨by show kc + 2 ≤ 639400; omega, by show ks + 12 ≤ 7177904; omega⟩ rfl rfl (Nat.le_of_ble_eq_true rfl) ?_
  refine j_istore E dL_law_404 (by decide) ?_
  refine j_aload_n E dL_law_406 rfl rfl ?_
  refine j_callV1 (ci := 7) (n := 0) E (k_X7_rule hM (mRs_no hN).1.choose_spec (mRs_no hN).2.1) dL_law_407 gL_law_X7_rule rfl (by decide +kernel) ⟨rfl, rfl, by decide, by decide⟩ ⟨by show kc + 2 ≤ 639400; omega, by show ks + 12 ≤ 7177904; omega⟩ hm1 hm2 rfl rfl rfl (Nat.le_of_ble_eq_true rfl) rfl ?_
  refine j_istore E dL_law_410 (by decide) ?_
  refine j_aload_n E dL_law_412 rfl rfl ?_
  refine j_callV1 (ci := 7) (n := 0) E (k_X7_thrown hM) dL_law_413 gL_law_X7_thrown rfl (by decide +kernel) ⟨rfl, rfl, by decide, by decide⟩ ⟨by show kc + 2 ≤ 639400; omega, by show ks + 12 ≤ 7177904; omega⟩ hm1 hm2 rfl rfl rfl (Nat.le_of_ble_eq_true rfl) rfl ?_
  refine j_iload E dL_law_416 rfl ?_
  refine j_icmp_eq E dL_law_418 (tgt := 423) (by decide) (fun _ => ?_) (fun q => absurd hS.1 q)
  refine j_iload E dL_law_423 rfl ?_
  refine j_if_ne E dL_law_425 (tgt := 440) (by decide) (fun c0 => ?_) (fun c9 => ?_)
  · skip
    refine j_goto E dL_law_440 (tgt := 1243) (by decide) ?_
    refine j_lv [0, 1, 2, 3, 4, 5] rfl ?_
    exact j_widen (by omega) (by omega) (nx _ _ _ h2)
  · have c0 : oK k1 (xRuO a M) = 0 := c9
    refine j_aload_n E dL_law_428 rfl rfl ?_
    refine j_iconst E dL_law_429 (v := 0) (by decide) ?_
    refine j_lald E dL_law_430 ?_
    refine j_iload E dL_law_431 rfl ?_
    refine j_i2l E dL_law_433 ?_
    refine j_lcmp E dL_law_434 ?_
    refine j_if_eq E dL_law_435 (tgt := 440) (by decide) (fun _ => ?_) (fun q => absurd (lCmp_0.mpr ?_) q)
    · skip
      refine j_goto E dL_law_440 (tgt := 1243) (by decide) ?_
      refine j_lv [0, 1, 2, 3, 4, 5] rfl ?_
      exact j_widen (by omega) (by omega) (nx _ _ _ h2)
    · rw [lO_0 k1_ne c0, hS.2.2 c0]
theorem law_c06 (E : jE C cL_law 8 wsL_law RL ret room_1) (hlt : (jl C).stackTraces = false) (hx : xW (jA C) (js C) (js C).heap) (hn3 : xN3 (js C)) (hs : lS C b L xs) (hX : wX (jG C) a) (hM : wM (jG C) m) (A : sAd a m) (B : sAp a m) (h0 : simP zZ a m M M) (hj : 5 * j + 5 ≤ L) (hc : kc + 5 ≤ 639400 ∧ ks + 30 ≤ 7177904)
    (nx : ∀ (M2 : pM) (o2 : Nat → Int64) (v2 : Nat → UInt64), simP zZ a m M2 M2 → jW C 8 1243 (lvB a m b h j) [] (lX (jcy C) h o2 v2) M2 (kc + 5) (ks + 30) Q) : jW C 8 443 (lvB a m b h j) [] (lX (jcy C) h o v) M kc ks Q := by
  have hm1 := hM.1
  have hm2 := hM.2.1
  have hx1 := hX.1.1
  have hx2 := hX.1.2.1
  have hN : simP zZ a m M (oM (xForgO a M) M) := simP.x B h0 frx_forget
  have hS := S_forget A hN
  have h2 := simP.mm B hS.2.1 frm_forget
  refine j_aload_n E dL_law_443 rfl rfl ?_
  refine j_aload_n E dL_law_444 rfl rfl ?_
  refine j_hS (n := 2) E hx hn3 (k_L_forget hlt hX) rfl dL_law_445 gL_law_L_forget rfl (by decide +kernel) ⟨rfl, rfl, by decide, by decide⟩ ⟨by show kc + 1 ≤ 639400; omega, by show ks + 6 ≤ 7177904; omega⟩ rfl rfl (Nat.le_of_ble_eq_true rfl) ?_
  refine j_istore E dL_law_448 (by decide) ?_
  refine j_aload_n E dL_law_450 rfl rfl ?_
  refine j_callV1 (ci := 7) (n := 0) E (k_X7_forget hM) dL_law_451 gL_law_X7_forget rfl (by decide +kernel) ⟨rfl, rfl, by decide, by decide⟩ ⟨by show kc + 1 ≤ 639400; omega, by show ks + 6 ≤ 7177904; omega⟩ hm1 hm2 rfl rfl rfl (Nat.le_of_ble_eq_true rfl) rfl ?_
  refine j_istore E dL_law_454 (by decide) ?_
  refine j_aload_n E dL_law_456 rfl rfl ?_
  refine j_callV1 (ci := 7) (n := 0) E (k_X7_thrown hM) dL_law_457 gL_law_X7_thrown rfl (by decide +kernel) ⟨rfl, rfl, by decide, by decide⟩ ⟨by show kc + 1 ≤ 639400; omega, by show ks + 6 ≤ 7177904; omega⟩ hm1 hm2 rfl rfl rfl (Nat.le_of_ble_eq_true rfl) rfl ?_
  refine j_iload E dL_law_460 rfl ?_
  refine j_icmp_eq E dL_law_462 (tgt := 467) (by decide) (fun _ => ?_) (fun q => absurd hS.1 q)
  refine j_iload E dL_law_467 rfl ?_
  refine j_if_ne E dL_law_469 (tgt := 484) (by decide) (fun c0 => ?_) (fun c9 => ?_)
  · skip
    refine j_goto E dL_law_484 (tgt := 1243) (by decide) ?_
    refine j_lv [0, 1, 2, 3, 4, 5] rfl ?_
    exact j_widen (by omega) (by omega) (nx _ _ _ h2)
  · have c0 : oK k1 (xForgO a M) = 0 := c9
    refine j_aload_n E dL_law_472 rfl rfl ?_
    refine j_iconst E dL_law_473 (v := 0) (by decide) ?_
    refine j_lald E dL_law_474 ?_
    refine j_iload E dL_law_475 rfl ?_
    refine j_i2l E dL_law_477 ?_
    refine j_lcmp E dL_law_478 ?_
    refine j_if_eq E dL_law_479 (tgt := 484) (by decide) (fun _ => ?_) (fun q => absurd (lCmp_0.mpr ?_) q)
    · skip
      refine j_goto E dL_law_484 (tgt := 1243) (by decide) ?_
      refine j_lv [0, 1, 2, 3, 4, 5] rfl ?_
      exact j_widen (by omega) (by omega) (nx _ _ _ h2)
    · rw [lO_0 k1_ne c0, hS.2.2 c0]
theorem law_c07 (E : jE C cL_law 8 wsL_law RL ret room_1) (hlt : (jl C).stackTraces = false) (hx : xW (jA C) (js C) (js C).heap) (hn3 : xN3 (js C)) (hs : lS C b L xs) (hX : wX (jG C) a) (hM : wM (jG C) m) (A : sAd a m) (B : sAp a m) (h0 : simP zZ a m M M) (hj : 5 * j + 5 ≤ L) (hc : kc + 5 ≤ 639400 ∧ ks + 30 ≤ 7177904)
    (nx : ∀ (M2 : pM) (o2 : Nat → Int64) (v2 : Nat → UInt64), simP zZ a m M2 M2 → jW C 8 1243 (lvB a m b h j) [] (lX (jcy C) h o2 v2) M2 (kc + 5) (ks + 30) Q) : jW C 8 487 (lvB a m b h j) [] (lX (jcy C) h o v) M kc ks Q := by
  have hm1 := hM.1
  have hm2 := hM.2.1
  have hx1 := hX.1.1
  have hx2 := hX.1.2.1
  have hN : simP zZ a m M (xPoll a M) := simP.x B h0 fr.poll
  have hS := S_poll A hN
  have h2 := simP.mm B hS.2 fr.mpoll
  refine j_aload_n E dL_law_487 rfl rfl ?_
  refine j_callV1 (ci := 6) (n := 0) E (k_X6_poll hX (poll_x A h0).1 (poll_x A h0).2) dL_law_488 gL_law_X6_poll rfl (by decide +kernel) ⟨rfl, rfl, by decide, by decide⟩ ⟨by show kc ≤ 639400; omega, by show ks ≤ 7177904; omega⟩ hx1 hx2 rfl rfl rfl (Nat.le_of_ble_eq_true rfl) rfl ?_
  refine j_aload_n E dL_law_491 rfl rfl ?_
  refine j_callV1 (ci := 7) (n := 0) E (k_X7_poll hM (poll_m A hN).1 (poll_m A hN).2.1 (poll_m A hN).2.2) dL_law_492 gL_law_X7_poll rfl (by decide +kernel) ⟨rfl, rfl, by decide, by decide⟩ ⟨by show kc ≤ 639400; omega, by show ks ≤ 7177904; omega⟩ hm1 hm2 rfl rfl rfl (Nat.le_of_ble_eq_true rfl) rfl ?_
  refine j_icmp_eq E dL_law_495 (tgt := 1243) (by decide) (fun _ => ?_) (fun q => absurd hS.1 q)
  refine j_lv [0, 1, 2, 3, 4, 5] rfl ?_
  exact j_widen (by omega) (by omega) (nx _ _ _ h2)
theorem law_c08 (E : jE C cL_law 8 wsL_law RL ret room_1) (hlt : (jl C).stackTraces = false) (hx : xW (jA C) (js C) (js C).heap) (hn3 : xN3 (js C)) (hs : lS C b L xs) (hX : wX (jG C) a) (hM : wM (jG C) m) (A : sAd a m) (B : sAp a m) (h0 : simP zZ a m M M) (hj : 5 * j + 5 ≤ L) (hc : kc + 5 ≤ 639400 ∧ ks + 30 ≤ 7177904)
    (nx : ∀ (M2 : pM) (o2 : Nat → Int64) (v2 : Nat → UInt64), simP zZ a m M2 M2 → jW C 8 1243 (lvB a m b h j) [] (lX (jcy C) h o2 v2) M2 (kc + 5) (ks + 30) Q) : jW C 8 500 (lvB a m b h j) [] (lX (jcy C) h o v) M kc ks Q := by
  have hm1 := hM.1
  have hm2 := hM.2.1
  have hx1 := hX.1.1
  have hx2 := hX.1.2.1
  have hN : simP zZ a m M (pI M (a 0) 8 (xKey (xs (5 * j + 1)))) := simP.x B h0 (fr.rf.I (Sa.mk (by omega)) _ _)
  have hS := S_key A hN (xs (5 * j + 1))
  have h2 := simP.mm B hS.2 ((fr.rf.I (Sm.mk (by omega)) _ _).I (Sm.mk (by omega)) _ _)
  refine j_aload_n E dL_law_500 rfl rfl ?_
  refine j_aload_n E dL_law_501 rfl rfl ?_
  refine j_iload E dL_law_502 rfl ?_
  refine j_iconst E dL_law_504 (v := 1) (by decide) ?_
  refine j_iadd E dL_law_505 ?_
  refine j_sld E hs.1 hs.2.1 hs.2.2.1 dL_law_506 (j := 5 * j + 1) (nI_add (5 * j) 1) (by omega) hs.2.2.2 ?_
  refine j_callV1 (ci := 6) (n := 1) E (k_X6_key hX) dL_law_507 gL_law_X6_key rfl (by decide +kernel) ⟨rfl, rfl, by decide, by decide⟩ ⟨by show kc ≤ 639400; omega, by show ks ≤ 7177904; omega⟩ hx1 hx2 rfl rfl rfl (Nat.le_of_ble_eq_true rfl) rfl ?_
  refine j_aload_n E dL_law_510 rfl rfl ?_
  refine j_aload_n E dL_law_511 rfl rfl ?_
  refine j_iload E dL_law_512 rfl ?_
  refine j_iconst E dL_law_514 (v := 1) (by decide) ?_
  refine j_iadd E dL_law_515 ?_
  refine j_sld E hs.1 hs.2.1 hs.2.2.1 dL_law_516 (j := 5 * j + 1) (nI_add (5 * j) 1) (by omega) hs.2.2.2 ?_
  refine j_callV1 (ci := 7) (n := 1) E (k_X7_key hM) dL_law_517 gL_law_X7_key rfl (by decide +kernel) ⟨rfl, rfl, by decide, by decide⟩ ⟨by show kc ≤ 639400; omega, by show ks ≤ 7177904; omega⟩ hm1 hm2 rfl rfl rfl (Nat.le_of_ble_eq_true rfl) rfl ?_
  refine j_icmp_eq E dL_law_520 (tgt := 1243) (by decide) (fun _ => ?_) (fun q => absurd hS.1 q)
  refine j_lv [0, 1, 2, 3, 4, 5] rfl ?_
  exact j_widen (by omega) (by omega) (nx _ _ _ h2)
theorem law_c09 (E : jE C cL_law 8 wsL_law RL ret room_1) (hlt : (jl C).stackTraces = false) (hx : xW (jA C) (js C) (js C).heap) (hn3 : xN3 (js C)) (hs : lS C b L xs) (hX : wX (jG C) a) (hM : wM (jG C) m) (A : sAd a m) (B : sAp a m) (h0 : simP zZ a m M M) (hj : 5 * j + 5 ≤ L) (hc : kc + 5 ≤ 639400 ∧ ks + 30 ≤ 7177904)
    (nx : ∀ (M2 : pM) (o2 : Nat → Int64) (v2 : Nat → UInt64), simP zZ a m M2 M2 → jW C 8 1243 (lvB a m b h j) [] (lX (jcy C) h o2 v2) M2 (kc + 5) (ks + 30) Q) : jW C 8 525 (lvB a m b h j) [] (lX (jcy C) h o v) M kc ks Q := by
  have hm1 := hM.1
  have hm2 := hM.2.1
  have hx1 := hX.1.1
  have hx2 := hX.1.2.1
  have hN : simP zZ a m M (oM (xSilO a M) M) := simP.x B h0 frx_silence
  have hS := S_silence A hN
  have h2 := simP.mm B hS.2.1 frm_silence
  refine j_aload_n E dL_law_525 rfl rfl ?_
  refine j_aload_n E dL_law_526 rfl rfl ?_
  refine j_hS (n := 2) E hx hn3 (k_L_silence hlt hX) rfl dL_law_527 gL_law_L_silence rfl (by decide +kernel) ⟨rfl, rfl, by decide, by decide⟩ ⟨by show kc + 1 ≤ 639400; omega, by show ks + 6 ≤ 7177904; omega⟩ rfl rfl (Nat.le_of_ble_eq_true rfl) ?_
  refine j_istore E dL_law_530 (by decide) ?_
  refine j_aload_n E dL_law_532 rfl rfl ?_
  refine j_callV1 (ci := 7) (n := 0) E (k_X7_silence hM) dL_law_533 gL_law_X7_silence rfl (by decide +kernel) ⟨rfl, rfl, by decide, by decide⟩ ⟨by show kc + 1 ≤ 639400; omega, by show ks + 6 ≤ 7177904; omega⟩ hm1 hm2 rfl rfl rfl (Nat.le_of_ble_eq_true rfl) rfl ?_
  refine j_istore E dL_law_536 (by decide) ?_
  refine j_aload_n E dL_law_538 rfl rfl ?_
  refine j_callV1 (ci := 7) (n := 0) E (k_X7_thrown hM) dL_law_539 gL_law_X7_thrown rfl (by decide +kernel) ⟨rfl, rfl, by decide, by decide⟩ ⟨by show kc + 1 ≤ 639400; omega, by show ks + 6 ≤ 7177904; omega⟩ hm1 hm2 rfl rfl rfl (Nat.le_of_ble_eq_true rfl) rfl ?_
  refine j_iload E dL_law_542 rfl ?_
  refine j_icmp_eq E dL_law_544 (tgt := 549) (by decide) (fun _ => ?_) (fun q => absurd hS.1 q)
  refine j_iload E dL_law_549 rfl ?_
  refine j_if_ne E dL_law_551 (tgt := 573) (by decide) (fun c0 => ?_) (fun c9 => ?_)
  · skip
    refine j_goto E dL_law_573 (tgt := 1243) (by decide) ?_
    refine j_lv [0, 1, 2, 3, 4, 5] rfl ?_
    exact j_widen (by omega) (by omega) (nx _ _ _ h2)
  · have c0 : oK k1 (xSilO a M) = 0 := c9
    refine j_aload_n E dL_law_554 rfl rfl ?_
    refine j_iconst E dL_law_555 (v := 0) (by decide) ?_
    refine j_lald E dL_law_556 ?_
    refine j_iload E dL_law_557 rfl ?_
    refine j_if_eq E dL_law_559 (tgt := 566) (by decide) (fun cb => ?_) (fun cb => ?_)
    · skip
      refine j_lconst E dL_law_566 (v := 0) (by decide) ?_
      refine j_lcmp E dL_law_567 ?_
      refine j_if_eq E dL_law_568 (tgt := 573) (by decide) (fun _ => ?_) (fun q => absurd (lCmp_0.mpr ?_) q)
      · skip
        refine j_goto E dL_law_573 (tgt := 1243) (by decide) ?_
        refine j_lv [0, 1, 2, 3, 4, 5] rfl ?_
        exact j_widen (by omega) (by omega) (nx _ _ _ h2)
      · rw [lO_0 k1_ne c0, hS.2.2 c0, cb]; decide
    · skip
      refine j_lconst E dL_law_562 (v := 1) (by decide) ?_
      refine j_goto E dL_law_563 (tgt := 567) (by decide) ?_
      refine j_lcmp E dL_law_567 ?_
      refine j_if_eq E dL_law_568 (tgt := 573) (by decide) (fun _ => ?_) (fun q => absurd (lCmp_0.mpr ?_) q)
      · skip
        refine j_goto E dL_law_573 (tgt := 1243) (by decide) ?_
        refine j_lv [0, 1, 2, 3, 4, 5] rfl ?_
        exact j_widen (by omega) (by omega) (nx _ _ _ h2)
      · rw [lO_0 k1_ne c0]
        rcases oV01 k1_ne (fun _ e => oR_silence e) c0 with e | e
        · exact absurd ((hS.2.2 c0).symm.trans e) cb
        · rw [e]; decide
end LAW
