/-! THE LOOP. -/
theorem lst {j L : Nat} (hL : L ≤ 2560) (hj : j ≤ 512) : nI L - 5 < nI (5 * j) ↔ L < 5 * j + 5 := by
  have e : (nI L - 5).toInt = (L : Int) - 5 := pk_sub_toInt (a := L) (b := 5) (by omega) (by omega)
  rw [Int32.lt_iff_toInt_lt, e, nI_toInt (by omega)]
  omega
section LOOP
variable {C : jC} {a m : Nat → Nat} {b L h : Nat} {xs : Nat → Int32} {Q : State → Prop}
theorem law_loop (E : jE C cL_law 8 wsL_law RL ret room_1) (hlt : (jl C).stackTraces = false) (hx : xW (jA C) (js C) (js C).heap) (hn3 : xN3 (js C)) (hs : lS C b L xs) (hX : wX (jG C) a) (hM : wM (jG C) m) (A : sAd a m) (B : sAp a m) (hL : L ≤ 2560)
    (fin : ∀ (M : pM) (o : Nat → Int64) (v : Nat → UInt64) (lv : List (Nat × Value)), jW C 8 1249 lv [] (lX (jcy C) h o v) M 639400 7177904 Q) (n : Nat) :
    ∀ (j : Nat) (M : pM) (o : Nat → Int64) (v : Nat → UInt64), n + j = L / 5 → simP zZ a m M M → jW C 8 28 (lvB a m b h j) [] (lX (jcy C) h o v) M (71 + 5 * j) (979 + 30 * j) Q := by
  induction n with
  | zero =>
    intro j M o v hj h0
    refine j_iload E dL_law_28 rfl ?_
    refine j_aload_n E dL_law_30 rfl rfl ?_
    refine j_slen E hs.1 hs.2.1 hs.2.2.1 dL_law_31 ?_
    refine j_iconst E dL_law_32 (v := 5) (by decide) ?_
    refine j_isub E dL_law_33 ?_
    refine j_icmp_gt E dL_law_34 (tgt := 1249) (by decide) (fun _ => ?_) (fun q => absurd ((lst hL (by omega)).mpr (by omega)) q)
    exact j_widen (by omega) (by omega) (fin M o v _)
  | succ n ih =>
    intro j M o v hj h0
    have hj5 : 5 * j + 5 ≤ L := by omega
    refine j_iload E dL_law_28 rfl ?_
    refine j_aload_n E dL_law_30 rfl rfl ?_
    refine j_slen E hs.1 hs.2.1 hs.2.2.1 dL_law_31 ?_
    refine j_iconst E dL_law_32 (v := 5) (by decide) ?_
    refine j_isub E dL_law_33 ?_
    refine j_icmp_gt E dL_law_34 (tgt := 1249) (by decide) (fun q => absurd q (fun z => absurd ((lst hL (by omega)).mp z) (by omega))) (fun _ => ?_)
    refine j_aload_n E dL_law_37 rfl rfl ?_
    refine j_iload E dL_law_38 rfl ?_
    refine j_sld E hs.1 hs.2.1 hs.2.2.1 dL_law_40 (j := 5 * j) rfl (by omega) hs.2.2.2 ?_
    refine j_bipush E dL_law_41 (v := 31) (by decide) ?_
    refine j_iand E dL_law_43 ?_
    have nx : ∀ (M2 : pM) (o2 : Nat → Int64) (v2 : Nat → UInt64), simP zZ a m M2 M2 → jW C 8 1243 (lvB a m b h j) [] (lX (jcy C) h o2 v2) M2 (71 + 5 * j + 5) (979 + 30 * j + 30) Q := by
      intro M2 o2 v2 h2
      have e : nI (5 * j) + Int32.ofInt 5 = nI (5 * (j + 1)) := nI_add (5 * j) 5
      refine j_iinc E dL_law_1243 rfl (by decide) ?_
      rw [e]
      refine j_goto E dL_law_1246 (tgt := 28) (by decide) ?_
      refine j_lv [0, 1, 2, 3, 4, 5] rfl ?_
      exact j_widen (by omega) (by omega) (ih (j + 1) M2 o2 v2 (by omega) h2)
    have hc : 71 + 5 * j + 5 ≤ 639400 ∧ 979 + 30 * j + 30 ≤ 7177904 := ⟨by omega, by omega⟩
    generalize xs (5 * j) &&& 31 = x
    rcases i_tab x 0 19 (by decide) with hout | ⟨k, -, hk, e⟩
    · refine j_tabOut E dL_law_44 hout (tgt := 1243) (by decide) ?_
      exact j_widen (by omega) (by omega) (nx M o v h0)
    · subst e
      have hk2 : k = 0 ∨ k = 1 ∨ k = 2 ∨ k = 3 ∨ k = 4 ∨ k = 5 ∨ k = 6 ∨ k = 7 ∨ k = 8 ∨ k = 9 ∨ k = 10 ∨ k = 11 ∨ k = 12 ∨ k = 13 ∨ k = 14 ∨ k = 15 ∨ k = 16 ∨ k = 17 ∨ k = 18 ∨ k = 19 := by omega
      rcases hk2 with rfl | rfl | rfl | rfl | rfl | rfl | rfl | rfl | rfl | rfl | rfl | rfl | rfl | rfl | rfl | rfl | rfl | rfl | rfl | rfl
      · refine j_tabIn E dL_law_44 (off := 96) (tgt := 140) (by decide) (by decide) (by decide) (by decide) ?_
        exact law_c00 E hlt hx hn3 hs hX hM A B h0 hj5 hc nx
      · refine j_tabIn E dL_law_44 (off := 176) (tgt := 220) (by decide) (by decide) (by decide) (by decide) ?_
        exact law_c01 E hlt hx hn3 hs hX hM A B h0 hj5 hc nx
      · refine j_tabIn E dL_law_44 (off := 224) (tgt := 268) (by decide) (by decide) (by decide) (by decide) ?_
        exact law_c02 E hlt hx hn3 hs hX hM A B h0 hj5 hc nx
      · refine j_tabIn E dL_law_44 (off := 272) (tgt := 316) (by decide) (by decide) (by decide) (by decide) ?_
        exact law_c03 E hlt hx hn3 hs hX hM A B h0 hj5 hc nx
      · refine j_tabIn E dL_law_44 (off := 328) (tgt := 372) (by decide) (by decide) (by decide) (by decide) ?_
        exact law_c04 E hlt hx hn3 hs hX hM A B h0 hj5 hc nx
      · refine j_tabIn E dL_law_44 (off := 355) (tgt := 399) (by decide) (by decide) (by decide) (by decide) ?_
        exact law_c05 E hlt hx hn3 hs hX hM A B h0 hj5 hc nx
      · refine j_tabIn E dL_law_44 (off := 399) (tgt := 443) (by decide) (by decide) (by decide) (by decide) ?_
        exact law_c06 E hlt hx hn3 hs hX hM A B h0 hj5 hc nx
      · refine j_tabIn E dL_law_44 (off := 443) (tgt := 487) (by decide) (by decide) (by decide) (by decide) ?_
        exact law_c07 E hlt hx hn3 hs hX hM A B h0 hj5 hc nx
      · refine j_tabIn E dL_law_44 (off := 456) (tgt := 500) (by decide) (by decide) (by decide) (by decide) ?_
        exact law_c08 E hlt hx hn3 hs hX hM A B h0 hj5 hc nx
      · refine j_tabIn E dL_law_44 (off := 481) (tgt := 525) (by decide) (by decide) (by decide) (by decide) ?_
        exact law_c09 E hlt hx hn3 hs hX hM A B h0 hj5 hc nx
      · refine j_tabIn E dL_law_44 (off := 532) (tgt := 576) (by decide) (by decide) (by decide) (by decide) ?_
        exact law_c10 E hlt hx hn3 hs hX hM A B h0 hj5 hc nx
      · refine j_tabIn E dL_law_44 (off := 576) (tgt := 620) (by decide) (by decide) (by decide) (by decide) ?_
        exact law_c11 E hlt hx hn3 hs hX hM A B h0 hj5 hc nx
      · refine j_tabIn E dL_law_44 (off := 695) (tgt := 739) (by decide) (by decide) (by decide) (by decide) ?_
        exact law_c12 E hlt hx hn3 hs hX hM A B h0 hj5 hc nx
      · refine j_tabIn E dL_law_44 (off := 773) (tgt := 817) (by decide) (by decide) (by decide) (by decide) ?_
        exact law_c13 E hlt hx hn3 hs hX hM A B h0 hj5 hc nx
      · refine j_tabIn E dL_law_44 (off := 851) (tgt := 895) (by decide) (by decide) (by decide) (by decide) ?_
        exact law_c14 E hlt hx hn3 hs hX hM A B h0 hj5 hc nx
      · refine j_tabIn E dL_law_44 (off := 907) (tgt := 951) (by decide) (by decide) (by decide) (by decide) ?_
        exact law_c15 E hlt hx hn3 hs hX hM A B h0 hj5 hc nx
      · refine j_tabIn E dL_law_44 (off := 963) (tgt := 1007) (by decide) (by decide) (by decide) (by decide) ?_
        exact law_c16 E hlt hx hn3 hs hX hM A B h0 hj5 hc nx
      · refine j_tabIn E dL_law_44 (off := 1019) (tgt := 1063) (by decide) (by decide) (by decide) (by decide) ?_
        exact law_c17 E hlt hx hn3 hs hX hM A B h0 hj5 hc nx
      · refine j_tabIn E dL_law_44 (off := 1075) (tgt := 1119) (by decide) (by decide) (by decide) (by decide) ?_
        exact law_c18 E hlt hx hn3 hs hX hM A B h0 hj5 hc nx
      · refine j_tabIn E dL_law_44 (off := 1143) (tgt := 1187) (by decide) (by decide) (by decide) (by decide) ?_
        exact law_c19 E hlt hx hn3 hs hX hM A B h0 hj5 hc nx
end LOOP
