set_option maxHeartbeats 4000000 in
set_option maxRecDepth 100000 in
theorem w_swap {p : Program} {l : Launch} {e : Env} {s : State} {m : MethodId} {below : List Frame} {meth : Method} {c : Code} {b L B0 : Nat} {xs : Nat → Int32} {G : zK} {Q : State → Prop} {cells slots : Nat} {i : Nat} {ls : Array Slot} {H : Heap} {locs : List Loc} {F : zM} {σ : Sg} {th : Int32} (K : zCtx p s m c b L B0 xs) (hl0 : l.stackTraces = false) (hi : i + 5 ≤ L) (hRc : cells + 40 ≤ room_1.cells) (hRs : slots + 600 ≤ room_1.slots) (hl : lv_has ls 9 (zLv b B0 i)) (hJ : zLI G B0 F σ th) (hI : zI G B0 s H locs F)
    (kk : ∀ (ls : Array Slot) (H : Heap) (locs : List Loc) (F : zM) (σ : Sg) (th : Int32), lv_has ls 9 (zLv b B0 i) → zLI G B0 F σ th → zI G B0 s H locs F → W p l e room_1 s m #[Value.ref b] below meth c H locs (cells + 40) (slots + 600) Q (F0 m 3367 ls [])) : W p l e room_1 s m #[Value.ref b] below meth c H locs cells slots Q (F0 m 2613 ls []) := by
  obtain ⟨hx, hb, hml, hown, hts, hX, hbB, hsz, hL⟩ := K
  obtain ⟨hC, hM, hW, ⟨fo, hO⟩, fd, hD⟩ := hJ
  have hK := hC.ok hW
  have hl : lv_has ls 9 [(0, .ref b), (1, .ref B0), (2, .ref (B0 + 23)), (3, .ref (B0 + 41)), (4, .ref (B0 + 42)), (5, .int (nI i))] := hl
  refine lv_aload_n hx hb dL_law_2613 rfl (lv_at hl 1 rfl) ?_
  refine lv_aload_n hx hb dL_law_2614 rfl (lv_at hl 0 rfl) ?_
  refine lv_iload hx hb dL_law_2615 (lv_at hl 5 rfl) ?_
  refine lv_iconst (v := nI 1) hx hb dL_law_2617 (by decide) ?_
  refine lv_iadd hx hb dL_law_2618 ?_
  refine z_topi (nI_add i 1) ?_
  refine z_sld (k := i + 1) hx hb hI hX hbB hsz hL (by omega) dL_law_2619 ?_
  refine lv_aload_n hx hb dL_law_2620 rfl (lv_at hl 0 rfl) ?_
  refine lv_iload hx hb dL_law_2621 (lv_at hl 5 rfl) ?_
  refine lv_iconst (v := nI 2) hx hb dL_law_2623 (by decide) ?_
  refine lv_iadd hx hb dL_law_2624 ?_
  refine z_topi (nI_add i 2) ?_
  refine z_sld (k := i + 2) hx hb hI hX hbB hsz hL (by omega) dL_law_2625 ?_
  refine lv_aload_n hx hb dL_law_2626 rfl (lv_at hl 0 rfl) ?_
  refine lv_iload hx hb dL_law_2627 (lv_at hl 5 rfl) ?_
  refine lv_iconst (v := nI 3) hx hb dL_law_2629 (by decide) ?_
  refine lv_iadd hx hb dL_law_2630 ?_
  refine z_topi (nI_add i 3) ?_
  refine z_sld (k := i + 3) hx hb hI hX hbB hsz hL (by omega) dL_law_2631 ?_
  refine lv_aload_n hx hb dL_law_2632 rfl (lv_at hl 3 rfl) ?_
  refine z_calli hI (z_H (As := [.ref B0, .int (xs (i + 1)), .int (xs (i + 2)), .int (xs (i + 3)), .ref (B0 + 41)]) (rest := []) ⟨hx, hb, hml, hown, hts⟩ hI (c_L_swap l hl0 G B0 F σ (xs (i + 1)) (xs (i + 2)) (xs (i + 3)) fo hC hK hO) (z_cwH vL_swap hts q561 ⟨Nat.le_of_ble_eq_true rfl, Nat.le_of_ble_eq_true rfl⟩) rfl hl.1 rfl (lv_room (Nat.le_of_ble_eq_true rfl)) dL_law_2633 ⟨by omega, by omega⟩) (fun r5 F1 H locs hp5 hI => ?_)
  obtain ⟨hz1, ⟨σ1, fo1, hC1, ha1, hy1, hn1⟩, hf1⟩ := hp5
  have hM1 : MS G B0 F1 σ th := hM.goB (fun q h1 h2 => hf1 q h1 (by omega))
  have hD1 := (hf1 (B0 + 42) (by omega) (by omega)).trans hD
  refine lv_istore (lv' := [(6, .int r5), (0, .ref b), (1, .ref B0), (2, .ref (B0 + 23)), (3, .ref (B0 + 41)), (4, .ref (B0 + 42)), (5, .int (nI i))]) hx hb dL_law_2636 hl (by decide) rfl (fun ls hl => ?_)
  refine lv_aload_n hx hb dL_law_2638 rfl (lv_at hl 3 rfl) ?_
  refine lv_aload_n hx hb dL_law_2639 rfl (lv_at hl 1 rfl) ?_
  refine lv_iload hx hb dL_law_2640 (lv_at hl 6 rfl) ?_
  refine lv_iconst (v := nI 1) hx hb dL_law_2642 (by decide) ?_
  refine lv_iadd hx hb dL_law_2643 ?_
  refine z_topi (nI_add i 1) ?_
  refine z_sld (k := i + 1) hx hb hI hX hbB hsz hL (by omega) dL_law_2644 ?_
  refine lv_aload_n hx hb dL_law_2645 rfl (lv_at hl 1 rfl) ?_
  refine lv_iload hx hb dL_law_2646 (lv_at hl 6 rfl) ?_
  refine lv_iconst (v := nI 2) hx hb dL_law_2648 (by decide) ?_
  refine lv_iadd hx hb dL_law_2649 ?_
  refine z_topi (nI_add i 2) ?_
  refine z_sld (k := i + 2) hx hb hI hX hbB hsz hL (by omega) dL_law_2650 ?_
  refine lv_aload_n hx hb dL_law_2651 rfl (lv_at hl 1 rfl) ?_
  refine lv_iload hx hb dL_law_2652 (lv_at hl 6 rfl) ?_
  refine lv_iconst (v := nI 3) hx hb dL_law_2654 (by decide) ?_
  refine lv_iadd hx hb dL_law_2655 ?_
  refine z_topi (nI_add i 3) ?_
  refine z_sld (k := i + 3) hx hb hI hX hbB hsz hL (by omega) dL_law_2656 ?_
  refine z_calli hI (z_V (As := [.int (xs (i + 1)), .int (xs (i + 2)), .int (xs (i + 3))]) (rest := []) ⟨hx, hb, hml, hown, hts⟩ hI hM1.1 rfl (c_X4_swap l G B0 F1 σ th (xs (i + 1)) (xs (i + 2)) (xs (i + 3)) hM1 hK) (z_cwV vX4_swap hts q1008 ⟨Nat.le_of_ble_eq_true rfl, Nat.le_of_ble_eq_true rfl⟩) rfl hl.1 rfl (lv_room (Nat.le_of_ble_eq_true rfl)) dL_law_2657 ⟨by omega, by omega⟩) (fun r6 F2 H locs hp6 hI => ?_)
  obtain ⟨th2, σ2, hM2, hz2, hy2, hn2, hf2⟩ := hp6
  have hb2 := (hf2 (B0 + 41) (Or.inr (by omega))).trans ha1
  refine lv_istore (lv' := [(7, .int r6), (6, .int r5), (0, .ref b), (1, .ref B0), (2, .ref (B0 + 23)), (3, .ref (B0 + 41)), (4, .ref (B0 + 42)), (5, .int (nI i))]) hx hb dL_law_2660 hl (by decide) rfl (fun ls hl => ?_)
  refine lv_aload_n hx hb dL_law_2662 rfl (lv_at hl 4 rfl) ?_
  refine z_calli hI (z_V (As := []) (rest := []) ⟨hx, hb, hml, hown, hts⟩ hI hM2.1 rfl (c_X4_thrown l G B0 F2 σ2 th2 hM2) (z_cwV vX4_thrown hts q726 ⟨Nat.le_of_ble_eq_true rfl, Nat.le_of_ble_eq_true rfl⟩) rfl hl.1 rfl (lv_room (Nat.le_of_ble_eq_true rfl)) dL_law_2663 ⟨by omega, by omega⟩) (fun r7 F3 H locs hp7 hI => ?_)
  obtain ⟨rfl, rfl⟩ := hp7
  refine lv_iload hx hb dL_law_2666 (lv_at hl 1 rfl) ?_
  refine lv_icmp_eq (tgt := 2673) hx hb dL_law_2668 (by decide) (fun hq4 => ?_) (fun hq4 => ?_)
  · refine lv_iload hx hb dL_law_2673 (lv_at hl 1 rfl) ?_
    refine lv_if_ne (tgt := 2690) hx hb dL_law_2675 (by decide) (fun hq5 => ?_) (fun hq5 => ?_)
    · have hno := zTh_n hz1 hq5
      refine lv_goto (tgt := 3367) hx hb dL_law_2690 (by decide) ?_
      refine W.widen (k := cells + 40) (n := slots + 600) (by omega) (by omega) ?_
      exact kk _ _ _ _ _ _ (lv_sub hl [2, 3, 4, 5, 6, 7] rfl) (zLI_end hC1 ha1 hD1 hM2 hf2 ((hn2 hno).trans (hn1 hno).symm) (by rw [hn1 hno]; exact hW)) hI
    · have hok := zTh_0 hz1 hq5
      obtain ⟨hs1, hv1⟩ := hy1 hok
      obtain ⟨hs2, hv2⟩ := hy2 hok
      have hv : fo1 0 = r6.toInt64 := hv1.trans (congrArg Int32.toInt64 hv2.symm)
      refine lv_aload_n hx hb dL_law_2678 rfl (lv_at hl 5 rfl) ?_
      refine lv_iconst (v := nI 0) hx hb dL_law_2679 (by decide) ?_
      refine z_lld (k := 0) hx hb hI hb2 (by decide) (by decide) dL_law_2680 ?_
      refine lv_iload hx hb dL_law_2681 (lv_at hl 0 rfl) ?_
      refine lv_i2l hx hb dL_law_2683 rfl ?_
      refine W.lcmp hx hb dL_law_2684 ?_
      refine lv_if_eq (tgt := 2690) hx hb dL_law_2685 (by decide) (fun hq6 => ?_) (fun hq6 => ?_)
      · refine lv_goto (tgt := 3367) hx hb dL_law_2690 (by decide) ?_
        refine W.widen (k := cells + 40) (n := slots + 600) (by omega) (by omega) ?_
        exact kk _ _ _ _ _ _ (lv_sub hl [2, 3, 4, 5, 6, 7] rfl) (zLI_end hC1 ha1 hD1 hM2 hf2 (hs2.trans hs1.symm) (by rw [hs1]; exact wk_swap hK hW hok.1 hok.2.1)) hI
      · exact absurd (by rw [hv]; exact lg_self) hq6
  · exact absurd (zTh_eq hz2 hz1) hq4

set_option maxHeartbeats 4000000 in
set_option maxRecDepth 100000 in
theorem w_fill {p : Program} {l : Launch} {e : Env} {s : State} {m : MethodId} {below : List Frame} {meth : Method} {c : Code} {b L B0 : Nat} {xs : Nat → Int32} {G : zK} {Q : State → Prop} {cells slots : Nat} {i : Nat} {ls : Array Slot} {H : Heap} {locs : List Loc} {F : zM} {σ : Sg} {th : Int32} (K : zCtx p s m c b L B0 xs) (hl0 : l.stackTraces = false) (hi : i + 5 ≤ L) (hRc : cells + 40 ≤ room_1.cells) (hRs : slots + 600 ≤ room_1.slots) (hl : lv_has ls 9 (zLv b B0 i)) (hJ : zLI G B0 F σ th) (hI : zI G B0 s H locs F)
    (kk : ∀ (ls : Array Slot) (H : Heap) (locs : List Loc) (F : zM) (σ : Sg) (th : Int32), lv_has ls 9 (zLv b B0 i) → zLI G B0 F σ th → zI G B0 s H locs F → W p l e room_1 s m #[Value.ref b] below meth c H locs (cells + 40) (slots + 600) Q (F0 m 3367 ls [])) : W p l e room_1 s m #[Value.ref b] below meth c H locs cells slots Q (F0 m 2693 ls []) := by
  obtain ⟨hx, hb, hml, hown, hts, hX, hbB, hsz, hL⟩ := K
  obtain ⟨hC, hM, hW, ⟨fo, hO⟩, fd, hD⟩ := hJ
  have hK := hC.ok hW
  have hl : lv_has ls 9 [(0, .ref b), (1, .ref B0), (2, .ref (B0 + 23)), (3, .ref (B0 + 41)), (4, .ref (B0 + 42)), (5, .int (nI i))] := hl
  refine lv_aload_n hx hb dL_law_2693 rfl (lv_at hl 1 rfl) ?_
  refine lv_aload_n hx hb dL_law_2694 rfl (lv_at hl 0 rfl) ?_
  refine lv_iload hx hb dL_law_2695 (lv_at hl 5 rfl) ?_
  refine lv_iconst (v := nI 1) hx hb dL_law_2697 (by decide) ?_
  refine lv_iadd hx hb dL_law_2698 ?_
  refine z_topi (nI_add i 1) ?_
  refine z_sld (k := i + 1) hx hb hI hX hbB hsz hL (by omega) dL_law_2699 ?_
  refine lv_aload_n hx hb dL_law_2700 rfl (lv_at hl 0 rfl) ?_
  refine lv_iload hx hb dL_law_2701 (lv_at hl 5 rfl) ?_
  refine lv_iconst (v := nI 2) hx hb dL_law_2703 (by decide) ?_
  refine lv_iadd hx hb dL_law_2704 ?_
  refine z_topi (nI_add i 2) ?_
  refine z_sld (k := i + 2) hx hb hI hX hbB hsz hL (by omega) dL_law_2705 ?_
  refine lv_aload_n hx hb dL_law_2706 rfl (lv_at hl 0 rfl) ?_
  refine lv_iload hx hb dL_law_2707 (lv_at hl 5 rfl) ?_
  refine lv_iconst (v := nI 3) hx hb dL_law_2709 (by decide) ?_
  refine lv_iadd hx hb dL_law_2710 ?_
  refine z_topi (nI_add i 3) ?_
  refine z_sld (k := i + 3) hx hb hI hX hbB hsz hL (by omega) dL_law_2711 ?_
  refine lv_aload_n hx hb dL_law_2712 rfl (lv_at hl 0 rfl) ?_
  refine lv_iload hx hb dL_law_2713 (lv_at hl 5 rfl) ?_
  refine lv_iconst (v := nI 4) hx hb dL_law_2715 (by decide) ?_
  refine lv_iadd hx hb dL_law_2716 ?_
  refine z_topi (nI_add i 4) ?_
  refine z_sld (k := i + 4) hx hb hI hX hbB hsz hL (by omega) dL_law_2717 ?_
  refine lv_aload_n hx hb dL_law_2718 rfl (lv_at hl 3 rfl) ?_
  refine z_calli hI (z_H (As := [.ref B0, .int (xs (i + 1)), .int (xs (i + 2)), .int (xs (i + 3)), .int (xs (i + 4)), .ref (B0 + 41)]) (rest := []) ⟨hx, hb, hml, hown, hts⟩ hI (c_L_fill l hl0 G B0 F σ (xs (i + 1)) (xs (i + 2)) (xs (i + 3)) (xs (i + 4)) fo hC hK hO) (z_cwH vL_fill hts q569 ⟨Nat.le_of_ble_eq_true rfl, Nat.le_of_ble_eq_true rfl⟩) rfl hl.1 rfl (lv_room (Nat.le_of_ble_eq_true rfl)) dL_law_2719 ⟨by omega, by omega⟩) (fun r5 F1 H locs hp5 hI => ?_)
  obtain ⟨hz1, ⟨σ1, fo1, hC1, ha1, hy1, hn1⟩, hf1⟩ := hp5
  have hM1 : MS G B0 F1 σ th := hM.goB (fun q h1 h2 => hf1 q h1 (by omega))
  have hD1 := (hf1 (B0 + 42) (by omega) (by omega)).trans hD
  refine lv_istore (lv' := [(6, .int r5), (0, .ref b), (1, .ref B0), (2, .ref (B0 + 23)), (3, .ref (B0 + 41)), (4, .ref (B0 + 42)), (5, .int (nI i))]) hx hb dL_law_2722 hl (by decide) rfl (fun ls hl => ?_)
  refine lv_aload_n hx hb dL_law_2724 rfl (lv_at hl 3 rfl) ?_
  refine lv_aload_n hx hb dL_law_2725 rfl (lv_at hl 1 rfl) ?_
  refine lv_iload hx hb dL_law_2726 (lv_at hl 6 rfl) ?_
  refine lv_iconst (v := nI 1) hx hb dL_law_2728 (by decide) ?_
  refine lv_iadd hx hb dL_law_2729 ?_
  refine z_topi (nI_add i 1) ?_
  refine z_sld (k := i + 1) hx hb hI hX hbB hsz hL (by omega) dL_law_2730 ?_
  refine lv_aload_n hx hb dL_law_2731 rfl (lv_at hl 1 rfl) ?_
  refine lv_iload hx hb dL_law_2732 (lv_at hl 6 rfl) ?_
  refine lv_iconst (v := nI 2) hx hb dL_law_2734 (by decide) ?_
  refine lv_iadd hx hb dL_law_2735 ?_
  refine z_topi (nI_add i 2) ?_
  refine z_sld (k := i + 2) hx hb hI hX hbB hsz hL (by omega) dL_law_2736 ?_
  refine lv_aload_n hx hb dL_law_2737 rfl (lv_at hl 1 rfl) ?_
  refine lv_iload hx hb dL_law_2738 (lv_at hl 6 rfl) ?_
  refine lv_iconst (v := nI 3) hx hb dL_law_2740 (by decide) ?_
  refine lv_iadd hx hb dL_law_2741 ?_
  refine z_topi (nI_add i 3) ?_
  refine z_sld (k := i + 3) hx hb hI hX hbB hsz hL (by omega) dL_law_2742 ?_
  refine lv_aload_n hx hb dL_law_2743 rfl (lv_at hl 1 rfl) ?_
  refine lv_iload hx hb dL_law_2744 (lv_at hl 6 rfl) ?_
  refine lv_iconst (v := nI 4) hx hb dL_law_2746 (by decide) ?_
  refine lv_iadd hx hb dL_law_2747 ?_
  refine z_topi (nI_add i 4) ?_
  refine z_sld (k := i + 4) hx hb hI hX hbB hsz hL (by omega) dL_law_2748 ?_
  refine z_calli hI (z_V (As := [.int (xs (i + 1)), .int (xs (i + 2)), .int (xs (i + 3)), .int (xs (i + 4))]) (rest := []) ⟨hx, hb, hml, hown, hts⟩ hI hM1.1 rfl (c_X4_fill l G B0 F1 σ th (xs (i + 1)) (xs (i + 2)) (xs (i + 3)) (xs (i + 4)) hM1 hK) (z_cwV vX4_fill hts q1012 ⟨Nat.le_of_ble_eq_true rfl, Nat.le_of_ble_eq_true rfl⟩) rfl hl.1 rfl (lv_room (Nat.le_of_ble_eq_true rfl)) dL_law_2749 ⟨by omega, by omega⟩) (fun r6 F2 H locs hp6 hI => ?_)
  obtain ⟨th2, σ2, hM2, hz2, hy2, hn2, hf2⟩ := hp6
  have hb2 := (hf2 (B0 + 41) (Or.inr (by omega))).trans ha1
  refine lv_istore (lv' := [(7, .int r6), (6, .int r5), (0, .ref b), (1, .ref B0), (2, .ref (B0 + 23)), (3, .ref (B0 + 41)), (4, .ref (B0 + 42)), (5, .int (nI i))]) hx hb dL_law_2752 hl (by decide) rfl (fun ls hl => ?_)
  refine lv_aload_n hx hb dL_law_2754 rfl (lv_at hl 4 rfl) ?_
  refine z_calli hI (z_V (As := []) (rest := []) ⟨hx, hb, hml, hown, hts⟩ hI hM2.1 rfl (c_X4_thrown l G B0 F2 σ2 th2 hM2) (z_cwV vX4_thrown hts q726 ⟨Nat.le_of_ble_eq_true rfl, Nat.le_of_ble_eq_true rfl⟩) rfl hl.1 rfl (lv_room (Nat.le_of_ble_eq_true rfl)) dL_law_2755 ⟨by omega, by omega⟩) (fun r7 F3 H locs hp7 hI => ?_)
  obtain ⟨rfl, rfl⟩ := hp7
  refine lv_iload hx hb dL_law_2758 (lv_at hl 1 rfl) ?_
  refine lv_icmp_eq (tgt := 2765) hx hb dL_law_2760 (by decide) (fun hq4 => ?_) (fun hq4 => ?_)
  · refine lv_iload hx hb dL_law_2765 (lv_at hl 1 rfl) ?_
    refine lv_if_ne (tgt := 2782) hx hb dL_law_2767 (by decide) (fun hq5 => ?_) (fun hq5 => ?_)
    · have hno := zTh_n hz1 hq5
      refine lv_goto (tgt := 3367) hx hb dL_law_2782 (by decide) ?_
      refine W.widen (k := cells + 40) (n := slots + 600) (by omega) (by omega) ?_
      exact kk _ _ _ _ _ _ (lv_sub hl [2, 3, 4, 5, 6, 7] rfl) (zLI_end hC1 ha1 hD1 hM2 hf2 ((hn2 hno).trans (hn1 hno).symm) (by rw [hn1 hno]; exact hW)) hI
    · have hok := zTh_0 hz1 hq5
      obtain ⟨hs1, hv1⟩ := hy1 hok
      obtain ⟨hs2, hv2⟩ := hy2 hok
      have hv : fo1 0 = r6.toInt64 := hv1.trans (congrArg Int32.toInt64 hv2.symm)
      refine lv_aload_n hx hb dL_law_2770 rfl (lv_at hl 5 rfl) ?_
      refine lv_iconst (v := nI 0) hx hb dL_law_2771 (by decide) ?_
      refine z_lld (k := 0) hx hb hI hb2 (by decide) (by decide) dL_law_2772 ?_
      refine lv_iload hx hb dL_law_2773 (lv_at hl 0 rfl) ?_
      refine lv_i2l hx hb dL_law_2775 rfl ?_
      refine W.lcmp hx hb dL_law_2776 ?_
      refine lv_if_eq (tgt := 2782) hx hb dL_law_2777 (by decide) (fun hq6 => ?_) (fun hq6 => ?_)
      · refine lv_goto (tgt := 3367) hx hb dL_law_2782 (by decide) ?_
        refine W.widen (k := cells + 40) (n := slots + 600) (by omega) (by omega) ?_
        exact kk _ _ _ _ _ _ (lv_sub hl [2, 3, 4, 5, 6, 7] rfl) (zLI_end hC1 ha1 hD1 hM2 hf2 (hs2.trans hs1.symm) (by rw [hs1]; exact wk_fill hK hW hok.1 hok.2.1)) hI
      · exact absurd (by rw [hv]; exact lg_self) hq6
  · exact absurd (zTh_eq hz2 hz1) hq4

set_option maxHeartbeats 4000000 in
set_option maxRecDepth 100000 in
theorem w_copy {p : Program} {l : Launch} {e : Env} {s : State} {m : MethodId} {below : List Frame} {meth : Method} {c : Code} {b L B0 : Nat} {xs : Nat → Int32} {G : zK} {Q : State → Prop} {cells slots : Nat} {i : Nat} {ls : Array Slot} {H : Heap} {locs : List Loc} {F : zM} {σ : Sg} {th : Int32} (K : zCtx p s m c b L B0 xs) (hl0 : l.stackTraces = false) (hi : i + 5 ≤ L) (hRc : cells + 40 ≤ room_1.cells) (hRs : slots + 600 ≤ room_1.slots) (hl : lv_has ls 9 (zLv b B0 i)) (hJ : zLI G B0 F σ th) (hI : zI G B0 s H locs F)
    (kk : ∀ (ls : Array Slot) (H : Heap) (locs : List Loc) (F : zM) (σ : Sg) (th : Int32), lv_has ls 9 (zLv b B0 i) → zLI G B0 F σ th → zI G B0 s H locs F → W p l e room_1 s m #[Value.ref b] below meth c H locs (cells + 40) (slots + 600) Q (F0 m 3367 ls [])) : W p l e room_1 s m #[Value.ref b] below meth c H locs cells slots Q (F0 m 2785 ls []) := by
  obtain ⟨hx, hb, hml, hown, hts, hX, hbB, hsz, hL⟩ := K
  obtain ⟨hC, hM, hW, ⟨fo, hO⟩, fd, hD⟩ := hJ
  have hK := hC.ok hW
  have hl : lv_has ls 9 [(0, .ref b), (1, .ref B0), (2, .ref (B0 + 23)), (3, .ref (B0 + 41)), (4, .ref (B0 + 42)), (5, .int (nI i))] := hl
  refine lv_aload_n hx hb dL_law_2785 rfl (lv_at hl 1 rfl) ?_
  refine lv_aload_n hx hb dL_law_2786 rfl (lv_at hl 0 rfl) ?_
  refine lv_iload hx hb dL_law_2787 (lv_at hl 5 rfl) ?_
  refine lv_iconst (v := nI 1) hx hb dL_law_2789 (by decide) ?_
  refine lv_iadd hx hb dL_law_2790 ?_
  refine z_topi (nI_add i 1) ?_
  refine z_sld (k := i + 1) hx hb hI hX hbB hsz hL (by omega) dL_law_2791 ?_
  refine lv_aload_n hx hb dL_law_2792 rfl (lv_at hl 0 rfl) ?_
  refine lv_iload hx hb dL_law_2793 (lv_at hl 5 rfl) ?_
  refine lv_iconst (v := nI 2) hx hb dL_law_2795 (by decide) ?_
  refine lv_iadd hx hb dL_law_2796 ?_
  refine z_topi (nI_add i 2) ?_
  refine z_sld (k := i + 2) hx hb hI hX hbB hsz hL (by omega) dL_law_2797 ?_
  refine lv_aload_n hx hb dL_law_2798 rfl (lv_at hl 3 rfl) ?_
  refine z_calli hI (z_H (As := [.ref B0, .int (xs (i + 1)), .int (xs (i + 2)), .ref (B0 + 41)]) (rest := []) ⟨hx, hb, hml, hown, hts⟩ hI (c_L_copy l hl0 G B0 F σ (xs (i + 1)) (xs (i + 2)) fo hC hK hO) (z_cwH vL_copy hts q576 ⟨Nat.le_of_ble_eq_true rfl, Nat.le_of_ble_eq_true rfl⟩) rfl hl.1 rfl (lv_room (Nat.le_of_ble_eq_true rfl)) dL_law_2799 ⟨by omega, by omega⟩) (fun r5 F1 H locs hp5 hI => ?_)
  obtain ⟨hz1, ⟨σ1, fo1, hC1, ha1, hy1, hn1⟩, hf1⟩ := hp5
  have hM1 : MS G B0 F1 σ th := hM.goB (fun q h1 h2 => hf1 q h1 (by omega))
  have hD1 := (hf1 (B0 + 42) (by omega) (by omega)).trans hD
  refine lv_istore (lv' := [(6, .int r5), (0, .ref b), (1, .ref B0), (2, .ref (B0 + 23)), (3, .ref (B0 + 41)), (4, .ref (B0 + 42)), (5, .int (nI i))]) hx hb dL_law_2802 hl (by decide) rfl (fun ls hl => ?_)
  refine lv_aload_n hx hb dL_law_2804 rfl (lv_at hl 3 rfl) ?_
  refine lv_aload_n hx hb dL_law_2805 rfl (lv_at hl 1 rfl) ?_
  refine lv_iload hx hb dL_law_2806 (lv_at hl 6 rfl) ?_
  refine lv_iconst (v := nI 1) hx hb dL_law_2808 (by decide) ?_
  refine lv_iadd hx hb dL_law_2809 ?_
  refine z_topi (nI_add i 1) ?_
  refine z_sld (k := i + 1) hx hb hI hX hbB hsz hL (by omega) dL_law_2810 ?_
  refine lv_aload_n hx hb dL_law_2811 rfl (lv_at hl 1 rfl) ?_
  refine lv_iload hx hb dL_law_2812 (lv_at hl 6 rfl) ?_
  refine lv_iconst (v := nI 2) hx hb dL_law_2814 (by decide) ?_
  refine lv_iadd hx hb dL_law_2815 ?_
  refine z_topi (nI_add i 2) ?_
  refine z_sld (k := i + 2) hx hb hI hX hbB hsz hL (by omega) dL_law_2816 ?_
  refine z_calli hI (z_V (As := [.int (xs (i + 1)), .int (xs (i + 2))]) (rest := []) ⟨hx, hb, hml, hown, hts⟩ hI hM1.1 rfl (c_X4_copy l G B0 F1 σ th (xs (i + 1)) (xs (i + 2)) hM1 hK) (z_cwV vX4_copy hts q1016 ⟨Nat.le_of_ble_eq_true rfl, Nat.le_of_ble_eq_true rfl⟩) rfl hl.1 rfl (lv_room (Nat.le_of_ble_eq_true rfl)) dL_law_2817 ⟨by omega, by omega⟩) (fun r6 F2 H locs hp6 hI => ?_)
  obtain ⟨th2, σ2, hM2, hz2, hy2, hn2, hf2⟩ := hp6
  have hb2 := (hf2 (B0 + 41) (Or.inr (by omega))).trans ha1
  refine lv_istore (lv' := [(7, .int r6), (6, .int r5), (0, .ref b), (1, .ref B0), (2, .ref (B0 + 23)), (3, .ref (B0 + 41)), (4, .ref (B0 + 42)), (5, .int (nI i))]) hx hb dL_law_2820 hl (by decide) rfl (fun ls hl => ?_)
  refine lv_aload_n hx hb dL_law_2822 rfl (lv_at hl 4 rfl) ?_
  refine z_calli hI (z_V (As := []) (rest := []) ⟨hx, hb, hml, hown, hts⟩ hI hM2.1 rfl (c_X4_thrown l G B0 F2 σ2 th2 hM2) (z_cwV vX4_thrown hts q726 ⟨Nat.le_of_ble_eq_true rfl, Nat.le_of_ble_eq_true rfl⟩) rfl hl.1 rfl (lv_room (Nat.le_of_ble_eq_true rfl)) dL_law_2823 ⟨by omega, by omega⟩) (fun r7 F3 H locs hp7 hI => ?_)
  obtain ⟨rfl, rfl⟩ := hp7
  refine lv_iload hx hb dL_law_2826 (lv_at hl 1 rfl) ?_
  refine lv_icmp_eq (tgt := 2833) hx hb dL_law_2828 (by decide) (fun hq4 => ?_) (fun hq4 => ?_)
  · refine lv_iload hx hb dL_law_2833 (lv_at hl 1 rfl) ?_
    refine lv_if_ne (tgt := 2850) hx hb dL_law_2835 (by decide) (fun hq5 => ?_) (fun hq5 => ?_)
    · have hno := zTh_n hz1 hq5
      refine lv_goto (tgt := 3367) hx hb dL_law_2850 (by decide) ?_
      refine W.widen (k := cells + 40) (n := slots + 600) (by omega) (by omega) ?_
      exact kk _ _ _ _ _ _ (lv_sub hl [2, 3, 4, 5, 6, 7] rfl) (zLI_end hC1 ha1 hD1 hM2 hf2 ((hn2 hno).trans (hn1 hno).symm) (by rw [hn1 hno]; exact hW)) hI
    · have hok := zTh_0 hz1 hq5
      obtain ⟨hs1, hv1⟩ := hy1 hok
      obtain ⟨hs2, hv2⟩ := hy2 hok
      have hv : fo1 0 = r6.toInt64 := hv1.trans (congrArg Int32.toInt64 hv2.symm)
      refine lv_aload_n hx hb dL_law_2838 rfl (lv_at hl 5 rfl) ?_
      refine lv_iconst (v := nI 0) hx hb dL_law_2839 (by decide) ?_
      refine z_lld (k := 0) hx hb hI hb2 (by decide) (by decide) dL_law_2840 ?_
      refine lv_iload hx hb dL_law_2841 (lv_at hl 0 rfl) ?_
      refine lv_i2l hx hb dL_law_2843 rfl ?_
      refine W.lcmp hx hb dL_law_2844 ?_
      refine lv_if_eq (tgt := 2850) hx hb dL_law_2845 (by decide) (fun hq6 => ?_) (fun hq6 => ?_)
      · refine lv_goto (tgt := 3367) hx hb dL_law_2850 (by decide) ?_
        refine W.widen (k := cells + 40) (n := slots + 600) (by omega) (by omega) ?_
        exact kk _ _ _ _ _ _ (lv_sub hl [2, 3, 4, 5, 6, 7] rfl) (zLI_end hC1 ha1 hD1 hM2 hf2 (hs2.trans hs1.symm) (by rw [hs1]; exact wk_copy hK hW hok.1 hok.2.1)) hI
      · exact absurd (by rw [hv]; exact lg_self) hq6
  · exact absurd (zTh_eq hz2 hz1) hq4

set_option maxHeartbeats 4000000 in
set_option maxRecDepth 100000 in
theorem w_stands {p : Program} {l : Launch} {e : Env} {s : State} {m : MethodId} {below : List Frame} {meth : Method} {c : Code} {b L B0 : Nat} {xs : Nat → Int32} {G : zK} {Q : State → Prop} {cells slots : Nat} {i : Nat} {ls : Array Slot} {H : Heap} {locs : List Loc} {F : zM} {σ : Sg} {th : Int32} (K : zCtx p s m c b L B0 xs) (hl0 : l.stackTraces = false) (hi : i + 5 ≤ L) (hRc : cells + 40 ≤ room_1.cells) (hRs : slots + 600 ≤ room_1.slots) (hl : lv_has ls 9 (zLv b B0 i)) (hJ : zLI G B0 F σ th) (hI : zI G B0 s H locs F)
    (kk : ∀ (ls : Array Slot) (H : Heap) (locs : List Loc) (F : zM) (σ : Sg) (th : Int32), lv_has ls 9 (zLv b B0 i) → zLI G B0 F σ th → zI G B0 s H locs F → W p l e room_1 s m #[Value.ref b] below meth c H locs (cells + 40) (slots + 600) Q (F0 m 3367 ls [])) : W p l e room_1 s m #[Value.ref b] below meth c H locs cells slots Q (F0 m 2853 ls []) := by
  obtain ⟨hx, hb, hml, hown, hts, hX, hbB, hsz, hL⟩ := K
  obtain ⟨hC, hM, hW, ⟨fo, hO⟩, fd, hD⟩ := hJ
  have hK := hC.ok hW
  have hl : lv_has ls 9 [(0, .ref b), (1, .ref B0), (2, .ref (B0 + 23)), (3, .ref (B0 + 41)), (4, .ref (B0 + 42)), (5, .int (nI i))] := hl
  refine lv_aload_n hx hb dL_law_2853 rfl (lv_at hl 1 rfl) ?_
  refine lv_aload_n hx hb dL_law_2854 rfl (lv_at hl 0 rfl) ?_
  refine lv_iload hx hb dL_law_2855 (lv_at hl 5 rfl) ?_
  refine lv_iconst (v := nI 1) hx hb dL_law_2857 (by decide) ?_
  refine lv_iadd hx hb dL_law_2858 ?_
  refine z_topi (nI_add i 1) ?_
  refine z_sld (k := i + 1) hx hb hI hX hbB hsz hL (by omega) dL_law_2859 ?_
  refine lv_aload_n hx hb dL_law_2860 rfl (lv_at hl 0 rfl) ?_
  refine lv_iload hx hb dL_law_2861 (lv_at hl 5 rfl) ?_
  refine lv_iconst (v := nI 2) hx hb dL_law_2863 (by decide) ?_
  refine lv_iadd hx hb dL_law_2864 ?_
  refine z_topi (nI_add i 2) ?_
  refine z_sld (k := i + 2) hx hb hI hX hbB hsz hL (by omega) dL_law_2865 ?_
  refine lv_aload_n hx hb dL_law_2866 rfl (lv_at hl 3 rfl) ?_
  refine z_calli hI (z_H (As := [.ref B0, .int (xs (i + 1)), .int (xs (i + 2)), .ref (B0 + 41)]) (rest := []) ⟨hx, hb, hml, hown, hts⟩ hI (c_L_stands l hl0 G B0 F σ (xs (i + 1)) (xs (i + 2)) fo hC hK hO) (z_cwH vL_stands hts q584 ⟨Nat.le_of_ble_eq_true rfl, Nat.le_of_ble_eq_true rfl⟩) rfl hl.1 rfl (lv_room (Nat.le_of_ble_eq_true rfl)) dL_law_2867 ⟨by omega, by omega⟩) (fun r5 F1 H locs hp5 hI => ?_)
  obtain ⟨hz1, ⟨σ1, fo1, hC1, ha1, hy1, hn1⟩, hf1⟩ := hp5
  have hM1 : MS G B0 F1 σ th := hM.goB (fun q h1 h2 => hf1 q h1 (by omega))
  have hD1 := (hf1 (B0 + 42) (by omega) (by omega)).trans hD
  refine lv_istore (lv' := [(6, .int r5), (0, .ref b), (1, .ref B0), (2, .ref (B0 + 23)), (3, .ref (B0 + 41)), (4, .ref (B0 + 42)), (5, .int (nI i))]) hx hb dL_law_2870 hl (by decide) rfl (fun ls hl => ?_)
  refine lv_aload_n hx hb dL_law_2872 rfl (lv_at hl 3 rfl) ?_
  refine lv_aload_n hx hb dL_law_2873 rfl (lv_at hl 1 rfl) ?_
  refine lv_iload hx hb dL_law_2874 (lv_at hl 6 rfl) ?_
  refine lv_iconst (v := nI 1) hx hb dL_law_2876 (by decide) ?_
  refine lv_iadd hx hb dL_law_2877 ?_
  refine z_topi (nI_add i 1) ?_
  refine z_sld (k := i + 1) hx hb hI hX hbB hsz hL (by omega) dL_law_2878 ?_
  refine lv_aload_n hx hb dL_law_2879 rfl (lv_at hl 1 rfl) ?_
  refine lv_iload hx hb dL_law_2880 (lv_at hl 6 rfl) ?_
  refine lv_iconst (v := nI 2) hx hb dL_law_2882 (by decide) ?_
  refine lv_iadd hx hb dL_law_2883 ?_
  refine z_topi (nI_add i 2) ?_
  refine z_sld (k := i + 2) hx hb hI hX hbB hsz hL (by omega) dL_law_2884 ?_
  refine z_calli hI (z_V (As := [.int (xs (i + 1)), .int (xs (i + 2))]) (rest := []) ⟨hx, hb, hml, hown, hts⟩ hI hM1.1 rfl (c_X4_stands l G B0 F1 σ th (xs (i + 1)) (xs (i + 2)) hM1 hK) (z_cwV vX4_stands hts q1020 ⟨Nat.le_of_ble_eq_true rfl, Nat.le_of_ble_eq_true rfl⟩) rfl hl.1 rfl (lv_room (Nat.le_of_ble_eq_true rfl)) dL_law_2885 ⟨by omega, by omega⟩) (fun r6 F2 H locs hp6 hI => ?_)
  obtain ⟨th2, σ2, hM2, hz2, hy2, hn2, hf2⟩ := hp6
  have hb2 := (hf2 (B0 + 41) (Or.inr (by omega))).trans ha1
  refine lv_istore (lv' := [(7, .int r6), (6, .int r5), (0, .ref b), (1, .ref B0), (2, .ref (B0 + 23)), (3, .ref (B0 + 41)), (4, .ref (B0 + 42)), (5, .int (nI i))]) hx hb dL_law_2888 hl (by decide) rfl (fun ls hl => ?_)
  refine lv_aload_n hx hb dL_law_2890 rfl (lv_at hl 4 rfl) ?_
  refine z_calli hI (z_V (As := []) (rest := []) ⟨hx, hb, hml, hown, hts⟩ hI hM2.1 rfl (c_X4_thrown l G B0 F2 σ2 th2 hM2) (z_cwV vX4_thrown hts q726 ⟨Nat.le_of_ble_eq_true rfl, Nat.le_of_ble_eq_true rfl⟩) rfl hl.1 rfl (lv_room (Nat.le_of_ble_eq_true rfl)) dL_law_2891 ⟨by omega, by omega⟩) (fun r7 F3 H locs hp7 hI => ?_)
  obtain ⟨rfl, rfl⟩ := hp7
  refine lv_iload hx hb dL_law_2894 (lv_at hl 1 rfl) ?_
  refine lv_icmp_eq (tgt := 2901) hx hb dL_law_2896 (by decide) (fun hq4 => ?_) (fun hq4 => ?_)
  · refine lv_iload hx hb dL_law_2901 (lv_at hl 1 rfl) ?_
    refine lv_if_ne (tgt := 2918) hx hb dL_law_2903 (by decide) (fun hq5 => ?_) (fun hq5 => ?_)
    · have hno := zTh_n hz1 hq5
      refine lv_goto (tgt := 3367) hx hb dL_law_2918 (by decide) ?_
      refine W.widen (k := cells + 40) (n := slots + 600) (by omega) (by omega) ?_
      exact kk _ _ _ _ _ _ (lv_sub hl [2, 3, 4, 5, 6, 7] rfl) (zLI_end hC1 ha1 hD1 hM2 hf2 ((hn2 hno).trans (hn1 hno).symm) (by rw [hn1 hno]; exact hW)) hI
    · have hok := zTh_0 hz1 hq5
      obtain ⟨hs1, hv1⟩ := hy1 hok
      obtain ⟨hs2, hv2⟩ := hy2 hok
      have hv : fo1 0 = r6.toInt64 := hv1.trans (congrArg Int32.toInt64 hv2.symm)
      refine lv_aload_n hx hb dL_law_2906 rfl (lv_at hl 5 rfl) ?_
      refine lv_iconst (v := nI 0) hx hb dL_law_2907 (by decide) ?_
      refine z_lld (k := 0) hx hb hI hb2 (by decide) (by decide) dL_law_2908 ?_
      refine lv_iload hx hb dL_law_2909 (lv_at hl 0 rfl) ?_
      refine lv_i2l hx hb dL_law_2911 rfl ?_
      refine W.lcmp hx hb dL_law_2912 ?_
      refine lv_if_eq (tgt := 2918) hx hb dL_law_2913 (by decide) (fun hq6 => ?_) (fun hq6 => ?_)
      · refine lv_goto (tgt := 3367) hx hb dL_law_2918 (by decide) ?_
        refine W.widen (k := cells + 40) (n := slots + 600) (by omega) (by omega) ?_
        exact kk _ _ _ _ _ _ (lv_sub hl [2, 3, 4, 5, 6, 7] rfl) (zLI_end hC1 ha1 hD1 hM2 hf2 (hs2.trans hs1.symm) (by rw [hs1]; exact wk_stands hK hW hok.1 hok.2.1)) hI
      · exact absurd (by rw [hv]; exact lg_self) hq6
  · exact absurd (zTh_eq hz2 hz1) hq4

set_option maxHeartbeats 4000000 in
set_option maxRecDepth 100000 in
theorem w_near {p : Program} {l : Launch} {e : Env} {s : State} {m : MethodId} {below : List Frame} {meth : Method} {c : Code} {b L B0 : Nat} {xs : Nat → Int32} {G : zK} {Q : State → Prop} {cells slots : Nat} {i : Nat} {ls : Array Slot} {H : Heap} {locs : List Loc} {F : zM} {σ : Sg} {th : Int32} (K : zCtx p s m c b L B0 xs) (hl0 : l.stackTraces = false) (hi : i + 5 ≤ L) (hRc : cells + 40 ≤ room_1.cells) (hRs : slots + 600 ≤ room_1.slots) (hl : lv_has ls 9 (zLv b B0 i)) (hJ : zLI G B0 F σ th) (hI : zI G B0 s H locs F)
    (kk : ∀ (ls : Array Slot) (H : Heap) (locs : List Loc) (F : zM) (σ : Sg) (th : Int32), lv_has ls 9 (zLv b B0 i) → zLI G B0 F σ th → zI G B0 s H locs F → W p l e room_1 s m #[Value.ref b] below meth c H locs (cells + 40) (slots + 600) Q (F0 m 3367 ls [])) : W p l e room_1 s m #[Value.ref b] below meth c H locs cells slots Q (F0 m 2921 ls []) := by
  obtain ⟨hx, hb, hml, hown, hts, hX, hbB, hsz, hL⟩ := K
  obtain ⟨hC, hM, hW, ⟨fo, hO⟩, fd, hD⟩ := hJ
  have hK := hC.ok hW
  have hl : lv_has ls 9 [(0, .ref b), (1, .ref B0), (2, .ref (B0 + 23)), (3, .ref (B0 + 41)), (4, .ref (B0 + 42)), (5, .int (nI i))] := hl
  refine lv_aload_n hx hb dL_law_2921 rfl (lv_at hl 1 rfl) ?_
  refine lv_aload_n hx hb dL_law_2922 rfl (lv_at hl 0 rfl) ?_
  refine lv_iload hx hb dL_law_2923 (lv_at hl 5 rfl) ?_
  refine lv_iconst (v := nI 1) hx hb dL_law_2925 (by decide) ?_
  refine lv_iadd hx hb dL_law_2926 ?_
  refine z_topi (nI_add i 1) ?_
  refine z_sld (k := i + 1) hx hb hI hX hbB hsz hL (by omega) dL_law_2927 ?_
  refine lv_aload_n hx hb dL_law_2928 rfl (lv_at hl 0 rfl) ?_
  refine lv_iload hx hb dL_law_2929 (lv_at hl 5 rfl) ?_
  refine lv_iconst (v := nI 2) hx hb dL_law_2931 (by decide) ?_
  refine lv_iadd hx hb dL_law_2932 ?_
  refine z_topi (nI_add i 2) ?_
  refine z_sld (k := i + 2) hx hb hI hX hbB hsz hL (by omega) dL_law_2933 ?_
  refine lv_aload_n hx hb dL_law_2934 rfl (lv_at hl 0 rfl) ?_
  refine lv_iload hx hb dL_law_2935 (lv_at hl 5 rfl) ?_
  refine lv_iconst (v := nI 3) hx hb dL_law_2937 (by decide) ?_
  refine lv_iadd hx hb dL_law_2938 ?_
  refine z_topi (nI_add i 3) ?_
  refine z_sld (k := i + 3) hx hb hI hX hbB hsz hL (by omega) dL_law_2939 ?_
  refine lv_aload_n hx hb dL_law_2940 rfl (lv_at hl 3 rfl) ?_
  refine z_calli hI (z_H (As := [.ref B0, .int (xs (i + 1)), .int (xs (i + 2)), .int (xs (i + 3)), .ref (B0 + 41)]) (rest := []) ⟨hx, hb, hml, hown, hts⟩ hI (c_L_near l hl0 G B0 F σ (xs (i + 1)) (xs (i + 2)) (xs (i + 3)) fo hC hK hO) (z_cwH vL_near hts q592 ⟨Nat.le_of_ble_eq_true rfl, Nat.le_of_ble_eq_true rfl⟩) rfl hl.1 rfl (lv_room (Nat.le_of_ble_eq_true rfl)) dL_law_2941 ⟨by omega, by omega⟩) (fun r5 F1 H locs hp5 hI => ?_)
  obtain ⟨hz1, ⟨σ1, fo1, hC1, ha1, hy1, hn1⟩, hf1⟩ := hp5
  have hM1 : MS G B0 F1 σ th := hM.goB (fun q h1 h2 => hf1 q h1 (by omega))
  have hD1 := (hf1 (B0 + 42) (by omega) (by omega)).trans hD
  refine lv_istore (lv' := [(6, .int r5), (0, .ref b), (1, .ref B0), (2, .ref (B0 + 23)), (3, .ref (B0 + 41)), (4, .ref (B0 + 42)), (5, .int (nI i))]) hx hb dL_law_2944 hl (by decide) rfl (fun ls hl => ?_)
  refine lv_aload_n hx hb dL_law_2946 rfl (lv_at hl 3 rfl) ?_
  refine lv_aload_n hx hb dL_law_2947 rfl (lv_at hl 1 rfl) ?_
  refine lv_iload hx hb dL_law_2948 (lv_at hl 6 rfl) ?_
  refine lv_iconst (v := nI 1) hx hb dL_law_2950 (by decide) ?_
  refine lv_iadd hx hb dL_law_2951 ?_
  refine z_topi (nI_add i 1) ?_
  refine z_sld (k := i + 1) hx hb hI hX hbB hsz hL (by omega) dL_law_2952 ?_
  refine lv_aload_n hx hb dL_law_2953 rfl (lv_at hl 1 rfl) ?_
  refine lv_iload hx hb dL_law_2954 (lv_at hl 6 rfl) ?_
  refine lv_iconst (v := nI 2) hx hb dL_law_2956 (by decide) ?_
  refine lv_iadd hx hb dL_law_2957 ?_
  refine z_topi (nI_add i 2) ?_
  refine z_sld (k := i + 2) hx hb hI hX hbB hsz hL (by omega) dL_law_2958 ?_
  refine lv_aload_n hx hb dL_law_2959 rfl (lv_at hl 1 rfl) ?_
  refine lv_iload hx hb dL_law_2960 (lv_at hl 6 rfl) ?_
  refine lv_iconst (v := nI 3) hx hb dL_law_2962 (by decide) ?_
  refine lv_iadd hx hb dL_law_2963 ?_
  refine z_topi (nI_add i 3) ?_
  refine z_sld (k := i + 3) hx hb hI hX hbB hsz hL (by omega) dL_law_2964 ?_
  refine z_calli hI (z_V (As := [.int (xs (i + 1)), .int (xs (i + 2)), .int (xs (i + 3))]) (rest := []) ⟨hx, hb, hml, hown, hts⟩ hI hM1.1 rfl (c_X4_near l G B0 F1 σ th (xs (i + 1)) (xs (i + 2)) (xs (i + 3)) hM1 hK) (z_cwV vX4_near hts q1024 ⟨Nat.le_of_ble_eq_true rfl, Nat.le_of_ble_eq_true rfl⟩) rfl hl.1 rfl (lv_room (Nat.le_of_ble_eq_true rfl)) dL_law_2965 ⟨by omega, by omega⟩) (fun r6 F2 H locs hp6 hI => ?_)
  obtain ⟨th2, σ2, hM2, hz2, hy2, hn2, hf2⟩ := hp6
  have hb2 := (hf2 (B0 + 41) (Or.inr (by omega))).trans ha1
  refine lv_istore (lv' := [(7, .int r6), (6, .int r5), (0, .ref b), (1, .ref B0), (2, .ref (B0 + 23)), (3, .ref (B0 + 41)), (4, .ref (B0 + 42)), (5, .int (nI i))]) hx hb dL_law_2968 hl (by decide) rfl (fun ls hl => ?_)
  refine lv_aload_n hx hb dL_law_2970 rfl (lv_at hl 4 rfl) ?_
  refine z_calli hI (z_V (As := []) (rest := []) ⟨hx, hb, hml, hown, hts⟩ hI hM2.1 rfl (c_X4_thrown l G B0 F2 σ2 th2 hM2) (z_cwV vX4_thrown hts q726 ⟨Nat.le_of_ble_eq_true rfl, Nat.le_of_ble_eq_true rfl⟩) rfl hl.1 rfl (lv_room (Nat.le_of_ble_eq_true rfl)) dL_law_2971 ⟨by omega, by omega⟩) (fun r7 F3 H locs hp7 hI => ?_)
  obtain ⟨rfl, rfl⟩ := hp7
  refine lv_iload hx hb dL_law_2974 (lv_at hl 1 rfl) ?_
  refine lv_icmp_eq (tgt := 2981) hx hb dL_law_2976 (by decide) (fun hq4 => ?_) (fun hq4 => ?_)
  · refine lv_iload hx hb dL_law_2981 (lv_at hl 1 rfl) ?_
    refine lv_if_ne (tgt := 2998) hx hb dL_law_2983 (by decide) (fun hq5 => ?_) (fun hq5 => ?_)
    · have hno := zTh_n hz1 hq5
      refine lv_goto (tgt := 3367) hx hb dL_law_2998 (by decide) ?_
      refine W.widen (k := cells + 40) (n := slots + 600) (by omega) (by omega) ?_
      exact kk _ _ _ _ _ _ (lv_sub hl [2, 3, 4, 5, 6, 7] rfl) (zLI_end hC1 ha1 hD1 hM2 hf2 ((hn2 hno).trans (hn1 hno).symm) (by rw [hn1 hno]; exact hW)) hI
    · have hok := zTh_0 hz1 hq5
      obtain ⟨hs1, hv1⟩ := hy1 hok
      obtain ⟨hs2, hv2⟩ := hy2 hok
      have hv : fo1 0 = r6.toInt64 := hv1.trans (congrArg Int32.toInt64 hv2.symm)
      refine lv_aload_n hx hb dL_law_2986 rfl (lv_at hl 5 rfl) ?_
      refine lv_iconst (v := nI 0) hx hb dL_law_2987 (by decide) ?_
      refine z_lld (k := 0) hx hb hI hb2 (by decide) (by decide) dL_law_2988 ?_
      refine lv_iload hx hb dL_law_2989 (lv_at hl 0 rfl) ?_
      refine lv_i2l hx hb dL_law_2991 rfl ?_
      refine W.lcmp hx hb dL_law_2992 ?_
      refine lv_if_eq (tgt := 2998) hx hb dL_law_2993 (by decide) (fun hq6 => ?_) (fun hq6 => ?_)
      · refine lv_goto (tgt := 3367) hx hb dL_law_2998 (by decide) ?_
        refine W.widen (k := cells + 40) (n := slots + 600) (by omega) (by omega) ?_
        exact kk _ _ _ _ _ _ (lv_sub hl [2, 3, 4, 5, 6, 7] rfl) (zLI_end hC1 ha1 hD1 hM2 hf2 (hs2.trans hs1.symm) (by rw [hs1]; exact wk_near hK hW hok.1 hok.2.1)) hI
      · exact absurd (by rw [hv]; exact lg_self) hq6
  · exact absurd (zTh_eq hz2 hz1) hq4

set_option maxHeartbeats 4000000 in
set_option maxRecDepth 100000 in
theorem w_common {p : Program} {l : Launch} {e : Env} {s : State} {m : MethodId} {below : List Frame} {meth : Method} {c : Code} {b L B0 : Nat} {xs : Nat → Int32} {G : zK} {Q : State → Prop} {cells slots : Nat} {i : Nat} {ls : Array Slot} {H : Heap} {locs : List Loc} {F : zM} {σ : Sg} {th : Int32} (K : zCtx p s m c b L B0 xs) (hl0 : l.stackTraces = false) (hi : i + 5 ≤ L) (hRc : cells + 40 ≤ room_1.cells) (hRs : slots + 600 ≤ room_1.slots) (hl : lv_has ls 9 (zLv b B0 i)) (hJ : zLI G B0 F σ th) (hI : zI G B0 s H locs F)
    (kk : ∀ (ls : Array Slot) (H : Heap) (locs : List Loc) (F : zM) (σ : Sg) (th : Int32), lv_has ls 9 (zLv b B0 i) → zLI G B0 F σ th → zI G B0 s H locs F → W p l e room_1 s m #[Value.ref b] below meth c H locs (cells + 40) (slots + 600) Q (F0 m 3367 ls [])) : W p l e room_1 s m #[Value.ref b] below meth c H locs cells slots Q (F0 m 3001 ls []) := by
  obtain ⟨hx, hb, hml, hown, hts, hX, hbB, hsz, hL⟩ := K
  obtain ⟨hC, hM, hW, ⟨fo, hO⟩, fd, hD⟩ := hJ
  have hK := hC.ok hW
  have hl : lv_has ls 9 [(0, .ref b), (1, .ref B0), (2, .ref (B0 + 23)), (3, .ref (B0 + 41)), (4, .ref (B0 + 42)), (5, .int (nI i))] := hl
  refine lv_aload_n hx hb dL_law_3001 rfl (lv_at hl 1 rfl) ?_
  refine lv_aload_n hx hb dL_law_3002 rfl (lv_at hl 0 rfl) ?_
  refine lv_iload hx hb dL_law_3003 (lv_at hl 5 rfl) ?_
  refine lv_iconst (v := nI 1) hx hb dL_law_3005 (by decide) ?_
  refine lv_iadd hx hb dL_law_3006 ?_
  refine z_topi (nI_add i 1) ?_
  refine z_sld (k := i + 1) hx hb hI hX hbB hsz hL (by omega) dL_law_3007 ?_
  refine lv_aload_n hx hb dL_law_3008 rfl (lv_at hl 0 rfl) ?_
  refine lv_iload hx hb dL_law_3009 (lv_at hl 5 rfl) ?_
  refine lv_iconst (v := nI 2) hx hb dL_law_3011 (by decide) ?_
  refine lv_iadd hx hb dL_law_3012 ?_
  refine z_topi (nI_add i 2) ?_
  refine z_sld (k := i + 2) hx hb hI hX hbB hsz hL (by omega) dL_law_3013 ?_
  refine lv_aload_n hx hb dL_law_3014 rfl (lv_at hl 0 rfl) ?_
  refine lv_iload hx hb dL_law_3015 (lv_at hl 5 rfl) ?_
  refine lv_iconst (v := nI 3) hx hb dL_law_3017 (by decide) ?_
  refine lv_iadd hx hb dL_law_3018 ?_
  refine z_topi (nI_add i 3) ?_
  refine z_sld (k := i + 3) hx hb hI hX hbB hsz hL (by omega) dL_law_3019 ?_
  refine lv_aload_n hx hb dL_law_3020 rfl (lv_at hl 3 rfl) ?_
  refine z_calli hI (z_H (As := [.ref B0, .int (xs (i + 1)), .int (xs (i + 2)), .int (xs (i + 3)), .ref (B0 + 41)]) (rest := []) ⟨hx, hb, hml, hown, hts⟩ hI (c_L_common l hl0 G B0 F σ (xs (i + 1)) (xs (i + 2)) (xs (i + 3)) fo hC hK hO) (z_cwH vL_common hts q602 ⟨Nat.le_of_ble_eq_true rfl, Nat.le_of_ble_eq_true rfl⟩) rfl hl.1 rfl (lv_room (Nat.le_of_ble_eq_true rfl)) dL_law_3021 ⟨by omega, by omega⟩) (fun r5 F1 H locs hp5 hI => ?_)
  obtain ⟨hz1, ⟨σ1, fo1, hC1, ha1, hy1, hn1⟩, hf1⟩ := hp5
  have hM1 : MS G B0 F1 σ th := hM.goB (fun q h1 h2 => hf1 q h1 (by omega))
  have hD1 := (hf1 (B0 + 42) (by omega) (by omega)).trans hD
  refine lv_istore (lv' := [(6, .int r5), (0, .ref b), (1, .ref B0), (2, .ref (B0 + 23)), (3, .ref (B0 + 41)), (4, .ref (B0 + 42)), (5, .int (nI i))]) hx hb dL_law_3024 hl (by decide) rfl (fun ls hl => ?_)
  refine lv_aload_n hx hb dL_law_3026 rfl (lv_at hl 3 rfl) ?_
  refine lv_aload_n hx hb dL_law_3027 rfl (lv_at hl 1 rfl) ?_
  refine lv_iload hx hb dL_law_3028 (lv_at hl 6 rfl) ?_
  refine lv_iconst (v := nI 1) hx hb dL_law_3030 (by decide) ?_
  refine lv_iadd hx hb dL_law_3031 ?_
  refine z_topi (nI_add i 1) ?_
  refine z_sld (k := i + 1) hx hb hI hX hbB hsz hL (by omega) dL_law_3032 ?_
  refine lv_aload_n hx hb dL_law_3033 rfl (lv_at hl 1 rfl) ?_
  refine lv_iload hx hb dL_law_3034 (lv_at hl 6 rfl) ?_
  refine lv_iconst (v := nI 2) hx hb dL_law_3036 (by decide) ?_
  refine lv_iadd hx hb dL_law_3037 ?_
  refine z_topi (nI_add i 2) ?_
  refine z_sld (k := i + 2) hx hb hI hX hbB hsz hL (by omega) dL_law_3038 ?_
  refine lv_aload_n hx hb dL_law_3039 rfl (lv_at hl 1 rfl) ?_
  refine lv_iload hx hb dL_law_3040 (lv_at hl 6 rfl) ?_
  refine lv_iconst (v := nI 3) hx hb dL_law_3042 (by decide) ?_
  refine lv_iadd hx hb dL_law_3043 ?_
  refine z_topi (nI_add i 3) ?_
  refine z_sld (k := i + 3) hx hb hI hX hbB hsz hL (by omega) dL_law_3044 ?_
  refine z_calli hI (z_V (As := [.int (xs (i + 1)), .int (xs (i + 2)), .int (xs (i + 3))]) (rest := []) ⟨hx, hb, hml, hown, hts⟩ hI hM1.1 rfl (c_X4_common l G B0 F1 σ th (xs (i + 1)) (xs (i + 2)) (xs (i + 3)) hM1 hK) (z_cwV vX4_common hts q1029 ⟨Nat.le_of_ble_eq_true rfl, Nat.le_of_ble_eq_true rfl⟩) rfl hl.1 rfl (lv_room (Nat.le_of_ble_eq_true rfl)) dL_law_3045 ⟨by omega, by omega⟩) (fun r6 F2 H locs hp6 hI => ?_)
  obtain ⟨th2, σ2, hM2, hz2, hy2, hn2, hf2⟩ := hp6
  have hb2 := (hf2 (B0 + 41) (Or.inr (by omega))).trans ha1
  refine lv_istore (lv' := [(7, .int r6), (6, .int r5), (0, .ref b), (1, .ref B0), (2, .ref (B0 + 23)), (3, .ref (B0 + 41)), (4, .ref (B0 + 42)), (5, .int (nI i))]) hx hb dL_law_3048 hl (by decide) rfl (fun ls hl => ?_)
  refine lv_aload_n hx hb dL_law_3050 rfl (lv_at hl 4 rfl) ?_
  refine z_calli hI (z_V (As := []) (rest := []) ⟨hx, hb, hml, hown, hts⟩ hI hM2.1 rfl (c_X4_thrown l G B0 F2 σ2 th2 hM2) (z_cwV vX4_thrown hts q726 ⟨Nat.le_of_ble_eq_true rfl, Nat.le_of_ble_eq_true rfl⟩) rfl hl.1 rfl (lv_room (Nat.le_of_ble_eq_true rfl)) dL_law_3051 ⟨by omega, by omega⟩) (fun r7 F3 H locs hp7 hI => ?_)
  obtain ⟨rfl, rfl⟩ := hp7
  refine lv_iload hx hb dL_law_3054 (lv_at hl 1 rfl) ?_
  refine lv_icmp_eq (tgt := 3061) hx hb dL_law_3056 (by decide) (fun hq4 => ?_) (fun hq4 => ?_)
  · refine lv_iload hx hb dL_law_3061 (lv_at hl 1 rfl) ?_
    refine lv_if_ne (tgt := 3078) hx hb dL_law_3063 (by decide) (fun hq5 => ?_) (fun hq5 => ?_)
    · have hno := zTh_n hz1 hq5
      refine lv_goto (tgt := 3367) hx hb dL_law_3078 (by decide) ?_
      refine W.widen (k := cells + 40) (n := slots + 600) (by omega) (by omega) ?_
      exact kk _ _ _ _ _ _ (lv_sub hl [2, 3, 4, 5, 6, 7] rfl) (zLI_end hC1 ha1 hD1 hM2 hf2 ((hn2 hno).trans (hn1 hno).symm) (by rw [hn1 hno]; exact hW)) hI
    · have hok := zTh_0 hz1 hq5
      obtain ⟨hs1, hv1⟩ := hy1 hok
      obtain ⟨hs2, hv2⟩ := hy2 hok
      have hv : fo1 0 = r6.toInt64 := hv1.trans (congrArg Int32.toInt64 hv2.symm)
      refine lv_aload_n hx hb dL_law_3066 rfl (lv_at hl 5 rfl) ?_
      refine lv_iconst (v := nI 0) hx hb dL_law_3067 (by decide) ?_
      refine z_lld (k := 0) hx hb hI hb2 (by decide) (by decide) dL_law_3068 ?_
      refine lv_iload hx hb dL_law_3069 (lv_at hl 0 rfl) ?_
      refine lv_i2l hx hb dL_law_3071 rfl ?_
      refine W.lcmp hx hb dL_law_3072 ?_
      refine lv_if_eq (tgt := 3078) hx hb dL_law_3073 (by decide) (fun hq6 => ?_) (fun hq6 => ?_)
      · refine lv_goto (tgt := 3367) hx hb dL_law_3078 (by decide) ?_
        refine W.widen (k := cells + 40) (n := slots + 600) (by omega) (by omega) ?_
        exact kk _ _ _ _ _ _ (lv_sub hl [2, 3, 4, 5, 6, 7] rfl) (zLI_end hC1 ha1 hD1 hM2 hf2 (hs2.trans hs1.symm) (by rw [hs1]; exact wk_common hK hW hok.1 hok.2.1)) hI
      · exact absurd (by rw [hv]; exact lg_self) hq6
  · exact absurd (zTh_eq hz2 hz1) hq4

set_option maxHeartbeats 4000000 in
set_option maxRecDepth 100000 in
theorem w_refuses {p : Program} {l : Launch} {e : Env} {s : State} {m : MethodId} {below : List Frame} {meth : Method} {c : Code} {b L B0 : Nat} {xs : Nat → Int32} {G : zK} {Q : State → Prop} {cells slots : Nat} {i : Nat} {ls : Array Slot} {H : Heap} {locs : List Loc} {F : zM} {σ : Sg} {th : Int32} (K : zCtx p s m c b L B0 xs) (hl0 : l.stackTraces = false) (hi : i + 5 ≤ L) (hRc : cells + 40 ≤ room_1.cells) (hRs : slots + 600 ≤ room_1.slots) (hl : lv_has ls 9 (zLv b B0 i)) (hJ : zLI G B0 F σ th) (hI : zI G B0 s H locs F)
    (kk : ∀ (ls : Array Slot) (H : Heap) (locs : List Loc) (F : zM) (σ : Sg) (th : Int32), lv_has ls 9 (zLv b B0 i) → zLI G B0 F σ th → zI G B0 s H locs F → W p l e room_1 s m #[Value.ref b] below meth c H locs (cells + 40) (slots + 600) Q (F0 m 3367 ls [])) : W p l e room_1 s m #[Value.ref b] below meth c H locs cells slots Q (F0 m 3081 ls []) := by
  obtain ⟨hx, hb, hml, hown, hts, hX, hbB, hsz, hL⟩ := K
  obtain ⟨hC, hM, hW, ⟨fo, hO⟩, fd, hD⟩ := hJ
  have hK := hC.ok hW
  have hl : lv_has ls 9 [(0, .ref b), (1, .ref B0), (2, .ref (B0 + 23)), (3, .ref (B0 + 41)), (4, .ref (B0 + 42)), (5, .int (nI i))] := hl
  refine lv_aload_n hx hb dL_law_3081 rfl (lv_at hl 1 rfl) ?_
  refine lv_aload_n hx hb dL_law_3082 rfl (lv_at hl 0 rfl) ?_
  refine lv_iload hx hb dL_law_3083 (lv_at hl 5 rfl) ?_
  refine lv_iconst (v := nI 1) hx hb dL_law_3085 (by decide) ?_
  refine lv_iadd hx hb dL_law_3086 ?_
  refine z_topi (nI_add i 1) ?_
  refine z_sld (k := i + 1) hx hb hI hX hbB hsz hL (by omega) dL_law_3087 ?_
  refine lv_aload_n hx hb dL_law_3088 rfl (lv_at hl 3 rfl) ?_
  refine z_calli hI (z_H (As := [.ref B0, .int (xs (i + 1)), .ref (B0 + 41)]) (rest := []) ⟨hx, hb, hml, hown, hts⟩ hI (c_L_refuses l hl0 G B0 F σ (xs (i + 1)) fo hC hK hO) (z_cwH vL_refuses hts q617 ⟨Nat.le_of_ble_eq_true rfl, Nat.le_of_ble_eq_true rfl⟩) rfl hl.1 rfl (lv_room (Nat.le_of_ble_eq_true rfl)) dL_law_3089 ⟨by omega, by omega⟩) (fun r5 F1 H locs hp5 hI => ?_)
  obtain ⟨hz1, ⟨σ1, fo1, hC1, ha1, hy1, hn1⟩, hf1⟩ := hp5
  have hM1 : MS G B0 F1 σ th := hM.goB (fun q h1 h2 => hf1 q h1 (by omega))
  have hD1 := (hf1 (B0 + 42) (by omega) (by omega)).trans hD
  refine lv_istore (lv' := [(6, .int r5), (0, .ref b), (1, .ref B0), (2, .ref (B0 + 23)), (3, .ref (B0 + 41)), (4, .ref (B0 + 42)), (5, .int (nI i))]) hx hb dL_law_3092 hl (by decide) rfl (fun ls hl => ?_)
  refine lv_aload_n hx hb dL_law_3094 rfl (lv_at hl 3 rfl) ?_
  refine lv_aload_n hx hb dL_law_3095 rfl (lv_at hl 1 rfl) ?_
  refine lv_iload hx hb dL_law_3096 (lv_at hl 6 rfl) ?_
  refine lv_iconst (v := nI 1) hx hb dL_law_3098 (by decide) ?_
  refine lv_iadd hx hb dL_law_3099 ?_
  refine z_topi (nI_add i 1) ?_
  refine z_sld (k := i + 1) hx hb hI hX hbB hsz hL (by omega) dL_law_3100 ?_
  refine z_calli hI (z_V (As := [.int (xs (i + 1))]) (rest := []) ⟨hx, hb, hml, hown, hts⟩ hI hM1.1 rfl (c_X4_refuses l G B0 F1 σ th (xs (i + 1)) hM1 hK) (z_cwV vX4_refuses hts q1035 ⟨Nat.le_of_ble_eq_true rfl, Nat.le_of_ble_eq_true rfl⟩) rfl hl.1 rfl (lv_room (Nat.le_of_ble_eq_true rfl)) dL_law_3101 ⟨by omega, by omega⟩) (fun r6 F2 H locs hp6 hI => ?_)
  obtain ⟨th2, σ2, hM2, hz2, hy2, hn2, hf2⟩ := hp6
  have hb2 := (hf2 (B0 + 41) (Or.inr (by omega))).trans ha1
  refine lv_istore (lv' := [(7, .int r6), (6, .int r5), (0, .ref b), (1, .ref B0), (2, .ref (B0 + 23)), (3, .ref (B0 + 41)), (4, .ref (B0 + 42)), (5, .int (nI i))]) hx hb dL_law_3104 hl (by decide) rfl (fun ls hl => ?_)
  refine lv_aload_n hx hb dL_law_3106 rfl (lv_at hl 4 rfl) ?_
  refine z_calli hI (z_V (As := []) (rest := []) ⟨hx, hb, hml, hown, hts⟩ hI hM2.1 rfl (c_X4_thrown l G B0 F2 σ2 th2 hM2) (z_cwV vX4_thrown hts q726 ⟨Nat.le_of_ble_eq_true rfl, Nat.le_of_ble_eq_true rfl⟩) rfl hl.1 rfl (lv_room (Nat.le_of_ble_eq_true rfl)) dL_law_3107 ⟨by omega, by omega⟩) (fun r7 F3 H locs hp7 hI => ?_)
  obtain ⟨rfl, rfl⟩ := hp7
  refine lv_iload hx hb dL_law_3110 (lv_at hl 1 rfl) ?_
  refine lv_icmp_eq (tgt := 3117) hx hb dL_law_3112 (by decide) (fun hq4 => ?_) (fun hq4 => ?_)
  · refine lv_iload hx hb dL_law_3117 (lv_at hl 1 rfl) ?_
    refine lv_if_ne (tgt := 3141) hx hb dL_law_3119 (by decide) (fun hq5 => ?_) (fun hq5 => ?_)
    · have hno := zTh_n hz1 hq5
      refine lv_goto (tgt := 3367) hx hb dL_law_3141 (by decide) ?_
      refine W.widen (k := cells + 40) (n := slots + 600) (by omega) (by omega) ?_
      exact kk _ _ _ _ _ _ (lv_sub hl [2, 3, 4, 5, 6, 7] rfl) (zLI_end hC1 ha1 hD1 hM2 hf2 ((hn2 hno).trans (hn1 hno).symm) (by rw [hn1 hno]; exact hW)) hI
    · have hok := zTh_0 hz1 hq5
      obtain ⟨hs1, hv1⟩ := hy1 hok
      obtain ⟨hs2, hv2⟩ := hy2 hok
      have hv : fo1 0 = r6.toInt64 := hv1.trans (congrArg Int32.toInt64 hv2.symm)
      have h01 : r6 = 0 ∨ r6 = 1 := by rw [hv2]; exact Or.inr rfl
      refine lv_aload_n hx hb dL_law_3122 rfl (lv_at hl 5 rfl) ?_
      refine lv_iconst (v := nI 0) hx hb dL_law_3123 (by decide) ?_
      refine z_lld (k := 0) hx hb hI hb2 (by decide) (by decide) dL_law_3124 ?_
      refine lv_iload hx hb dL_law_3125 (lv_at hl 0 rfl) ?_
      refine lv_if_eq (tgt := 3134) hx hb dL_law_3127 (by decide) (fun hq6 => ?_) (fun hq6 => ?_)
      · refine lv_lconst (v := 0) hx hb dL_law_3134 (by decide) ?_
        refine W.lcmp hx hb dL_law_3135 ?_
        refine lv_if_eq (tgt := 3141) hx hb dL_law_3136 (by decide) (fun hq7 => ?_) (fun hq7 => ?_)
        · refine lv_goto (tgt := 3367) hx hb dL_law_3141 (by decide) ?_
          refine W.widen (k := cells + 40) (n := slots + 600) (by omega) (by omega) ?_
          exact kk _ _ _ _ _ _ (lv_sub hl [2, 3, 4, 5, 6, 7] rfl) (zLI_end hC1 ha1 hD1 hM2 hf2 (hs2.trans hs1.symm) (by rw [hs1]; exact wk_refuses hK hW hok.1 hok.2.1)) hI
        · exact absurd (by rw [hv, hq6]; exact lg_self) hq7
      · refine lv_lconst (v := 1) hx hb dL_law_3130 (by decide) ?_
        refine lv_goto (tgt := 3135) hx hb dL_law_3131 (by decide) ?_
        refine W.lcmp hx hb dL_law_3135 ?_
        refine lv_if_eq (tgt := 3141) hx hb dL_law_3136 (by decide) (fun hq8 => ?_) (fun hq8 => ?_)
        · refine lv_goto (tgt := 3367) hx hb dL_law_3141 (by decide) ?_
          refine W.widen (k := cells + 40) (n := slots + 600) (by omega) (by omega) ?_
          exact kk _ _ _ _ _ _ (lv_sub hl [2, 3, 4, 5, 6, 7] rfl) (zLI_end hC1 ha1 hD1 hM2 hf2 (hs2.trans hs1.symm) (by rw [hs1]; exact wk_refuses hK hW hok.1 hok.2.1)) hI
        · exact absurd (by rw [hv, h01.resolve_left hq6]; exact lg_self) hq8
  · exact absurd (zTh_eq hz2 hz1) hq4

set_option maxHeartbeats 4000000 in
set_option maxRecDepth 100000 in
theorem w_errors {p : Program} {l : Launch} {e : Env} {s : State} {m : MethodId} {below : List Frame} {meth : Method} {c : Code} {b L B0 : Nat} {xs : Nat → Int32} {G : zK} {Q : State → Prop} {cells slots : Nat} {i : Nat} {ls : Array Slot} {H : Heap} {locs : List Loc} {F : zM} {σ : Sg} {th : Int32} (K : zCtx p s m c b L B0 xs) (hl0 : l.stackTraces = false) (hi : i + 5 ≤ L) (hRc : cells + 40 ≤ room_1.cells) (hRs : slots + 600 ≤ room_1.slots) (hl : lv_has ls 9 (zLv b B0 i)) (hJ : zLI G B0 F σ th) (hI : zI G B0 s H locs F)
    (kk : ∀ (ls : Array Slot) (H : Heap) (locs : List Loc) (F : zM) (σ : Sg) (th : Int32), lv_has ls 9 (zLv b B0 i) → zLI G B0 F σ th → zI G B0 s H locs F → W p l e room_1 s m #[Value.ref b] below meth c H locs (cells + 40) (slots + 600) Q (F0 m 3367 ls [])) : W p l e room_1 s m #[Value.ref b] below meth c H locs cells slots Q (F0 m 3144 ls []) := by
  obtain ⟨hx, hb, hml, hown, hts, hX, hbB, hsz, hL⟩ := K
  obtain ⟨hC, hM, hW, ⟨fo, hO⟩, fd, hD⟩ := hJ
  have hK := hC.ok hW
  have hl : lv_has ls 9 [(0, .ref b), (1, .ref B0), (2, .ref (B0 + 23)), (3, .ref (B0 + 41)), (4, .ref (B0 + 42)), (5, .int (nI i))] := hl
  refine lv_aload_n hx hb dL_law_3144 rfl (lv_at hl 1 rfl) ?_
  refine lv_aload_n hx hb dL_law_3145 rfl (lv_at hl 0 rfl) ?_
  refine lv_iload hx hb dL_law_3146 (lv_at hl 5 rfl) ?_
  refine lv_iconst (v := nI 1) hx hb dL_law_3148 (by decide) ?_
  refine lv_iadd hx hb dL_law_3149 ?_
  refine z_topi (nI_add i 1) ?_
  refine z_sld (k := i + 1) hx hb hI hX hbB hsz hL (by omega) dL_law_3150 ?_
  refine lv_aload_n hx hb dL_law_3151 rfl (lv_at hl 3 rfl) ?_
  refine z_calli hI (z_H (As := [.ref B0, .int (xs (i + 1)), .ref (B0 + 41)]) (rest := []) ⟨hx, hb, hml, hown, hts⟩ hI (c_L_errors l hl0 G B0 F σ (xs (i + 1)) fo hC hK hO) (z_cwH vL_errors hts q685 ⟨Nat.le_of_ble_eq_true rfl, Nat.le_of_ble_eq_true rfl⟩) rfl hl.1 rfl (lv_room (Nat.le_of_ble_eq_true rfl)) dL_law_3152 ⟨by omega, by omega⟩) (fun r5 F1 H locs hp5 hI => ?_)
  obtain ⟨hz1, ⟨σ1, fo1, hC1, ha1, hy1, hn1⟩, hf1⟩ := hp5
  have hM1 : MS G B0 F1 σ th := hM.goB (fun q h1 h2 => hf1 q h1 (by omega))
  have hD1 := (hf1 (B0 + 42) (by omega) (by omega)).trans hD
  refine lv_istore (lv' := [(6, .int r5), (0, .ref b), (1, .ref B0), (2, .ref (B0 + 23)), (3, .ref (B0 + 41)), (4, .ref (B0 + 42)), (5, .int (nI i))]) hx hb dL_law_3155 hl (by decide) rfl (fun ls hl => ?_)
  refine lv_aload_n hx hb dL_law_3157 rfl (lv_at hl 3 rfl) ?_
  refine lv_aload_n hx hb dL_law_3158 rfl (lv_at hl 1 rfl) ?_
  refine lv_iload hx hb dL_law_3159 (lv_at hl 6 rfl) ?_
  refine lv_iconst (v := nI 1) hx hb dL_law_3161 (by decide) ?_
  refine lv_iadd hx hb dL_law_3162 ?_
  refine z_topi (nI_add i 1) ?_
  refine z_sld (k := i + 1) hx hb hI hX hbB hsz hL (by omega) dL_law_3163 ?_
  refine z_calli hI (z_V (As := [.int (xs (i + 1))]) (rest := []) ⟨hx, hb, hml, hown, hts⟩ hI hM1.1 rfl (c_X4_errors l G B0 F1 σ th (xs (i + 1)) hM1 hK) (z_cwV vX4_errors hts q1040 ⟨Nat.le_of_ble_eq_true rfl, Nat.le_of_ble_eq_true rfl⟩) rfl hl.1 rfl (lv_room (Nat.le_of_ble_eq_true rfl)) dL_law_3164 ⟨by omega, by omega⟩) (fun r6 F2 H locs hp6 hI => ?_)
  obtain ⟨th2, σ2, hM2, hz2, hy2, hn2, hf2⟩ := hp6
  have hb2 := (hf2 (B0 + 41) (Or.inr (by omega))).trans ha1
  refine lv_istore (lv' := [(7, .int r6), (6, .int r5), (0, .ref b), (1, .ref B0), (2, .ref (B0 + 23)), (3, .ref (B0 + 41)), (4, .ref (B0 + 42)), (5, .int (nI i))]) hx hb dL_law_3167 hl (by decide) rfl (fun ls hl => ?_)
  refine lv_aload_n hx hb dL_law_3169 rfl (lv_at hl 4 rfl) ?_
  refine z_calli hI (z_V (As := []) (rest := []) ⟨hx, hb, hml, hown, hts⟩ hI hM2.1 rfl (c_X4_thrown l G B0 F2 σ2 th2 hM2) (z_cwV vX4_thrown hts q726 ⟨Nat.le_of_ble_eq_true rfl, Nat.le_of_ble_eq_true rfl⟩) rfl hl.1 rfl (lv_room (Nat.le_of_ble_eq_true rfl)) dL_law_3170 ⟨by omega, by omega⟩) (fun r7 F3 H locs hp7 hI => ?_)
  obtain ⟨rfl, rfl⟩ := hp7
  refine lv_iload hx hb dL_law_3173 (lv_at hl 1 rfl) ?_
  refine lv_icmp_eq (tgt := 3180) hx hb dL_law_3175 (by decide) (fun hq4 => ?_) (fun hq4 => ?_)
  · refine lv_iload hx hb dL_law_3180 (lv_at hl 1 rfl) ?_
    refine lv_if_ne (tgt := 3197) hx hb dL_law_3182 (by decide) (fun hq5 => ?_) (fun hq5 => ?_)
    · have hno := zTh_n hz1 hq5
      refine lv_goto (tgt := 3367) hx hb dL_law_3197 (by decide) ?_
      refine W.widen (k := cells + 40) (n := slots + 600) (by omega) (by omega) ?_
      exact kk _ _ _ _ _ _ (lv_sub hl [2, 3, 4, 5, 6, 7] rfl) (zLI_end hC1 ha1 hD1 hM2 hf2 ((hn2 hno).trans (hn1 hno).symm) (by rw [hn1 hno]; exact hW)) hI
    · have hok := zTh_0 hz1 hq5
      obtain ⟨hs1, hv1⟩ := hy1 hok
      obtain ⟨hs2, hv2⟩ := hy2 hok
      have hv : fo1 0 = r6.toInt64 := hv1.trans (congrArg Int32.toInt64 hv2.symm)
      refine lv_aload_n hx hb dL_law_3185 rfl (lv_at hl 5 rfl) ?_
      refine lv_iconst (v := nI 0) hx hb dL_law_3186 (by decide) ?_
      refine z_lld (k := 0) hx hb hI hb2 (by decide) (by decide) dL_law_3187 ?_
      refine lv_iload hx hb dL_law_3188 (lv_at hl 0 rfl) ?_
      refine lv_i2l hx hb dL_law_3190 rfl ?_
      refine W.lcmp hx hb dL_law_3191 ?_
      refine lv_if_eq (tgt := 3197) hx hb dL_law_3192 (by decide) (fun hq6 => ?_) (fun hq6 => ?_)
      · refine lv_goto (tgt := 3367) hx hb dL_law_3197 (by decide) ?_
        refine W.widen (k := cells + 40) (n := slots + 600) (by omega) (by omega) ?_
        exact kk _ _ _ _ _ _ (lv_sub hl [2, 3, 4, 5, 6, 7] rfl) (zLI_end hC1 ha1 hD1 hM2 hf2 (hs2.trans hs1.symm) (by rw [hs1]; exact wk_errors hK hW hok.1 hok.2.1)) hI
      · exact absurd (by rw [hv]; exact lg_self) hq6
  · exact absurd (zTh_eq hz2 hz1) hq4

set_option maxHeartbeats 4000000 in
set_option maxRecDepth 100000 in
theorem w_meanWord {p : Program} {l : Launch} {e : Env} {s : State} {m : MethodId} {below : List Frame} {meth : Method} {c : Code} {b L B0 : Nat} {xs : Nat → Int32} {G : zK} {Q : State → Prop} {cells slots : Nat} {i : Nat} {ls : Array Slot} {H : Heap} {locs : List Loc} {F : zM} {σ : Sg} {th : Int32} (K : zCtx p s m c b L B0 xs) (hl0 : l.stackTraces = false) (hi : i + 5 ≤ L) (hRc : cells + 40 ≤ room_1.cells) (hRs : slots + 600 ≤ room_1.slots) (hl : lv_has ls 9 (zLv b B0 i)) (hJ : zLI G B0 F σ th) (hI : zI G B0 s H locs F)
    (kk : ∀ (ls : Array Slot) (H : Heap) (locs : List Loc) (F : zM) (σ : Sg) (th : Int32), lv_has ls 9 (zLv b B0 i) → zLI G B0 F σ th → zI G B0 s H locs F → W p l e room_1 s m #[Value.ref b] below meth c H locs (cells + 40) (slots + 600) Q (F0 m 3367 ls [])) : W p l e room_1 s m #[Value.ref b] below meth c H locs cells slots Q (F0 m 3200 ls []) := by
  obtain ⟨hx, hb, hml, hown, hts, hX, hbB, hsz, hL⟩ := K
  obtain ⟨hC, hM, hW, ⟨fo, hO⟩, fd, hD⟩ := hJ
  have hK := hC.ok hW
  have hl : lv_has ls 9 [(0, .ref b), (1, .ref B0), (2, .ref (B0 + 23)), (3, .ref (B0 + 41)), (4, .ref (B0 + 42)), (5, .int (nI i))] := hl
  refine lv_aload_n hx hb dL_law_3200 rfl (lv_at hl 1 rfl) ?_
  refine lv_aload_n hx hb dL_law_3201 rfl (lv_at hl 0 rfl) ?_
  refine lv_iload hx hb dL_law_3202 (lv_at hl 5 rfl) ?_
  refine lv_iconst (v := nI 1) hx hb dL_law_3204 (by decide) ?_
  refine lv_iadd hx hb dL_law_3205 ?_
  refine z_topi (nI_add i 1) ?_
  refine z_sld (k := i + 1) hx hb hI hX hbB hsz hL (by omega) dL_law_3206 ?_
  refine lv_aload hx hb dL_law_3207 (lv_at hl 4 rfl) ?_
  refine z_calli hI (z_H (As := [.ref B0, .int (xs (i + 1)), .ref (B0 + 42)]) (rest := []) ⟨hx, hb, hml, hown, hts⟩ hI (c_L_meanWord l hl0 G B0 F σ (xs (i + 1)) fd hC hK hD) (z_cwH vL_meanWord hts q712 ⟨Nat.le_of_ble_eq_true rfl, Nat.le_of_ble_eq_true rfl⟩) rfl hl.1 rfl (lv_room (Nat.le_of_ble_eq_true rfl)) dL_law_3209 ⟨by omega, by omega⟩) (fun r5 F1 H locs hp5 hI => ?_)
  obtain ⟨hz1, ⟨σ1, fo1, hC1, ha1, hy1, hn1⟩, hf1⟩ := hp5
  have hM1 : MS G B0 F1 σ th := hM.goB (fun q h1 h2 => hf1 q h1 (by omega))
  have hO1 := (hf1 (B0 + 41) (by omega) (by omega)).trans hO
  refine lv_istore (lv' := [(6, .int r5), (0, .ref b), (1, .ref B0), (2, .ref (B0 + 23)), (3, .ref (B0 + 41)), (4, .ref (B0 + 42)), (5, .int (nI i))]) hx hb dL_law_3212 hl (by decide) rfl (fun ls hl => ?_)
  refine lv_aload_n hx hb dL_law_3214 rfl (lv_at hl 3 rfl) ?_
  refine lv_aload_n hx hb dL_law_3215 rfl (lv_at hl 1 rfl) ?_
  refine lv_iload hx hb dL_law_3216 (lv_at hl 6 rfl) ?_
  refine lv_iconst (v := nI 1) hx hb dL_law_3218 (by decide) ?_
  refine lv_iadd hx hb dL_law_3219 ?_
  refine z_topi (nI_add i 1) ?_
  refine z_sld (k := i + 1) hx hb hI hX hbB hsz hL (by omega) dL_law_3220 ?_
  refine z_calld hI (z_V (As := [.int (xs (i + 1))]) (rest := []) ⟨hx, hb, hml, hown, hts⟩ hI hM1.1 rfl (c_X4_meanWord l G B0 F1 σ th (xs (i + 1)) hM1 hK) (z_cwV vX4_meanWord hts q1047 ⟨Nat.le_of_ble_eq_true rfl, Nat.le_of_ble_eq_true rfl⟩) rfl hl.1 rfl (lv_room (Nat.le_of_ble_eq_true rfl)) dL_law_3221 ⟨by omega, by omega⟩) (fun r6 F2 H locs hp6 hI => ?_)
  obtain ⟨th2, σ2, hM2, hz2, hy2, hn2, hf2⟩ := hp6
  have hb2 := (hf2 (B0 + 42) (Or.inr (by omega))).trans ha1
  refine lv_dstore (lv' := [(7, .double r6), (6, .int r5), (0, .ref b), (1, .ref B0), (2, .ref (B0 + 23)), (3, .ref (B0 + 41)), (4, .ref (B0 + 42)), (5, .int (nI i))]) hx hb dL_law_3224 hl (by decide) rfl (fun ls hl => ?_)
  refine lv_aload_n hx hb dL_law_3226 rfl (lv_at hl 4 rfl) ?_
  refine z_calli hI (z_V (As := []) (rest := []) ⟨hx, hb, hml, hown, hts⟩ hI hM2.1 rfl (c_X4_thrown l G B0 F2 σ2 th2 hM2) (z_cwV vX4_thrown hts q726 ⟨Nat.le_of_ble_eq_true rfl, Nat.le_of_ble_eq_true rfl⟩) rfl hl.1 rfl (lv_room (Nat.le_of_ble_eq_true rfl)) dL_law_3227 ⟨by omega, by omega⟩) (fun r7 F3 H locs hp7 hI => ?_)
  obtain ⟨rfl, rfl⟩ := hp7
  refine lv_iload hx hb dL_law_3230 (lv_at hl 1 rfl) ?_
  refine lv_icmp_eq (tgt := 3237) hx hb dL_law_3232 (by decide) (fun hq4 => ?_) (fun hq4 => ?_)
  · refine lv_iload hx hb dL_law_3237 (lv_at hl 1 rfl) ?_
    refine lv_if_ne (tgt := 3274) hx hb dL_law_3239 (by decide) (fun hq5 => ?_) (fun hq5 => ?_)
    · have hno := zTh_n hz1 hq5
      refine lv_goto (tgt := 3367) hx hb dL_law_3274 (by decide) ?_
      refine W.widen (k := cells + 40) (n := slots + 600) (by omega) (by omega) ?_
      exact kk _ _ _ _ _ _ (lv_sub hl [2, 3, 4, 5, 6, 7] rfl) (zLI_end hC1 hO1 ha1 hM2 hf2 ((hn2 hno).trans (hn1 hno).symm) (by rw [hn1 hno]; exact hW)) hI
    · have hok := zTh_0 hz1 hq5
      obtain ⟨hs1, hv1⟩ := hy1 hok
      obtain ⟨hs2, hv2⟩ := hy2 hok
      have hv : fo1 0 = r6 := hv1.trans hv2.symm
      have hnn : vf_n64 r6 := by rw [hv2]; unfold rr_meanWord; exact mnw_n (sg_le hK hok.1)
      refine lv_aload hx hb dL_law_3242 (lv_at hl 6 rfl) ?_
      refine lv_iconst (v := nI 0) hx hb dL_law_3244 (by decide) ?_
      refine z_dld (k := 0) hx hb hI hb2 (by decide) (by decide) dL_law_3245 ?_
      refine lv_dload hx hb dL_law_3246 (lv_at hl 0 rfl) ?_
      refine lv_dcmp hx hb dL_law_3248 ?_
      refine lv_if_eq (tgt := 3274) hx hb dL_law_3249 (by decide) (fun hq6 => ?_) (fun hq6 => ?_)
      · refine lv_goto (tgt := 3367) hx hb dL_law_3274 (by decide) ?_
        refine W.widen (k := cells + 40) (n := slots + 600) (by omega) (by omega) ?_
        exact kk _ _ _ _ _ _ (lv_sub hl [2, 3, 4, 5, 6, 7] rfl) (zLI_end hC1 hO1 ha1 hM2 hf2 (hs2.trans hs1.symm) (by rw [hs1]; exact wk_meanWord hK hW hok.1 hok.2.1)) hI
      · exact absurd (by rw [hv]; exact fz_dcmp hnn) hq6
  · exact absurd (zTh_eq hz2 hz1) hq4

set_option maxHeartbeats 4000000 in
set_option maxRecDepth 100000 in
theorem w_share {p : Program} {l : Launch} {e : Env} {s : State} {m : MethodId} {below : List Frame} {meth : Method} {c : Code} {b L B0 : Nat} {xs : Nat → Int32} {G : zK} {Q : State → Prop} {cells slots : Nat} {i : Nat} {ls : Array Slot} {H : Heap} {locs : List Loc} {F : zM} {σ : Sg} {th : Int32} (K : zCtx p s m c b L B0 xs) (hl0 : l.stackTraces = false) (hi : i + 5 ≤ L) (hRc : cells + 40 ≤ room_1.cells) (hRs : slots + 600 ≤ room_1.slots) (hl : lv_has ls 9 (zLv b B0 i)) (hJ : zLI G B0 F σ th) (hI : zI G B0 s H locs F)
    (kk : ∀ (ls : Array Slot) (H : Heap) (locs : List Loc) (F : zM) (σ : Sg) (th : Int32), lv_has ls 9 (zLv b B0 i) → zLI G B0 F σ th → zI G B0 s H locs F → W p l e room_1 s m #[Value.ref b] below meth c H locs (cells + 40) (slots + 600) Q (F0 m 3367 ls [])) : W p l e room_1 s m #[Value.ref b] below meth c H locs cells slots Q (F0 m 3277 ls []) := by
  obtain ⟨hx, hb, hml, hown, hts, hX, hbB, hsz, hL⟩ := K
  obtain ⟨hC, hM, hW, ⟨fo, hO⟩, fd, hD⟩ := hJ
  have hK := hC.ok hW
  have hl : lv_has ls 9 [(0, .ref b), (1, .ref B0), (2, .ref (B0 + 23)), (3, .ref (B0 + 41)), (4, .ref (B0 + 42)), (5, .int (nI i))] := hl
  refine lv_aload_n hx hb dL_law_3277 rfl (lv_at hl 1 rfl) ?_
  refine lv_aload_n hx hb dL_law_3278 rfl (lv_at hl 0 rfl) ?_
  refine lv_iload hx hb dL_law_3279 (lv_at hl 5 rfl) ?_
  refine lv_iconst (v := nI 1) hx hb dL_law_3281 (by decide) ?_
  refine lv_iadd hx hb dL_law_3282 ?_
  refine z_topi (nI_add i 1) ?_
  refine z_sld (k := i + 1) hx hb hI hX hbB hsz hL (by omega) dL_law_3283 ?_
  refine lv_aload_n hx hb dL_law_3284 rfl (lv_at hl 0 rfl) ?_
  refine lv_iload hx hb dL_law_3285 (lv_at hl 5 rfl) ?_
  refine lv_iconst (v := nI 2) hx hb dL_law_3287 (by decide) ?_
  refine lv_iadd hx hb dL_law_3288 ?_
  refine z_topi (nI_add i 2) ?_
  refine z_sld (k := i + 2) hx hb hI hX hbB hsz hL (by omega) dL_law_3289 ?_
  refine lv_aload hx hb dL_law_3290 (lv_at hl 4 rfl) ?_
  refine z_calli hI (z_H (As := [.ref B0, .int (xs (i + 1)), .int (xs (i + 2)), .ref (B0 + 42)]) (rest := []) ⟨hx, hb, hml, hown, hts⟩ hI (c_L_share l hl0 G B0 F σ (xs (i + 1)) (xs (i + 2)) fd hC hK hD) (z_cwH vL_share hts q719 ⟨Nat.le_of_ble_eq_true rfl, Nat.le_of_ble_eq_true rfl⟩) rfl hl.1 rfl (lv_room (Nat.le_of_ble_eq_true rfl)) dL_law_3292 ⟨by omega, by omega⟩) (fun r5 F1 H locs hp5 hI => ?_)
  obtain ⟨hz1, ⟨σ1, fo1, hC1, ha1, hy1, hn1⟩, hf1⟩ := hp5
  have hM1 : MS G B0 F1 σ th := hM.goB (fun q h1 h2 => hf1 q h1 (by omega))
  have hO1 := (hf1 (B0 + 41) (by omega) (by omega)).trans hO
  refine lv_istore (lv' := [(6, .int r5), (0, .ref b), (1, .ref B0), (2, .ref (B0 + 23)), (3, .ref (B0 + 41)), (4, .ref (B0 + 42)), (5, .int (nI i))]) hx hb dL_law_3295 hl (by decide) rfl (fun ls hl => ?_)
  refine lv_aload_n hx hb dL_law_3297 rfl (lv_at hl 3 rfl) ?_
  refine lv_aload_n hx hb dL_law_3298 rfl (lv_at hl 1 rfl) ?_
  refine lv_iload hx hb dL_law_3299 (lv_at hl 6 rfl) ?_
  refine lv_iconst (v := nI 1) hx hb dL_law_3301 (by decide) ?_
  refine lv_iadd hx hb dL_law_3302 ?_
  refine z_topi (nI_add i 1) ?_
  refine z_sld (k := i + 1) hx hb hI hX hbB hsz hL (by omega) dL_law_3303 ?_
  refine lv_aload_n hx hb dL_law_3304 rfl (lv_at hl 1 rfl) ?_
  refine lv_iload hx hb dL_law_3305 (lv_at hl 6 rfl) ?_
  refine lv_iconst (v := nI 2) hx hb dL_law_3307 (by decide) ?_
  refine lv_iadd hx hb dL_law_3308 ?_
  refine z_topi (nI_add i 2) ?_
  refine z_sld (k := i + 2) hx hb hI hX hbB hsz hL (by omega) dL_law_3309 ?_
  refine z_callf hI (z_V (As := [.int (xs (i + 1)), .int (xs (i + 2))]) (rest := []) ⟨hx, hb, hml, hown, hts⟩ hI hM1.1 rfl (c_X4_share l G B0 F1 σ th (xs (i + 1)) (xs (i + 2)) hM1 hK) (z_cwV vX4_share hts q1051 ⟨Nat.le_of_ble_eq_true rfl, Nat.le_of_ble_eq_true rfl⟩) rfl hl.1 rfl (lv_room (Nat.le_of_ble_eq_true rfl)) dL_law_3310 ⟨by omega, by omega⟩) (fun r6 F2 H locs hp6 hI => ?_)
  obtain ⟨th2, σ2, hM2, hz2, hy2, hn2, hf2⟩ := hp6
  have hb2 := (hf2 (B0 + 42) (Or.inr (by omega))).trans ha1
  refine lv_fstore (lv' := [(7, .float r6), (6, .int r5), (0, .ref b), (1, .ref B0), (2, .ref (B0 + 23)), (3, .ref (B0 + 41)), (4, .ref (B0 + 42)), (5, .int (nI i))]) hx hb dL_law_3313 hl (by decide) rfl (fun ls hl => ?_)
  refine lv_aload_n hx hb dL_law_3315 rfl (lv_at hl 4 rfl) ?_
  refine z_calli hI (z_V (As := []) (rest := []) ⟨hx, hb, hml, hown, hts⟩ hI hM2.1 rfl (c_X4_thrown l G B0 F2 σ2 th2 hM2) (z_cwV vX4_thrown hts q726 ⟨Nat.le_of_ble_eq_true rfl, Nat.le_of_ble_eq_true rfl⟩) rfl hl.1 rfl (lv_room (Nat.le_of_ble_eq_true rfl)) dL_law_3316 ⟨by omega, by omega⟩) (fun r7 F3 H locs hp7 hI => ?_)
  obtain ⟨rfl, rfl⟩ := hp7
  refine lv_iload hx hb dL_law_3319 (lv_at hl 1 rfl) ?_
  refine lv_icmp_eq (tgt := 3326) hx hb dL_law_3321 (by decide) (fun hq4 => ?_) (fun hq4 => ?_)
  · refine lv_iload hx hb dL_law_3326 (lv_at hl 1 rfl) ?_
    refine lv_if_ne (tgt := 3364) hx hb dL_law_3328 (by decide) (fun hq5 => ?_) (fun hq5 => ?_)
    · have hno := zTh_n hz1 hq5
      refine lv_goto (tgt := 3367) hx hb dL_law_3364 (by decide) ?_
      refine W.widen (k := cells + 40) (n := slots + 600) (by omega) (by omega) ?_
      exact kk _ _ _ _ _ _ (lv_sub hl [2, 3, 4, 5, 6, 7] rfl) (zLI_end hC1 hO1 ha1 hM2 hf2 ((hn2 hno).trans (hn1 hno).symm) (by rw [hn1 hno]; exact hW)) hI
    · have hok := zTh_0 hz1 hq5
      obtain ⟨hs1, hv1⟩ := hy1 hok
      obtain ⟨hs2, hv2⟩ := hy2 hok
      have hv : fo1 0 = FP.f2d r6 := hv1.trans (congrArg FP.f2d hv2.symm)
      have hnn : vf_n64 (FP.f2d r6) := by rw [hv2]; unfold rr_share; exact fz_f2d (shr_n (sg_le hK hok.1.1))
      refine lv_aload hx hb dL_law_3331 (lv_at hl 6 rfl) ?_
      refine lv_iconst (v := nI 0) hx hb dL_law_3333 (by decide) ?_
      refine z_dld (k := 0) hx hb hI hb2 (by decide) (by decide) dL_law_3334 ?_
      refine lv_fload hx hb dL_law_3335 (lv_at hl 0 rfl) ?_
      refine lv_f2d hx hb dL_law_3337 hnn ?_
      refine lv_dcmp hx hb dL_law_3338 ?_
      refine lv_if_eq (tgt := 3364) hx hb dL_law_3339 (by decide) (fun hq6 => ?_) (fun hq6 => ?_)
      · refine lv_goto (tgt := 3367) hx hb dL_law_3364 (by decide) ?_
        refine W.widen (k := cells + 40) (n := slots + 600) (by omega) (by omega) ?_
        exact kk _ _ _ _ _ _ (lv_sub hl [2, 3, 4, 5, 6, 7] rfl) (zLI_end hC1 hO1 ha1 hM2 hf2 (hs2.trans hs1.symm) (by rw [hs1]; exact wk_share hK hW hok.1 hok.2.1)) hI
      · exact absurd (by rw [hv]; exact fz_dcmp hnn) hq6
  · exact absurd (zTh_eq hz2 hz1) hq4

