set_option maxHeartbeats 4000000 in
set_option maxRecDepth 100000 in
theorem w_different {p : Program} {l : Launch} {e : Env} {s : State} {m : MethodId} {below : List Frame} {meth : Method} {c : Code} {b L B0 : Nat} {xs : Nat → Int32} {G : zK} {Q : State → Prop} {cells slots : Nat} {i : Nat} {ls : Array Slot} {H : Heap} {locs : List Loc} {F : zM} {σ : Sg} {th : Int32} (K : zCtx p s m c b L B0 xs) (hl0 : l.stackTraces = false) (hi : i + 5 ≤ L) (hRc : cells + 40 ≤ room_1.cells) (hRs : slots + 600 ≤ room_1.slots) (hl : lv_has ls 9 (zLv b B0 i)) (hJ : zLI G B0 F σ th) (hI : zI G B0 s H locs F)
    (kk : ∀ (ls : Array Slot) (H : Heap) (locs : List Loc) (F : zM) (σ : Sg) (th : Int32), lv_has ls 9 (zLv b B0 i) → zLI G B0 F σ th → zI G B0 s H locs F → W p l e room_1 s m #[Value.ref b] below meth c H locs (cells + 40) (slots + 600) Q (F0 m 3367 ls [])) : W p l e room_1 s m #[Value.ref b] below meth c H locs cells slots Q (F0 m 1799 ls []) := by
  obtain ⟨hx, hb, hml, hown, hts, hX, hbB, hsz, hL⟩ := K
  obtain ⟨hC, hM, hW, ⟨fo, hO⟩, fd, hD⟩ := hJ
  have hK := hC.ok hW
  have hl : lv_has ls 9 [(0, .ref b), (1, .ref B0), (2, .ref (B0 + 23)), (3, .ref (B0 + 41)), (4, .ref (B0 + 42)), (5, .int (nI i))] := hl
  refine lv_aload_n hx hb dL_law_1799 rfl (lv_at hl 1 rfl) ?_
  refine lv_aload_n hx hb dL_law_1800 rfl (lv_at hl 0 rfl) ?_
  refine lv_iload hx hb dL_law_1801 (lv_at hl 5 rfl) ?_
  refine lv_iconst (v := nI 1) hx hb dL_law_1803 (by decide) ?_
  refine lv_iadd hx hb dL_law_1804 ?_
  refine z_topi (nI_add i 1) ?_
  refine z_sld (k := i + 1) hx hb hI hX hbB hsz hL (by omega) dL_law_1805 ?_
  refine lv_aload_n hx hb dL_law_1806 rfl (lv_at hl 3 rfl) ?_
  refine z_calli hI (z_H (As := [.ref B0, .int (xs (i + 1)), .ref (B0 + 41)]) (rest := []) ⟨hx, hb, hml, hown, hts⟩ hI (c_L_different l hl0 G B0 F σ (xs (i + 1)) fo hC hK hO) (z_cwH vL_different hts q409 ⟨Nat.le_of_ble_eq_true rfl, Nat.le_of_ble_eq_true rfl⟩) rfl hl.1 rfl (lv_room (Nat.le_of_ble_eq_true rfl)) dL_law_1807 ⟨by omega, by omega⟩) (fun r5 F1 H locs hp5 hI => ?_)
  obtain ⟨hz1, ⟨σ1, fo1, hC1, ha1, hy1, hn1⟩, hf1⟩ := hp5
  have hM1 : MS G B0 F1 σ th := hM.goB (fun q h1 h2 => hf1 q h1 (by omega))
  have hD1 := (hf1 (B0 + 42) (by omega) (by omega)).trans hD
  refine lv_istore (lv' := [(6, .int r5), (0, .ref b), (1, .ref B0), (2, .ref (B0 + 23)), (3, .ref (B0 + 41)), (4, .ref (B0 + 42)), (5, .int (nI i))]) hx hb dL_law_1810 hl (by decide) rfl (fun ls hl => ?_)
  refine lv_aload_n hx hb dL_law_1812 rfl (lv_at hl 3 rfl) ?_
  refine lv_aload_n hx hb dL_law_1813 rfl (lv_at hl 1 rfl) ?_
  refine lv_iload hx hb dL_law_1814 (lv_at hl 6 rfl) ?_
  refine lv_iconst (v := nI 1) hx hb dL_law_1816 (by decide) ?_
  refine lv_iadd hx hb dL_law_1817 ?_
  refine z_topi (nI_add i 1) ?_
  refine z_sld (k := i + 1) hx hb hI hX hbB hsz hL (by omega) dL_law_1818 ?_
  refine z_calli hI (z_V (As := [.int (xs (i + 1))]) (rest := []) ⟨hx, hb, hml, hown, hts⟩ hI hM1.1 rfl (c_X4_different l G B0 F1 σ th (xs (i + 1)) hM1 hK) (z_cwV vX4_different hts q939 ⟨Nat.le_of_ble_eq_true rfl, Nat.le_of_ble_eq_true rfl⟩) rfl hl.1 rfl (lv_room (Nat.le_of_ble_eq_true rfl)) dL_law_1819 ⟨by omega, by omega⟩) (fun r6 F2 H locs hp6 hI => ?_)
  obtain ⟨th2, σ2, hM2, hz2, hy2, hn2, hf2⟩ := hp6
  have hb2 := (hf2 (B0 + 41) (Or.inr (by omega))).trans ha1
  refine lv_istore (lv' := [(7, .int r6), (6, .int r5), (0, .ref b), (1, .ref B0), (2, .ref (B0 + 23)), (3, .ref (B0 + 41)), (4, .ref (B0 + 42)), (5, .int (nI i))]) hx hb dL_law_1822 hl (by decide) rfl (fun ls hl => ?_)
  refine lv_aload_n hx hb dL_law_1824 rfl (lv_at hl 4 rfl) ?_
  refine z_calli hI (z_V (As := []) (rest := []) ⟨hx, hb, hml, hown, hts⟩ hI hM2.1 rfl (c_X4_thrown l G B0 F2 σ2 th2 hM2) (z_cwV vX4_thrown hts q726 ⟨Nat.le_of_ble_eq_true rfl, Nat.le_of_ble_eq_true rfl⟩) rfl hl.1 rfl (lv_room (Nat.le_of_ble_eq_true rfl)) dL_law_1825 ⟨by omega, by omega⟩) (fun r7 F3 H locs hp7 hI => ?_)
  obtain ⟨rfl, rfl⟩ := hp7
  refine lv_iload hx hb dL_law_1828 (lv_at hl 1 rfl) ?_
  refine lv_icmp_eq (tgt := 1835) hx hb dL_law_1830 (by decide) (fun hq4 => ?_) (fun hq4 => ?_)
  · refine lv_iload hx hb dL_law_1835 (lv_at hl 1 rfl) ?_
    refine lv_if_ne (tgt := 1852) hx hb dL_law_1837 (by decide) (fun hq5 => ?_) (fun hq5 => ?_)
    · have hno := zTh_n hz1 hq5
      refine lv_goto (tgt := 3367) hx hb dL_law_1852 (by decide) ?_
      refine W.widen (k := cells + 40) (n := slots + 600) (by omega) (by omega) ?_
      exact kk _ _ _ _ _ _ (lv_sub hl [2, 3, 4, 5, 6, 7] rfl) (zLI_end hC1 ha1 hD1 hM2 hf2 ((hn2 hno).trans (hn1 hno).symm) (by rw [hn1 hno]; exact hW)) hI
    · have hok := zTh_0 hz1 hq5
      obtain ⟨hs1, hv1⟩ := hy1 hok
      obtain ⟨hs2, hv2⟩ := hy2 hok
      have hv : fo1 0 = r6.toInt64 := hv1.trans (congrArg Int32.toInt64 hv2.symm)
      refine lv_aload_n hx hb dL_law_1840 rfl (lv_at hl 5 rfl) ?_
      refine lv_iconst (v := nI 0) hx hb dL_law_1841 (by decide) ?_
      refine z_lld (k := 0) hx hb hI hb2 (by decide) (by decide) dL_law_1842 ?_
      refine lv_iload hx hb dL_law_1843 (lv_at hl 0 rfl) ?_
      refine lv_i2l hx hb dL_law_1845 rfl ?_
      refine W.lcmp hx hb dL_law_1846 ?_
      refine lv_if_eq (tgt := 1852) hx hb dL_law_1847 (by decide) (fun hq6 => ?_) (fun hq6 => ?_)
      · refine lv_goto (tgt := 3367) hx hb dL_law_1852 (by decide) ?_
        refine W.widen (k := cells + 40) (n := slots + 600) (by omega) (by omega) ?_
        exact kk _ _ _ _ _ _ (lv_sub hl [2, 3, 4, 5, 6, 7] rfl) (zLI_end hC1 ha1 hD1 hM2 hf2 (hs2.trans hs1.symm) (by rw [hs1]; exact wk_different hK hW hok.1 hok.2.1)) hI
      · exact absurd (by rw [hv]; exact lg_self) hq6
  · exact absurd (zTh_eq hz2 hz1) hq4

set_option maxHeartbeats 4000000 in
set_option maxRecDepth 100000 in
theorem w_most {p : Program} {l : Launch} {e : Env} {s : State} {m : MethodId} {below : List Frame} {meth : Method} {c : Code} {b L B0 : Nat} {xs : Nat → Int32} {G : zK} {Q : State → Prop} {cells slots : Nat} {i : Nat} {ls : Array Slot} {H : Heap} {locs : List Loc} {F : zM} {σ : Sg} {th : Int32} (K : zCtx p s m c b L B0 xs) (hl0 : l.stackTraces = false) (hi : i + 5 ≤ L) (hRc : cells + 40 ≤ room_1.cells) (hRs : slots + 600 ≤ room_1.slots) (hl : lv_has ls 9 (zLv b B0 i)) (hJ : zLI G B0 F σ th) (hI : zI G B0 s H locs F)
    (kk : ∀ (ls : Array Slot) (H : Heap) (locs : List Loc) (F : zM) (σ : Sg) (th : Int32), lv_has ls 9 (zLv b B0 i) → zLI G B0 F σ th → zI G B0 s H locs F → W p l e room_1 s m #[Value.ref b] below meth c H locs (cells + 40) (slots + 600) Q (F0 m 3367 ls [])) : W p l e room_1 s m #[Value.ref b] below meth c H locs cells slots Q (F0 m 1855 ls []) := by
  obtain ⟨hx, hb, hml, hown, hts, hX, hbB, hsz, hL⟩ := K
  obtain ⟨hC, hM, hW, ⟨fo, hO⟩, fd, hD⟩ := hJ
  have hK := hC.ok hW
  have hl : lv_has ls 9 [(0, .ref b), (1, .ref B0), (2, .ref (B0 + 23)), (3, .ref (B0 + 41)), (4, .ref (B0 + 42)), (5, .int (nI i))] := hl
  refine lv_aload_n hx hb dL_law_1855 rfl (lv_at hl 1 rfl) ?_
  refine lv_aload_n hx hb dL_law_1856 rfl (lv_at hl 0 rfl) ?_
  refine lv_iload hx hb dL_law_1857 (lv_at hl 5 rfl) ?_
  refine lv_iconst (v := nI 1) hx hb dL_law_1859 (by decide) ?_
  refine lv_iadd hx hb dL_law_1860 ?_
  refine z_topi (nI_add i 1) ?_
  refine z_sld (k := i + 1) hx hb hI hX hbB hsz hL (by omega) dL_law_1861 ?_
  refine lv_aload_n hx hb dL_law_1862 rfl (lv_at hl 3 rfl) ?_
  refine z_calli hI (z_H (As := [.ref B0, .int (xs (i + 1)), .ref (B0 + 41)]) (rest := []) ⟨hx, hb, hml, hown, hts⟩ hI (c_L_most l hl0 G B0 F σ (xs (i + 1)) fo hC hK hO) (z_cwH vL_most hts q420 ⟨Nat.le_of_ble_eq_true rfl, Nat.le_of_ble_eq_true rfl⟩) rfl hl.1 rfl (lv_room (Nat.le_of_ble_eq_true rfl)) dL_law_1863 ⟨by omega, by omega⟩) (fun r5 F1 H locs hp5 hI => ?_)
  obtain ⟨hz1, ⟨σ1, fo1, hC1, ha1, hy1, hn1⟩, hf1⟩ := hp5
  have hM1 : MS G B0 F1 σ th := hM.goB (fun q h1 h2 => hf1 q h1 (by omega))
  have hD1 := (hf1 (B0 + 42) (by omega) (by omega)).trans hD
  refine lv_istore (lv' := [(6, .int r5), (0, .ref b), (1, .ref B0), (2, .ref (B0 + 23)), (3, .ref (B0 + 41)), (4, .ref (B0 + 42)), (5, .int (nI i))]) hx hb dL_law_1866 hl (by decide) rfl (fun ls hl => ?_)
  refine lv_aload_n hx hb dL_law_1868 rfl (lv_at hl 3 rfl) ?_
  refine lv_aload_n hx hb dL_law_1869 rfl (lv_at hl 1 rfl) ?_
  refine lv_iload hx hb dL_law_1870 (lv_at hl 6 rfl) ?_
  refine lv_iconst (v := nI 1) hx hb dL_law_1872 (by decide) ?_
  refine lv_iadd hx hb dL_law_1873 ?_
  refine z_topi (nI_add i 1) ?_
  refine z_sld (k := i + 1) hx hb hI hX hbB hsz hL (by omega) dL_law_1874 ?_
  refine z_calli hI (z_V (As := [.int (xs (i + 1))]) (rest := []) ⟨hx, hb, hml, hown, hts⟩ hI hM1.1 rfl (c_X4_most l G B0 F1 σ th (xs (i + 1)) hM1 hK) (z_cwV vX4_most hts q943 ⟨Nat.le_of_ble_eq_true rfl, Nat.le_of_ble_eq_true rfl⟩) rfl hl.1 rfl (lv_room (Nat.le_of_ble_eq_true rfl)) dL_law_1875 ⟨by omega, by omega⟩) (fun r6 F2 H locs hp6 hI => ?_)
  obtain ⟨th2, σ2, hM2, hz2, hy2, hn2, hf2⟩ := hp6
  have hb2 := (hf2 (B0 + 41) (Or.inr (by omega))).trans ha1
  refine lv_istore (lv' := [(7, .int r6), (6, .int r5), (0, .ref b), (1, .ref B0), (2, .ref (B0 + 23)), (3, .ref (B0 + 41)), (4, .ref (B0 + 42)), (5, .int (nI i))]) hx hb dL_law_1878 hl (by decide) rfl (fun ls hl => ?_)
  refine lv_aload_n hx hb dL_law_1880 rfl (lv_at hl 4 rfl) ?_
  refine z_calli hI (z_V (As := []) (rest := []) ⟨hx, hb, hml, hown, hts⟩ hI hM2.1 rfl (c_X4_thrown l G B0 F2 σ2 th2 hM2) (z_cwV vX4_thrown hts q726 ⟨Nat.le_of_ble_eq_true rfl, Nat.le_of_ble_eq_true rfl⟩) rfl hl.1 rfl (lv_room (Nat.le_of_ble_eq_true rfl)) dL_law_1881 ⟨by omega, by omega⟩) (fun r7 F3 H locs hp7 hI => ?_)
  obtain ⟨rfl, rfl⟩ := hp7
  refine lv_iload hx hb dL_law_1884 (lv_at hl 1 rfl) ?_
  refine lv_icmp_eq (tgt := 1891) hx hb dL_law_1886 (by decide) (fun hq4 => ?_) (fun hq4 => ?_)
  · refine lv_iload hx hb dL_law_1891 (lv_at hl 1 rfl) ?_
    refine lv_if_ne (tgt := 1908) hx hb dL_law_1893 (by decide) (fun hq5 => ?_) (fun hq5 => ?_)
    · have hno := zTh_n hz1 hq5
      refine lv_goto (tgt := 3367) hx hb dL_law_1908 (by decide) ?_
      refine W.widen (k := cells + 40) (n := slots + 600) (by omega) (by omega) ?_
      exact kk _ _ _ _ _ _ (lv_sub hl [2, 3, 4, 5, 6, 7] rfl) (zLI_end hC1 ha1 hD1 hM2 hf2 ((hn2 hno).trans (hn1 hno).symm) (by rw [hn1 hno]; exact hW)) hI
    · have hok := zTh_0 hz1 hq5
      obtain ⟨hs1, hv1⟩ := hy1 hok
      obtain ⟨hs2, hv2⟩ := hy2 hok
      have hv : fo1 0 = r6.toInt64 := hv1.trans (congrArg Int32.toInt64 hv2.symm)
      refine lv_aload_n hx hb dL_law_1896 rfl (lv_at hl 5 rfl) ?_
      refine lv_iconst (v := nI 0) hx hb dL_law_1897 (by decide) ?_
      refine z_lld (k := 0) hx hb hI hb2 (by decide) (by decide) dL_law_1898 ?_
      refine lv_iload hx hb dL_law_1899 (lv_at hl 0 rfl) ?_
      refine lv_i2l hx hb dL_law_1901 rfl ?_
      refine W.lcmp hx hb dL_law_1902 ?_
      refine lv_if_eq (tgt := 1908) hx hb dL_law_1903 (by decide) (fun hq6 => ?_) (fun hq6 => ?_)
      · refine lv_goto (tgt := 3367) hx hb dL_law_1908 (by decide) ?_
        refine W.widen (k := cells + 40) (n := slots + 600) (by omega) (by omega) ?_
        exact kk _ _ _ _ _ _ (lv_sub hl [2, 3, 4, 5, 6, 7] rfl) (zLI_end hC1 ha1 hD1 hM2 hf2 (hs2.trans hs1.symm) (by rw [hs1]; exact wk_most hK hW hok.1 hok.2.1)) hI
      · exact absurd (by rw [hv]; exact lg_self) hq6
  · exact absurd (zTh_eq hz2 hz1) hq4

set_option maxHeartbeats 4000000 in
set_option maxRecDepth 100000 in
theorem w_isApart {p : Program} {l : Launch} {e : Env} {s : State} {m : MethodId} {below : List Frame} {meth : Method} {c : Code} {b L B0 : Nat} {xs : Nat → Int32} {G : zK} {Q : State → Prop} {cells slots : Nat} {i : Nat} {ls : Array Slot} {H : Heap} {locs : List Loc} {F : zM} {σ : Sg} {th : Int32} (K : zCtx p s m c b L B0 xs) (hl0 : l.stackTraces = false) (hi : i + 5 ≤ L) (hRc : cells + 40 ≤ room_1.cells) (hRs : slots + 600 ≤ room_1.slots) (hl : lv_has ls 9 (zLv b B0 i)) (hJ : zLI G B0 F σ th) (hI : zI G B0 s H locs F)
    (kk : ∀ (ls : Array Slot) (H : Heap) (locs : List Loc) (F : zM) (σ : Sg) (th : Int32), lv_has ls 9 (zLv b B0 i) → zLI G B0 F σ th → zI G B0 s H locs F → W p l e room_1 s m #[Value.ref b] below meth c H locs (cells + 40) (slots + 600) Q (F0 m 3367 ls [])) : W p l e room_1 s m #[Value.ref b] below meth c H locs cells slots Q (F0 m 1911 ls []) := by
  obtain ⟨hx, hb, hml, hown, hts, hX, hbB, hsz, hL⟩ := K
  obtain ⟨hC, hM, hW, ⟨fo, hO⟩, fd, hD⟩ := hJ
  have hK := hC.ok hW
  have hl : lv_has ls 9 [(0, .ref b), (1, .ref B0), (2, .ref (B0 + 23)), (3, .ref (B0 + 41)), (4, .ref (B0 + 42)), (5, .int (nI i))] := hl
  refine lv_aload_n hx hb dL_law_1911 rfl (lv_at hl 1 rfl) ?_
  refine lv_aload_n hx hb dL_law_1912 rfl (lv_at hl 0 rfl) ?_
  refine lv_iload hx hb dL_law_1913 (lv_at hl 5 rfl) ?_
  refine lv_iconst (v := nI 1) hx hb dL_law_1915 (by decide) ?_
  refine lv_iadd hx hb dL_law_1916 ?_
  refine z_topi (nI_add i 1) ?_
  refine z_sld (k := i + 1) hx hb hI hX hbB hsz hL (by omega) dL_law_1917 ?_
  refine lv_aload_n hx hb dL_law_1918 rfl (lv_at hl 0 rfl) ?_
  refine lv_iload hx hb dL_law_1919 (lv_at hl 5 rfl) ?_
  refine lv_iconst (v := nI 2) hx hb dL_law_1921 (by decide) ?_
  refine lv_iadd hx hb dL_law_1922 ?_
  refine z_topi (nI_add i 2) ?_
  refine z_sld (k := i + 2) hx hb hI hX hbB hsz hL (by omega) dL_law_1923 ?_
  refine lv_aload_n hx hb dL_law_1924 rfl (lv_at hl 3 rfl) ?_
  refine z_calli hI (z_H (As := [.ref B0, .int (xs (i + 1)), .int (xs (i + 2)), .ref (B0 + 41)]) (rest := []) ⟨hx, hb, hml, hown, hts⟩ hI (c_L_isApart l hl0 G B0 F σ (xs (i + 1)) (xs (i + 2)) fo hC hK hO) (z_cwH vL_isApart hts q447 ⟨Nat.le_of_ble_eq_true rfl, Nat.le_of_ble_eq_true rfl⟩) rfl hl.1 rfl (lv_room (Nat.le_of_ble_eq_true rfl)) dL_law_1925 ⟨by omega, by omega⟩) (fun r5 F1 H locs hp5 hI => ?_)
  obtain ⟨hz1, ⟨σ1, fo1, hC1, ha1, hy1, hn1⟩, hf1⟩ := hp5
  have hM1 : MS G B0 F1 σ th := hM.goB (fun q h1 h2 => hf1 q h1 (by omega))
  have hD1 := (hf1 (B0 + 42) (by omega) (by omega)).trans hD
  refine lv_istore (lv' := [(6, .int r5), (0, .ref b), (1, .ref B0), (2, .ref (B0 + 23)), (3, .ref (B0 + 41)), (4, .ref (B0 + 42)), (5, .int (nI i))]) hx hb dL_law_1928 hl (by decide) rfl (fun ls hl => ?_)
  refine lv_aload_n hx hb dL_law_1930 rfl (lv_at hl 3 rfl) ?_
  refine lv_aload_n hx hb dL_law_1931 rfl (lv_at hl 1 rfl) ?_
  refine lv_iload hx hb dL_law_1932 (lv_at hl 6 rfl) ?_
  refine lv_iconst (v := nI 1) hx hb dL_law_1934 (by decide) ?_
  refine lv_iadd hx hb dL_law_1935 ?_
  refine z_topi (nI_add i 1) ?_
  refine z_sld (k := i + 1) hx hb hI hX hbB hsz hL (by omega) dL_law_1936 ?_
  refine lv_aload_n hx hb dL_law_1937 rfl (lv_at hl 1 rfl) ?_
  refine lv_iload hx hb dL_law_1938 (lv_at hl 6 rfl) ?_
  refine lv_iconst (v := nI 2) hx hb dL_law_1940 (by decide) ?_
  refine lv_iadd hx hb dL_law_1941 ?_
  refine z_topi (nI_add i 2) ?_
  refine z_sld (k := i + 2) hx hb hI hX hbB hsz hL (by omega) dL_law_1942 ?_
  refine z_calli hI (z_V (As := [.int (xs (i + 1)), .int (xs (i + 2))]) (rest := []) ⟨hx, hb, hml, hown, hts⟩ hI hM1.1 rfl (c_X4_isApart l G B0 F1 σ th (xs (i + 1)) (xs (i + 2)) hM1 hK) (z_cwV vX4_isApart hts q947 ⟨Nat.le_of_ble_eq_true rfl, Nat.le_of_ble_eq_true rfl⟩) rfl hl.1 rfl (lv_room (Nat.le_of_ble_eq_true rfl)) dL_law_1943 ⟨by omega, by omega⟩) (fun r6 F2 H locs hp6 hI => ?_)
  obtain ⟨th2, σ2, hM2, hz2, hy2, hn2, hf2⟩ := hp6
  have hb2 := (hf2 (B0 + 41) (Or.inr (by omega))).trans ha1
  refine lv_istore (lv' := [(7, .int r6), (6, .int r5), (0, .ref b), (1, .ref B0), (2, .ref (B0 + 23)), (3, .ref (B0 + 41)), (4, .ref (B0 + 42)), (5, .int (nI i))]) hx hb dL_law_1946 hl (by decide) rfl (fun ls hl => ?_)
  refine lv_aload_n hx hb dL_law_1948 rfl (lv_at hl 4 rfl) ?_
  refine z_calli hI (z_V (As := []) (rest := []) ⟨hx, hb, hml, hown, hts⟩ hI hM2.1 rfl (c_X4_thrown l G B0 F2 σ2 th2 hM2) (z_cwV vX4_thrown hts q726 ⟨Nat.le_of_ble_eq_true rfl, Nat.le_of_ble_eq_true rfl⟩) rfl hl.1 rfl (lv_room (Nat.le_of_ble_eq_true rfl)) dL_law_1949 ⟨by omega, by omega⟩) (fun r7 F3 H locs hp7 hI => ?_)
  obtain ⟨rfl, rfl⟩ := hp7
  refine lv_iload hx hb dL_law_1952 (lv_at hl 1 rfl) ?_
  refine lv_icmp_eq (tgt := 1959) hx hb dL_law_1954 (by decide) (fun hq4 => ?_) (fun hq4 => ?_)
  · refine lv_iload hx hb dL_law_1959 (lv_at hl 1 rfl) ?_
    refine lv_if_ne (tgt := 1983) hx hb dL_law_1961 (by decide) (fun hq5 => ?_) (fun hq5 => ?_)
    · have hno := zTh_n hz1 hq5
      refine lv_goto (tgt := 3367) hx hb dL_law_1983 (by decide) ?_
      refine W.widen (k := cells + 40) (n := slots + 600) (by omega) (by omega) ?_
      exact kk _ _ _ _ _ _ (lv_sub hl [2, 3, 4, 5, 6, 7] rfl) (zLI_end hC1 ha1 hD1 hM2 hf2 ((hn2 hno).trans (hn1 hno).symm) (by rw [hn1 hno]; exact hW)) hI
    · have hok := zTh_0 hz1 hq5
      obtain ⟨hs1, hv1⟩ := hy1 hok
      obtain ⟨hs2, hv2⟩ := hy2 hok
      have hv : fo1 0 = r6.toInt64 := hv1.trans (congrArg Int32.toInt64 hv2.symm)
      have h01 : r6 = 0 ∨ r6 = 1 := by rw [hv2]; unfold rr_isApart; exact pI_or
      refine lv_aload_n hx hb dL_law_1964 rfl (lv_at hl 5 rfl) ?_
      refine lv_iconst (v := nI 0) hx hb dL_law_1965 (by decide) ?_
      refine z_lld (k := 0) hx hb hI hb2 (by decide) (by decide) dL_law_1966 ?_
      refine lv_iload hx hb dL_law_1967 (lv_at hl 0 rfl) ?_
      refine lv_if_eq (tgt := 1976) hx hb dL_law_1969 (by decide) (fun hq6 => ?_) (fun hq6 => ?_)
      · refine lv_lconst (v := 0) hx hb dL_law_1976 (by decide) ?_
        refine W.lcmp hx hb dL_law_1977 ?_
        refine lv_if_eq (tgt := 1983) hx hb dL_law_1978 (by decide) (fun hq7 => ?_) (fun hq7 => ?_)
        · refine lv_goto (tgt := 3367) hx hb dL_law_1983 (by decide) ?_
          refine W.widen (k := cells + 40) (n := slots + 600) (by omega) (by omega) ?_
          exact kk _ _ _ _ _ _ (lv_sub hl [2, 3, 4, 5, 6, 7] rfl) (zLI_end hC1 ha1 hD1 hM2 hf2 (hs2.trans hs1.symm) (by rw [hs1]; exact wk_isApart hK hW hok.1 hok.2.1)) hI
        · exact absurd (by rw [hv, hq6]; exact lg_self) hq7
      · refine lv_lconst (v := 1) hx hb dL_law_1972 (by decide) ?_
        refine lv_goto (tgt := 1977) hx hb dL_law_1973 (by decide) ?_
        refine W.lcmp hx hb dL_law_1977 ?_
        refine lv_if_eq (tgt := 1983) hx hb dL_law_1978 (by decide) (fun hq8 => ?_) (fun hq8 => ?_)
        · refine lv_goto (tgt := 3367) hx hb dL_law_1983 (by decide) ?_
          refine W.widen (k := cells + 40) (n := slots + 600) (by omega) (by omega) ?_
          exact kk _ _ _ _ _ _ (lv_sub hl [2, 3, 4, 5, 6, 7] rfl) (zLI_end hC1 ha1 hD1 hM2 hf2 (hs2.trans hs1.symm) (by rw [hs1]; exact wk_isApart hK hW hok.1 hok.2.1)) hI
        · exact absurd (by rw [hv, h01.resolve_left hq6]; exact lg_self) hq8
  · exact absurd (zTh_eq hz2 hz1) hq4

set_option maxHeartbeats 4000000 in
set_option maxRecDepth 100000 in
theorem w_alone {p : Program} {l : Launch} {e : Env} {s : State} {m : MethodId} {below : List Frame} {meth : Method} {c : Code} {b L B0 : Nat} {xs : Nat → Int32} {G : zK} {Q : State → Prop} {cells slots : Nat} {i : Nat} {ls : Array Slot} {H : Heap} {locs : List Loc} {F : zM} {σ : Sg} {th : Int32} (K : zCtx p s m c b L B0 xs) (hl0 : l.stackTraces = false) (hi : i + 5 ≤ L) (hRc : cells + 40 ≤ room_1.cells) (hRs : slots + 600 ≤ room_1.slots) (hl : lv_has ls 9 (zLv b B0 i)) (hJ : zLI G B0 F σ th) (hI : zI G B0 s H locs F)
    (kk : ∀ (ls : Array Slot) (H : Heap) (locs : List Loc) (F : zM) (σ : Sg) (th : Int32), lv_has ls 9 (zLv b B0 i) → zLI G B0 F σ th → zI G B0 s H locs F → W p l e room_1 s m #[Value.ref b] below meth c H locs (cells + 40) (slots + 600) Q (F0 m 3367 ls [])) : W p l e room_1 s m #[Value.ref b] below meth c H locs cells slots Q (F0 m 1986 ls []) := by
  obtain ⟨hx, hb, hml, hown, hts, hX, hbB, hsz, hL⟩ := K
  obtain ⟨hC, hM, hW, ⟨fo, hO⟩, fd, hD⟩ := hJ
  have hK := hC.ok hW
  have hl : lv_has ls 9 [(0, .ref b), (1, .ref B0), (2, .ref (B0 + 23)), (3, .ref (B0 + 41)), (4, .ref (B0 + 42)), (5, .int (nI i))] := hl
  refine lv_aload_n hx hb dL_law_1986 rfl (lv_at hl 1 rfl) ?_
  refine lv_aload_n hx hb dL_law_1987 rfl (lv_at hl 0 rfl) ?_
  refine lv_iload hx hb dL_law_1988 (lv_at hl 5 rfl) ?_
  refine lv_iconst (v := nI 1) hx hb dL_law_1990 (by decide) ?_
  refine lv_iadd hx hb dL_law_1991 ?_
  refine z_topi (nI_add i 1) ?_
  refine z_sld (k := i + 1) hx hb hI hX hbB hsz hL (by omega) dL_law_1992 ?_
  refine lv_aload_n hx hb dL_law_1993 rfl (lv_at hl 0 rfl) ?_
  refine lv_iload hx hb dL_law_1994 (lv_at hl 5 rfl) ?_
  refine lv_iconst (v := nI 2) hx hb dL_law_1996 (by decide) ?_
  refine lv_iadd hx hb dL_law_1997 ?_
  refine z_topi (nI_add i 2) ?_
  refine z_sld (k := i + 2) hx hb hI hX hbB hsz hL (by omega) dL_law_1998 ?_
  refine lv_aload_n hx hb dL_law_1999 rfl (lv_at hl 3 rfl) ?_
  refine z_calli hI (z_H (As := [.ref B0, .int (xs (i + 1)), .int (xs (i + 2)), .ref (B0 + 41)]) (rest := []) ⟨hx, hb, hml, hown, hts⟩ hI (c_L_alone l hl0 G B0 F σ (xs (i + 1)) (xs (i + 2)) fo hC hK hO) (z_cwH vL_alone hts q459 ⟨Nat.le_of_ble_eq_true rfl, Nat.le_of_ble_eq_true rfl⟩) rfl hl.1 rfl (lv_room (Nat.le_of_ble_eq_true rfl)) dL_law_2000 ⟨by omega, by omega⟩) (fun r5 F1 H locs hp5 hI => ?_)
  obtain ⟨hz1, ⟨σ1, fo1, hC1, ha1, hy1, hn1⟩, hf1⟩ := hp5
  have hM1 : MS G B0 F1 σ th := hM.goB (fun q h1 h2 => hf1 q h1 (by omega))
  have hD1 := (hf1 (B0 + 42) (by omega) (by omega)).trans hD
  refine lv_istore (lv' := [(6, .int r5), (0, .ref b), (1, .ref B0), (2, .ref (B0 + 23)), (3, .ref (B0 + 41)), (4, .ref (B0 + 42)), (5, .int (nI i))]) hx hb dL_law_2003 hl (by decide) rfl (fun ls hl => ?_)
  refine lv_aload_n hx hb dL_law_2005 rfl (lv_at hl 3 rfl) ?_
  refine lv_aload_n hx hb dL_law_2006 rfl (lv_at hl 1 rfl) ?_
  refine lv_iload hx hb dL_law_2007 (lv_at hl 6 rfl) ?_
  refine lv_iconst (v := nI 1) hx hb dL_law_2009 (by decide) ?_
  refine lv_iadd hx hb dL_law_2010 ?_
  refine z_topi (nI_add i 1) ?_
  refine z_sld (k := i + 1) hx hb hI hX hbB hsz hL (by omega) dL_law_2011 ?_
  refine lv_aload_n hx hb dL_law_2012 rfl (lv_at hl 1 rfl) ?_
  refine lv_iload hx hb dL_law_2013 (lv_at hl 6 rfl) ?_
  refine lv_iconst (v := nI 2) hx hb dL_law_2015 (by decide) ?_
  refine lv_iadd hx hb dL_law_2016 ?_
  refine z_topi (nI_add i 2) ?_
  refine z_sld (k := i + 2) hx hb hI hX hbB hsz hL (by omega) dL_law_2017 ?_
  refine z_calli hI (z_V (As := [.int (xs (i + 1)), .int (xs (i + 2))]) (rest := []) ⟨hx, hb, hml, hown, hts⟩ hI hM1.1 rfl (c_X4_alone l G B0 F1 σ th (xs (i + 1)) (xs (i + 2)) hM1 hK) (z_cwV vX4_alone hts q951 ⟨Nat.le_of_ble_eq_true rfl, Nat.le_of_ble_eq_true rfl⟩) rfl hl.1 rfl (lv_room (Nat.le_of_ble_eq_true rfl)) dL_law_2018 ⟨by omega, by omega⟩) (fun r6 F2 H locs hp6 hI => ?_)
  obtain ⟨th2, σ2, hM2, hz2, hy2, hn2, hf2⟩ := hp6
  have hb2 := (hf2 (B0 + 41) (Or.inr (by omega))).trans ha1
  refine lv_istore (lv' := [(7, .int r6), (6, .int r5), (0, .ref b), (1, .ref B0), (2, .ref (B0 + 23)), (3, .ref (B0 + 41)), (4, .ref (B0 + 42)), (5, .int (nI i))]) hx hb dL_law_2021 hl (by decide) rfl (fun ls hl => ?_)
  refine lv_aload_n hx hb dL_law_2023 rfl (lv_at hl 4 rfl) ?_
  refine z_calli hI (z_V (As := []) (rest := []) ⟨hx, hb, hml, hown, hts⟩ hI hM2.1 rfl (c_X4_thrown l G B0 F2 σ2 th2 hM2) (z_cwV vX4_thrown hts q726 ⟨Nat.le_of_ble_eq_true rfl, Nat.le_of_ble_eq_true rfl⟩) rfl hl.1 rfl (lv_room (Nat.le_of_ble_eq_true rfl)) dL_law_2024 ⟨by omega, by omega⟩) (fun r7 F3 H locs hp7 hI => ?_)
  obtain ⟨rfl, rfl⟩ := hp7
  refine lv_iload hx hb dL_law_2027 (lv_at hl 1 rfl) ?_
  refine lv_icmp_eq (tgt := 2034) hx hb dL_law_2029 (by decide) (fun hq4 => ?_) (fun hq4 => ?_)
  · refine lv_iload hx hb dL_law_2034 (lv_at hl 1 rfl) ?_
    refine lv_if_ne (tgt := 2051) hx hb dL_law_2036 (by decide) (fun hq5 => ?_) (fun hq5 => ?_)
    · have hno := zTh_n hz1 hq5
      refine lv_goto (tgt := 3367) hx hb dL_law_2051 (by decide) ?_
      refine W.widen (k := cells + 40) (n := slots + 600) (by omega) (by omega) ?_
      exact kk _ _ _ _ _ _ (lv_sub hl [2, 3, 4, 5, 6, 7] rfl) (zLI_end hC1 ha1 hD1 hM2 hf2 ((hn2 hno).trans (hn1 hno).symm) (by rw [hn1 hno]; exact hW)) hI
    · have hok := zTh_0 hz1 hq5
      obtain ⟨hs1, hv1⟩ := hy1 hok
      obtain ⟨hs2, hv2⟩ := hy2 hok
      have hv : fo1 0 = r6.toInt64 := hv1.trans (congrArg Int32.toInt64 hv2.symm)
      refine lv_aload_n hx hb dL_law_2039 rfl (lv_at hl 5 rfl) ?_
      refine lv_iconst (v := nI 0) hx hb dL_law_2040 (by decide) ?_
      refine z_lld (k := 0) hx hb hI hb2 (by decide) (by decide) dL_law_2041 ?_
      refine lv_iload hx hb dL_law_2042 (lv_at hl 0 rfl) ?_
      refine lv_i2l hx hb dL_law_2044 rfl ?_
      refine W.lcmp hx hb dL_law_2045 ?_
      refine lv_if_eq (tgt := 2051) hx hb dL_law_2046 (by decide) (fun hq6 => ?_) (fun hq6 => ?_)
      · refine lv_goto (tgt := 3367) hx hb dL_law_2051 (by decide) ?_
        refine W.widen (k := cells + 40) (n := slots + 600) (by omega) (by omega) ?_
        exact kk _ _ _ _ _ _ (lv_sub hl [2, 3, 4, 5, 6, 7] rfl) (zLI_end hC1 ha1 hD1 hM2 hf2 (hs2.trans hs1.symm) (by rw [hs1]; exact wk_alone hK hW hok.1 hok.2.1)) hI
      · exact absurd (by rw [hv]; exact lg_self) hq6
  · exact absurd (zTh_eq hz2 hz1) hq4

set_option maxHeartbeats 4000000 in
set_option maxRecDepth 100000 in
theorem w_greatest {p : Program} {l : Launch} {e : Env} {s : State} {m : MethodId} {below : List Frame} {meth : Method} {c : Code} {b L B0 : Nat} {xs : Nat → Int32} {G : zK} {Q : State → Prop} {cells slots : Nat} {i : Nat} {ls : Array Slot} {H : Heap} {locs : List Loc} {F : zM} {σ : Sg} {th : Int32} (K : zCtx p s m c b L B0 xs) (hl0 : l.stackTraces = false) (hi : i + 5 ≤ L) (hRc : cells + 40 ≤ room_1.cells) (hRs : slots + 600 ≤ room_1.slots) (hl : lv_has ls 9 (zLv b B0 i)) (hJ : zLI G B0 F σ th) (hI : zI G B0 s H locs F)
    (kk : ∀ (ls : Array Slot) (H : Heap) (locs : List Loc) (F : zM) (σ : Sg) (th : Int32), lv_has ls 9 (zLv b B0 i) → zLI G B0 F σ th → zI G B0 s H locs F → W p l e room_1 s m #[Value.ref b] below meth c H locs (cells + 40) (slots + 600) Q (F0 m 3367 ls [])) : W p l e room_1 s m #[Value.ref b] below meth c H locs cells slots Q (F0 m 2054 ls []) := by
  obtain ⟨hx, hb, hml, hown, hts, hX, hbB, hsz, hL⟩ := K
  obtain ⟨hC, hM, hW, ⟨fo, hO⟩, fd, hD⟩ := hJ
  have hK := hC.ok hW
  have hl : lv_has ls 9 [(0, .ref b), (1, .ref B0), (2, .ref (B0 + 23)), (3, .ref (B0 + 41)), (4, .ref (B0 + 42)), (5, .int (nI i))] := hl
  refine lv_aload_n hx hb dL_law_2054 rfl (lv_at hl 1 rfl) ?_
  refine lv_aload_n hx hb dL_law_2055 rfl (lv_at hl 0 rfl) ?_
  refine lv_iload hx hb dL_law_2056 (lv_at hl 5 rfl) ?_
  refine lv_iconst (v := nI 1) hx hb dL_law_2058 (by decide) ?_
  refine lv_iadd hx hb dL_law_2059 ?_
  refine z_topi (nI_add i 1) ?_
  refine z_sld (k := i + 1) hx hb hI hX hbB hsz hL (by omega) dL_law_2060 ?_
  refine lv_aload_n hx hb dL_law_2061 rfl (lv_at hl 0 rfl) ?_
  refine lv_iload hx hb dL_law_2062 (lv_at hl 5 rfl) ?_
  refine lv_iconst (v := nI 2) hx hb dL_law_2064 (by decide) ?_
  refine lv_iadd hx hb dL_law_2065 ?_
  refine z_topi (nI_add i 2) ?_
  refine z_sld (k := i + 2) hx hb hI hX hbB hsz hL (by omega) dL_law_2066 ?_
  refine lv_aload_n hx hb dL_law_2067 rfl (lv_at hl 3 rfl) ?_
  refine z_calli hI (z_H (As := [.ref B0, .int (xs (i + 1)), .int (xs (i + 2)), .ref (B0 + 41)]) (rest := []) ⟨hx, hb, hml, hown, hts⟩ hI (c_L_greatest l hl0 G B0 F σ (xs (i + 1)) (xs (i + 2)) fo hC hK hO) (z_cwH vL_greatest hts q466 ⟨Nat.le_of_ble_eq_true rfl, Nat.le_of_ble_eq_true rfl⟩) rfl hl.1 rfl (lv_room (Nat.le_of_ble_eq_true rfl)) dL_law_2068 ⟨by omega, by omega⟩) (fun r5 F1 H locs hp5 hI => ?_)
  obtain ⟨hz1, ⟨σ1, fo1, hC1, ha1, hy1, hn1⟩, hf1⟩ := hp5
  have hM1 : MS G B0 F1 σ th := hM.goB (fun q h1 h2 => hf1 q h1 (by omega))
  have hD1 := (hf1 (B0 + 42) (by omega) (by omega)).trans hD
  refine lv_istore (lv' := [(6, .int r5), (0, .ref b), (1, .ref B0), (2, .ref (B0 + 23)), (3, .ref (B0 + 41)), (4, .ref (B0 + 42)), (5, .int (nI i))]) hx hb dL_law_2071 hl (by decide) rfl (fun ls hl => ?_)
  refine lv_aload_n hx hb dL_law_2073 rfl (lv_at hl 3 rfl) ?_
  refine lv_aload_n hx hb dL_law_2074 rfl (lv_at hl 1 rfl) ?_
  refine lv_iload hx hb dL_law_2075 (lv_at hl 6 rfl) ?_
  refine lv_iconst (v := nI 1) hx hb dL_law_2077 (by decide) ?_
  refine lv_iadd hx hb dL_law_2078 ?_
  refine z_topi (nI_add i 1) ?_
  refine z_sld (k := i + 1) hx hb hI hX hbB hsz hL (by omega) dL_law_2079 ?_
  refine lv_aload_n hx hb dL_law_2080 rfl (lv_at hl 1 rfl) ?_
  refine lv_iload hx hb dL_law_2081 (lv_at hl 6 rfl) ?_
  refine lv_iconst (v := nI 2) hx hb dL_law_2083 (by decide) ?_
  refine lv_iadd hx hb dL_law_2084 ?_
  refine z_topi (nI_add i 2) ?_
  refine z_sld (k := i + 2) hx hb hI hX hbB hsz hL (by omega) dL_law_2085 ?_
  refine z_calli hI (z_V (As := [.int (xs (i + 1)), .int (xs (i + 2))]) (rest := []) ⟨hx, hb, hml, hown, hts⟩ hI hM1.1 rfl (c_X4_greatest l G B0 F1 σ th (xs (i + 1)) (xs (i + 2)) hM1 hK) (z_cwV vX4_greatest hts q955 ⟨Nat.le_of_ble_eq_true rfl, Nat.le_of_ble_eq_true rfl⟩) rfl hl.1 rfl (lv_room (Nat.le_of_ble_eq_true rfl)) dL_law_2086 ⟨by omega, by omega⟩) (fun r6 F2 H locs hp6 hI => ?_)
  obtain ⟨th2, σ2, hM2, hz2, hy2, hn2, hf2⟩ := hp6
  have hb2 := (hf2 (B0 + 41) (Or.inr (by omega))).trans ha1
  refine lv_istore (lv' := [(7, .int r6), (6, .int r5), (0, .ref b), (1, .ref B0), (2, .ref (B0 + 23)), (3, .ref (B0 + 41)), (4, .ref (B0 + 42)), (5, .int (nI i))]) hx hb dL_law_2089 hl (by decide) rfl (fun ls hl => ?_)
  refine lv_aload_n hx hb dL_law_2091 rfl (lv_at hl 4 rfl) ?_
  refine z_calli hI (z_V (As := []) (rest := []) ⟨hx, hb, hml, hown, hts⟩ hI hM2.1 rfl (c_X4_thrown l G B0 F2 σ2 th2 hM2) (z_cwV vX4_thrown hts q726 ⟨Nat.le_of_ble_eq_true rfl, Nat.le_of_ble_eq_true rfl⟩) rfl hl.1 rfl (lv_room (Nat.le_of_ble_eq_true rfl)) dL_law_2092 ⟨by omega, by omega⟩) (fun r7 F3 H locs hp7 hI => ?_)
  obtain ⟨rfl, rfl⟩ := hp7
  refine lv_iload hx hb dL_law_2095 (lv_at hl 1 rfl) ?_
  refine lv_icmp_eq (tgt := 2102) hx hb dL_law_2097 (by decide) (fun hq4 => ?_) (fun hq4 => ?_)
  · refine lv_iload hx hb dL_law_2102 (lv_at hl 1 rfl) ?_
    refine lv_if_ne (tgt := 2119) hx hb dL_law_2104 (by decide) (fun hq5 => ?_) (fun hq5 => ?_)
    · have hno := zTh_n hz1 hq5
      refine lv_goto (tgt := 3367) hx hb dL_law_2119 (by decide) ?_
      refine W.widen (k := cells + 40) (n := slots + 600) (by omega) (by omega) ?_
      exact kk _ _ _ _ _ _ (lv_sub hl [2, 3, 4, 5, 6, 7] rfl) (zLI_end hC1 ha1 hD1 hM2 hf2 ((hn2 hno).trans (hn1 hno).symm) (by rw [hn1 hno]; exact hW)) hI
    · have hok := zTh_0 hz1 hq5
      obtain ⟨hs1, hv1⟩ := hy1 hok
      obtain ⟨hs2, hv2⟩ := hy2 hok
      have hv : fo1 0 = r6.toInt64 := hv1.trans (congrArg Int32.toInt64 hv2.symm)
      refine lv_aload_n hx hb dL_law_2107 rfl (lv_at hl 5 rfl) ?_
      refine lv_iconst (v := nI 0) hx hb dL_law_2108 (by decide) ?_
      refine z_lld (k := 0) hx hb hI hb2 (by decide) (by decide) dL_law_2109 ?_
      refine lv_iload hx hb dL_law_2110 (lv_at hl 0 rfl) ?_
      refine lv_i2l hx hb dL_law_2112 rfl ?_
      refine W.lcmp hx hb dL_law_2113 ?_
      refine lv_if_eq (tgt := 2119) hx hb dL_law_2114 (by decide) (fun hq6 => ?_) (fun hq6 => ?_)
      · refine lv_goto (tgt := 3367) hx hb dL_law_2119 (by decide) ?_
        refine W.widen (k := cells + 40) (n := slots + 600) (by omega) (by omega) ?_
        exact kk _ _ _ _ _ _ (lv_sub hl [2, 3, 4, 5, 6, 7] rfl) (zLI_end hC1 ha1 hD1 hM2 hf2 (hs2.trans hs1.symm) (by rw [hs1]; exact wk_greatest hK hW hok.1 hok.2.1)) hI
      · exact absurd (by rw [hv]; exact lg_self) hq6
  · exact absurd (zTh_eq hz2 hz1) hq4

set_option maxHeartbeats 4000000 in
set_option maxRecDepth 100000 in
theorem w_least {p : Program} {l : Launch} {e : Env} {s : State} {m : MethodId} {below : List Frame} {meth : Method} {c : Code} {b L B0 : Nat} {xs : Nat → Int32} {G : zK} {Q : State → Prop} {cells slots : Nat} {i : Nat} {ls : Array Slot} {H : Heap} {locs : List Loc} {F : zM} {σ : Sg} {th : Int32} (K : zCtx p s m c b L B0 xs) (hl0 : l.stackTraces = false) (hi : i + 5 ≤ L) (hRc : cells + 40 ≤ room_1.cells) (hRs : slots + 600 ≤ room_1.slots) (hl : lv_has ls 9 (zLv b B0 i)) (hJ : zLI G B0 F σ th) (hI : zI G B0 s H locs F)
    (kk : ∀ (ls : Array Slot) (H : Heap) (locs : List Loc) (F : zM) (σ : Sg) (th : Int32), lv_has ls 9 (zLv b B0 i) → zLI G B0 F σ th → zI G B0 s H locs F → W p l e room_1 s m #[Value.ref b] below meth c H locs (cells + 40) (slots + 600) Q (F0 m 3367 ls [])) : W p l e room_1 s m #[Value.ref b] below meth c H locs cells slots Q (F0 m 2122 ls []) := by
  obtain ⟨hx, hb, hml, hown, hts, hX, hbB, hsz, hL⟩ := K
  obtain ⟨hC, hM, hW, ⟨fo, hO⟩, fd, hD⟩ := hJ
  have hK := hC.ok hW
  have hl : lv_has ls 9 [(0, .ref b), (1, .ref B0), (2, .ref (B0 + 23)), (3, .ref (B0 + 41)), (4, .ref (B0 + 42)), (5, .int (nI i))] := hl
  refine lv_aload_n hx hb dL_law_2122 rfl (lv_at hl 1 rfl) ?_
  refine lv_aload_n hx hb dL_law_2123 rfl (lv_at hl 0 rfl) ?_
  refine lv_iload hx hb dL_law_2124 (lv_at hl 5 rfl) ?_
  refine lv_iconst (v := nI 1) hx hb dL_law_2126 (by decide) ?_
  refine lv_iadd hx hb dL_law_2127 ?_
  refine z_topi (nI_add i 1) ?_
  refine z_sld (k := i + 1) hx hb hI hX hbB hsz hL (by omega) dL_law_2128 ?_
  refine lv_aload_n hx hb dL_law_2129 rfl (lv_at hl 0 rfl) ?_
  refine lv_iload hx hb dL_law_2130 (lv_at hl 5 rfl) ?_
  refine lv_iconst (v := nI 2) hx hb dL_law_2132 (by decide) ?_
  refine lv_iadd hx hb dL_law_2133 ?_
  refine z_topi (nI_add i 2) ?_
  refine z_sld (k := i + 2) hx hb hI hX hbB hsz hL (by omega) dL_law_2134 ?_
  refine lv_aload_n hx hb dL_law_2135 rfl (lv_at hl 3 rfl) ?_
  refine z_calli hI (z_H (As := [.ref B0, .int (xs (i + 1)), .int (xs (i + 2)), .ref (B0 + 41)]) (rest := []) ⟨hx, hb, hml, hown, hts⟩ hI (c_L_least l hl0 G B0 F σ (xs (i + 1)) (xs (i + 2)) fo hC hK hO) (z_cwH vL_least hts q484 ⟨Nat.le_of_ble_eq_true rfl, Nat.le_of_ble_eq_true rfl⟩) rfl hl.1 rfl (lv_room (Nat.le_of_ble_eq_true rfl)) dL_law_2136 ⟨by omega, by omega⟩) (fun r5 F1 H locs hp5 hI => ?_)
  obtain ⟨hz1, ⟨σ1, fo1, hC1, ha1, hy1, hn1⟩, hf1⟩ := hp5
  have hM1 : MS G B0 F1 σ th := hM.goB (fun q h1 h2 => hf1 q h1 (by omega))
  have hD1 := (hf1 (B0 + 42) (by omega) (by omega)).trans hD
  refine lv_istore (lv' := [(6, .int r5), (0, .ref b), (1, .ref B0), (2, .ref (B0 + 23)), (3, .ref (B0 + 41)), (4, .ref (B0 + 42)), (5, .int (nI i))]) hx hb dL_law_2139 hl (by decide) rfl (fun ls hl => ?_)
  refine lv_aload_n hx hb dL_law_2141 rfl (lv_at hl 3 rfl) ?_
  refine lv_aload_n hx hb dL_law_2142 rfl (lv_at hl 1 rfl) ?_
  refine lv_iload hx hb dL_law_2143 (lv_at hl 6 rfl) ?_
  refine lv_iconst (v := nI 1) hx hb dL_law_2145 (by decide) ?_
  refine lv_iadd hx hb dL_law_2146 ?_
  refine z_topi (nI_add i 1) ?_
  refine z_sld (k := i + 1) hx hb hI hX hbB hsz hL (by omega) dL_law_2147 ?_
  refine lv_aload_n hx hb dL_law_2148 rfl (lv_at hl 1 rfl) ?_
  refine lv_iload hx hb dL_law_2149 (lv_at hl 6 rfl) ?_
  refine lv_iconst (v := nI 2) hx hb dL_law_2151 (by decide) ?_
  refine lv_iadd hx hb dL_law_2152 ?_
  refine z_topi (nI_add i 2) ?_
  refine z_sld (k := i + 2) hx hb hI hX hbB hsz hL (by omega) dL_law_2153 ?_
  refine z_calli hI (z_V (As := [.int (xs (i + 1)), .int (xs (i + 2))]) (rest := []) ⟨hx, hb, hml, hown, hts⟩ hI hM1.1 rfl (c_X4_least l G B0 F1 σ th (xs (i + 1)) (xs (i + 2)) hM1 hK) (z_cwV vX4_least hts q972 ⟨Nat.le_of_ble_eq_true rfl, Nat.le_of_ble_eq_true rfl⟩) rfl hl.1 rfl (lv_room (Nat.le_of_ble_eq_true rfl)) dL_law_2154 ⟨by omega, by omega⟩) (fun r6 F2 H locs hp6 hI => ?_)
  obtain ⟨th2, σ2, hM2, hz2, hy2, hn2, hf2⟩ := hp6
  have hb2 := (hf2 (B0 + 41) (Or.inr (by omega))).trans ha1
  refine lv_istore (lv' := [(7, .int r6), (6, .int r5), (0, .ref b), (1, .ref B0), (2, .ref (B0 + 23)), (3, .ref (B0 + 41)), (4, .ref (B0 + 42)), (5, .int (nI i))]) hx hb dL_law_2157 hl (by decide) rfl (fun ls hl => ?_)
  refine lv_aload_n hx hb dL_law_2159 rfl (lv_at hl 4 rfl) ?_
  refine z_calli hI (z_V (As := []) (rest := []) ⟨hx, hb, hml, hown, hts⟩ hI hM2.1 rfl (c_X4_thrown l G B0 F2 σ2 th2 hM2) (z_cwV vX4_thrown hts q726 ⟨Nat.le_of_ble_eq_true rfl, Nat.le_of_ble_eq_true rfl⟩) rfl hl.1 rfl (lv_room (Nat.le_of_ble_eq_true rfl)) dL_law_2160 ⟨by omega, by omega⟩) (fun r7 F3 H locs hp7 hI => ?_)
  obtain ⟨rfl, rfl⟩ := hp7
  refine lv_iload hx hb dL_law_2163 (lv_at hl 1 rfl) ?_
  refine lv_icmp_eq (tgt := 2170) hx hb dL_law_2165 (by decide) (fun hq4 => ?_) (fun hq4 => ?_)
  · refine lv_iload hx hb dL_law_2170 (lv_at hl 1 rfl) ?_
    refine lv_if_ne (tgt := 2187) hx hb dL_law_2172 (by decide) (fun hq5 => ?_) (fun hq5 => ?_)
    · have hno := zTh_n hz1 hq5
      refine lv_goto (tgt := 3367) hx hb dL_law_2187 (by decide) ?_
      refine W.widen (k := cells + 40) (n := slots + 600) (by omega) (by omega) ?_
      exact kk _ _ _ _ _ _ (lv_sub hl [2, 3, 4, 5, 6, 7] rfl) (zLI_end hC1 ha1 hD1 hM2 hf2 ((hn2 hno).trans (hn1 hno).symm) (by rw [hn1 hno]; exact hW)) hI
    · have hok := zTh_0 hz1 hq5
      obtain ⟨hs1, hv1⟩ := hy1 hok
      obtain ⟨hs2, hv2⟩ := hy2 hok
      have hv : fo1 0 = r6.toInt64 := hv1.trans (congrArg Int32.toInt64 hv2.symm)
      refine lv_aload_n hx hb dL_law_2175 rfl (lv_at hl 5 rfl) ?_
      refine lv_iconst (v := nI 0) hx hb dL_law_2176 (by decide) ?_
      refine z_lld (k := 0) hx hb hI hb2 (by decide) (by decide) dL_law_2177 ?_
      refine lv_iload hx hb dL_law_2178 (lv_at hl 0 rfl) ?_
      refine lv_i2l hx hb dL_law_2180 rfl ?_
      refine W.lcmp hx hb dL_law_2181 ?_
      refine lv_if_eq (tgt := 2187) hx hb dL_law_2182 (by decide) (fun hq6 => ?_) (fun hq6 => ?_)
      · refine lv_goto (tgt := 3367) hx hb dL_law_2187 (by decide) ?_
        refine W.widen (k := cells + 40) (n := slots + 600) (by omega) (by omega) ?_
        exact kk _ _ _ _ _ _ (lv_sub hl [2, 3, 4, 5, 6, 7] rfl) (zLI_end hC1 ha1 hD1 hM2 hf2 (hs2.trans hs1.symm) (by rw [hs1]; exact wk_least hK hW hok.1 hok.2.1)) hI
      · exact absurd (by rw [hv]; exact lg_self) hq6
  · exact absurd (zTh_eq hz2 hz1) hq4

set_option maxHeartbeats 4000000 in
set_option maxRecDepth 100000 in
theorem w_sort {p : Program} {l : Launch} {e : Env} {s : State} {m : MethodId} {below : List Frame} {meth : Method} {c : Code} {b L B0 : Nat} {xs : Nat → Int32} {G : zK} {Q : State → Prop} {cells slots : Nat} {i : Nat} {ls : Array Slot} {H : Heap} {locs : List Loc} {F : zM} {σ : Sg} {th : Int32} (K : zCtx p s m c b L B0 xs) (hl0 : l.stackTraces = false) (hi : i + 5 ≤ L) (hRc : cells + 40 ≤ room_1.cells) (hRs : slots + 600 ≤ room_1.slots) (hl : lv_has ls 9 (zLv b B0 i)) (hJ : zLI G B0 F σ th) (hI : zI G B0 s H locs F)
    (kk : ∀ (ls : Array Slot) (H : Heap) (locs : List Loc) (F : zM) (σ : Sg) (th : Int32), lv_has ls 9 (zLv b B0 i) → zLI G B0 F σ th → zI G B0 s H locs F → W p l e room_1 s m #[Value.ref b] below meth c H locs (cells + 40) (slots + 600) Q (F0 m 3367 ls [])) : W p l e room_1 s m #[Value.ref b] below meth c H locs cells slots Q (F0 m 2190 ls []) := by
  obtain ⟨hx, hb, hml, hown, hts, hX, hbB, hsz, hL⟩ := K
  obtain ⟨hC, hM, hW, ⟨fo, hO⟩, fd, hD⟩ := hJ
  have hK := hC.ok hW
  have hl : lv_has ls 9 [(0, .ref b), (1, .ref B0), (2, .ref (B0 + 23)), (3, .ref (B0 + 41)), (4, .ref (B0 + 42)), (5, .int (nI i))] := hl
  refine lv_aload_n hx hb dL_law_2190 rfl (lv_at hl 1 rfl) ?_
  refine lv_aload_n hx hb dL_law_2191 rfl (lv_at hl 0 rfl) ?_
  refine lv_iload hx hb dL_law_2192 (lv_at hl 5 rfl) ?_
  refine lv_iconst (v := nI 1) hx hb dL_law_2194 (by decide) ?_
  refine lv_iadd hx hb dL_law_2195 ?_
  refine z_topi (nI_add i 1) ?_
  refine z_sld (k := i + 1) hx hb hI hX hbB hsz hL (by omega) dL_law_2196 ?_
  refine lv_aload_n hx hb dL_law_2197 rfl (lv_at hl 0 rfl) ?_
  refine lv_iload hx hb dL_law_2198 (lv_at hl 5 rfl) ?_
  refine lv_iconst (v := nI 2) hx hb dL_law_2200 (by decide) ?_
  refine lv_iadd hx hb dL_law_2201 ?_
  refine z_topi (nI_add i 2) ?_
  refine z_sld (k := i + 2) hx hb hI hX hbB hsz hL (by omega) dL_law_2202 ?_
  refine lv_aload_n hx hb dL_law_2203 rfl (lv_at hl 0 rfl) ?_
  refine lv_iload hx hb dL_law_2204 (lv_at hl 5 rfl) ?_
  refine lv_iconst (v := nI 3) hx hb dL_law_2206 (by decide) ?_
  refine lv_iadd hx hb dL_law_2207 ?_
  refine z_topi (nI_add i 3) ?_
  refine z_sld (k := i + 3) hx hb hI hX hbB hsz hL (by omega) dL_law_2208 ?_
  refine z_join (σ := Int32) (fun xj : Int32 => [(0, .ref b), (1, .ref B0), (2, .ref (B0 + 23)), (3, .ref (B0 + 41)), (4, .ref (B0 + 42)), (5, .int (nI i))]) (fun xj : Int32 => [.int xj, .int (xs (i + 2)), .int (xs (i + 1)), .ref B0]) (fun (xj : Int32) (Fx : zM) => F = Fx ∧ xj = pI (¬ xs (i + 3) = 0)) 2217 9 G B0 ?_ (fun jn2217 => ?_)
  · intro xj F1 ls H locs hi hl hI
    have hl : lv_has ls 9 [(0, .ref b), (1, .ref B0), (2, .ref (B0 + 23)), (3, .ref (B0 + 41)), (4, .ref (B0 + 42)), (5, .int (nI i))] := hl
    obtain ⟨hF, hx9⟩ := hi
    subst hF
    subst hx9
    refine lv_aload_n hx hb dL_law_2217 rfl (lv_at hl 3 rfl) ?_
    refine z_calli hI (z_H (As := [.ref B0, .int (xs (i + 1)), .int (xs (i + 2)), .int (pI (¬ xs (i + 3) = 0)), .ref (B0 + 41)]) (rest := []) ⟨hx, hb, hml, hown, hts⟩ hI (c_L_sort l hl0 G B0 F σ (xs (i + 1)) (xs (i + 2)) (pI (¬ xs (i + 3) = 0)) fo hC hK hO) (z_cwH vL_sort hts q494 ⟨Nat.le_of_ble_eq_true rfl, Nat.le_of_ble_eq_true rfl⟩) rfl hl.1 rfl (lv_room (Nat.le_of_ble_eq_true rfl)) dL_law_2218 ⟨by omega, by omega⟩) (fun r5 F2 H locs hp5 hI => ?_)
    obtain ⟨hz1, ⟨σ1, fo1, hC1, ha1, hy1, hn1⟩, hf1⟩ := hp5
    have hM1 : MS G B0 F2 σ th := hM.goB (fun q h1 h2 => hf1 q h1 (by omega))
    have hD1 := (hf1 (B0 + 42) (by omega) (by omega)).trans hD
    refine lv_istore (lv' := [(6, .int r5), (0, .ref b), (1, .ref B0), (2, .ref (B0 + 23)), (3, .ref (B0 + 41)), (4, .ref (B0 + 42)), (5, .int (nI i))]) hx hb dL_law_2221 hl (by decide) rfl (fun ls hl => ?_)
    refine lv_aload_n hx hb dL_law_2223 rfl (lv_at hl 3 rfl) ?_
    refine lv_aload_n hx hb dL_law_2224 rfl (lv_at hl 1 rfl) ?_
    refine lv_iload hx hb dL_law_2225 (lv_at hl 6 rfl) ?_
    refine lv_iconst (v := nI 1) hx hb dL_law_2227 (by decide) ?_
    refine lv_iadd hx hb dL_law_2228 ?_
    refine z_topi (nI_add i 1) ?_
    refine z_sld (k := i + 1) hx hb hI hX hbB hsz hL (by omega) dL_law_2229 ?_
    refine lv_aload_n hx hb dL_law_2230 rfl (lv_at hl 1 rfl) ?_
    refine lv_iload hx hb dL_law_2231 (lv_at hl 6 rfl) ?_
    refine lv_iconst (v := nI 2) hx hb dL_law_2233 (by decide) ?_
    refine lv_iadd hx hb dL_law_2234 ?_
    refine z_topi (nI_add i 2) ?_
    refine z_sld (k := i + 2) hx hb hI hX hbB hsz hL (by omega) dL_law_2235 ?_
    refine lv_aload_n hx hb dL_law_2236 rfl (lv_at hl 1 rfl) ?_
    refine lv_iload hx hb dL_law_2237 (lv_at hl 6 rfl) ?_
    refine lv_iconst (v := nI 3) hx hb dL_law_2239 (by decide) ?_
    refine lv_iadd hx hb dL_law_2240 ?_
    refine z_topi (nI_add i 3) ?_
    refine z_sld (k := i + 3) hx hb hI hX hbB hsz hL (by omega) dL_law_2241 ?_
    refine z_join (σ := Int32) (fun xj : Int32 => [(6, .int r5), (0, .ref b), (1, .ref B0), (2, .ref (B0 + 23)), (3, .ref (B0 + 41)), (4, .ref (B0 + 42)), (5, .int (nI i))]) (fun xj : Int32 => [.int xj, .int (xs (i + 2)), .int (xs (i + 1)), .ref (B0 + 23)]) (fun (xj : Int32) (Fx : zM) => F2 = Fx ∧ xj = pI (¬ xs (i + 3) = 0)) 2250 9 G B0 ?_ (fun jn2250 => ?_)
    · intro xj F3 ls H locs hi hl hI
      have hl : lv_has ls 9 [(6, .int r5), (0, .ref b), (1, .ref B0), (2, .ref (B0 + 23)), (3, .ref (B0 + 41)), (4, .ref (B0 + 42)), (5, .int (nI i))] := hl
      obtain ⟨hF, hx9⟩ := hi
      subst hF
      subst hx9
      refine z_calli hI (z_V (As := [.int (xs (i + 1)), .int (xs (i + 2)), .int (pI (¬ xs (i + 3) = 0))]) (rest := []) ⟨hx, hb, hml, hown, hts⟩ hI hM1.1 rfl (c_X4_sort l G B0 F2 σ th (xs (i + 1)) (xs (i + 2)) (pI (¬ xs (i + 3) = 0)) hM1 hK) (z_cwV vX4_sort hts q976 ⟨Nat.le_of_ble_eq_true rfl, Nat.le_of_ble_eq_true rfl⟩) rfl hl.1 rfl (lv_room (Nat.le_of_ble_eq_true rfl)) dL_law_2250 ⟨by omega, by omega⟩) (fun r6 F4 H locs hp6 hI => ?_)
      obtain ⟨th2, σ2, hM2, hz2, hy2, hn2, hf2⟩ := hp6
      have hb2 := (hf2 (B0 + 41) (Or.inr (by omega))).trans ha1
      refine lv_istore (lv' := [(7, .int r6), (6, .int r5), (0, .ref b), (1, .ref B0), (2, .ref (B0 + 23)), (3, .ref (B0 + 41)), (4, .ref (B0 + 42)), (5, .int (nI i))]) hx hb dL_law_2253 hl (by decide) rfl (fun ls hl => ?_)
      refine lv_aload_n hx hb dL_law_2255 rfl (lv_at hl 4 rfl) ?_
      refine z_calli hI (z_V (As := []) (rest := []) ⟨hx, hb, hml, hown, hts⟩ hI hM2.1 rfl (c_X4_thrown l G B0 F4 σ2 th2 hM2) (z_cwV vX4_thrown hts q726 ⟨Nat.le_of_ble_eq_true rfl, Nat.le_of_ble_eq_true rfl⟩) rfl hl.1 rfl (lv_room (Nat.le_of_ble_eq_true rfl)) dL_law_2256 ⟨by omega, by omega⟩) (fun r7 F5 H locs hp7 hI => ?_)
      obtain ⟨rfl, rfl⟩ := hp7
      refine lv_iload hx hb dL_law_2259 (lv_at hl 1 rfl) ?_
      refine lv_icmp_eq (tgt := 2266) hx hb dL_law_2261 (by decide) (fun hq6 => ?_) (fun hq6 => ?_)
      · refine lv_iload hx hb dL_law_2266 (lv_at hl 1 rfl) ?_
        refine lv_if_ne (tgt := 2283) hx hb dL_law_2268 (by decide) (fun hq7 => ?_) (fun hq7 => ?_)
        · have hno := zTh_n hz1 hq7
          refine lv_goto (tgt := 3367) hx hb dL_law_2283 (by decide) ?_
          refine W.widen (k := cells + 40) (n := slots + 600) (by omega) (by omega) ?_
          exact kk _ _ _ _ _ _ (lv_sub hl [2, 3, 4, 5, 6, 7] rfl) (zLI_end hC1 ha1 hD1 hM2 hf2 ((hn2 hno).trans (hn1 hno).symm) (by rw [hn1 hno]; exact hW)) hI
        · have hok := zTh_0 hz1 hq7
          obtain ⟨hs1, hv1⟩ := hy1 hok
          obtain ⟨hs2, hv2⟩ := hy2 hok
          have hv : fo1 0 = r6.toInt64 := hv1.trans (congrArg Int32.toInt64 hv2.symm)
          refine lv_aload_n hx hb dL_law_2271 rfl (lv_at hl 5 rfl) ?_
          refine lv_iconst (v := nI 0) hx hb dL_law_2272 (by decide) ?_
          refine z_lld (k := 0) hx hb hI hb2 (by decide) (by decide) dL_law_2273 ?_
          refine lv_iload hx hb dL_law_2274 (lv_at hl 0 rfl) ?_
          refine lv_i2l hx hb dL_law_2276 rfl ?_
          refine W.lcmp hx hb dL_law_2277 ?_
          refine lv_if_eq (tgt := 2283) hx hb dL_law_2278 (by decide) (fun hq8 => ?_) (fun hq8 => ?_)
          · refine lv_goto (tgt := 3367) hx hb dL_law_2283 (by decide) ?_
            refine W.widen (k := cells + 40) (n := slots + 600) (by omega) (by omega) ?_
            exact kk _ _ _ _ _ _ (lv_sub hl [2, 3, 4, 5, 6, 7] rfl) (zLI_end hC1 ha1 hD1 hM2 hf2 (hs2.trans hs1.symm) (by rw [hs1]; exact wk_sort hK hW hok.1 hok.2.1)) hI
          · exact absurd (by rw [hv]; exact lg_self) hq8
      · exact absurd (zTh_eq hz2 hz1) hq6
    · refine lv_if_eq (tgt := 2249) hx hb dL_law_2242 (by decide) (fun hq9 => ?_) (fun hq9 => ?_)
      · refine lv_iconst (v := nI 0) hx hb dL_law_2249 (by decide) ?_
        refine jn2250 (nI 0) _ ls H locs ?_ (lv_sub hl [0, 1, 2, 3, 4, 5, 6] rfl) hI
        exact ⟨rfl, pI_f (fun z => z hq9)⟩
      · refine lv_iconst (v := nI 1) hx hb dL_law_2245 (by decide) ?_
        refine lv_goto (tgt := 2250) hx hb dL_law_2246 (by decide) ?_
        refine jn2250 (nI 1) _ ls H locs ?_ (lv_sub hl [0, 1, 2, 3, 4, 5, 6] rfl) hI
        exact ⟨rfl, pI_t hq9⟩
  · refine lv_if_eq (tgt := 2216) hx hb dL_law_2209 (by decide) (fun hq10 => ?_) (fun hq10 => ?_)
    · refine lv_iconst (v := nI 0) hx hb dL_law_2216 (by decide) ?_
      refine jn2217 (nI 0) _ ls H locs ?_ (lv_sub hl [0, 1, 2, 3, 4, 5] rfl) hI
      exact ⟨rfl, pI_f (fun z => z hq10)⟩
    · refine lv_iconst (v := nI 1) hx hb dL_law_2212 (by decide) ?_
      refine lv_goto (tgt := 2217) hx hb dL_law_2213 (by decide) ?_
      refine jn2217 (nI 1) _ ls H locs ?_ (lv_sub hl [0, 1, 2, 3, 4, 5] rfl) hI
      exact ⟨rfl, pI_t hq10⟩

set_option maxHeartbeats 4000000 in
set_option maxRecDepth 100000 in
theorem w_isSorted {p : Program} {l : Launch} {e : Env} {s : State} {m : MethodId} {below : List Frame} {meth : Method} {c : Code} {b L B0 : Nat} {xs : Nat → Int32} {G : zK} {Q : State → Prop} {cells slots : Nat} {i : Nat} {ls : Array Slot} {H : Heap} {locs : List Loc} {F : zM} {σ : Sg} {th : Int32} (K : zCtx p s m c b L B0 xs) (hl0 : l.stackTraces = false) (hi : i + 5 ≤ L) (hRc : cells + 40 ≤ room_1.cells) (hRs : slots + 600 ≤ room_1.slots) (hl : lv_has ls 9 (zLv b B0 i)) (hJ : zLI G B0 F σ th) (hI : zI G B0 s H locs F)
    (kk : ∀ (ls : Array Slot) (H : Heap) (locs : List Loc) (F : zM) (σ : Sg) (th : Int32), lv_has ls 9 (zLv b B0 i) → zLI G B0 F σ th → zI G B0 s H locs F → W p l e room_1 s m #[Value.ref b] below meth c H locs (cells + 40) (slots + 600) Q (F0 m 3367 ls [])) : W p l e room_1 s m #[Value.ref b] below meth c H locs cells slots Q (F0 m 2286 ls []) := by
  obtain ⟨hx, hb, hml, hown, hts, hX, hbB, hsz, hL⟩ := K
  obtain ⟨hC, hM, hW, ⟨fo, hO⟩, fd, hD⟩ := hJ
  have hK := hC.ok hW
  have hl : lv_has ls 9 [(0, .ref b), (1, .ref B0), (2, .ref (B0 + 23)), (3, .ref (B0 + 41)), (4, .ref (B0 + 42)), (5, .int (nI i))] := hl
  refine lv_aload_n hx hb dL_law_2286 rfl (lv_at hl 1 rfl) ?_
  refine lv_aload_n hx hb dL_law_2287 rfl (lv_at hl 0 rfl) ?_
  refine lv_iload hx hb dL_law_2288 (lv_at hl 5 rfl) ?_
  refine lv_iconst (v := nI 1) hx hb dL_law_2290 (by decide) ?_
  refine lv_iadd hx hb dL_law_2291 ?_
  refine z_topi (nI_add i 1) ?_
  refine z_sld (k := i + 1) hx hb hI hX hbB hsz hL (by omega) dL_law_2292 ?_
  refine lv_aload_n hx hb dL_law_2293 rfl (lv_at hl 0 rfl) ?_
  refine lv_iload hx hb dL_law_2294 (lv_at hl 5 rfl) ?_
  refine lv_iconst (v := nI 2) hx hb dL_law_2296 (by decide) ?_
  refine lv_iadd hx hb dL_law_2297 ?_
  refine z_topi (nI_add i 2) ?_
  refine z_sld (k := i + 2) hx hb hI hX hbB hsz hL (by omega) dL_law_2298 ?_
  refine lv_aload_n hx hb dL_law_2299 rfl (lv_at hl 3 rfl) ?_
  refine z_calli hI (z_H (As := [.ref B0, .int (xs (i + 1)), .int (xs (i + 2)), .ref (B0 + 41)]) (rest := []) ⟨hx, hb, hml, hown, hts⟩ hI (c_L_isSorted l hl0 G B0 F σ (xs (i + 1)) (xs (i + 2)) fo hC hK hO) (z_cwH vL_isSorted hts q513 ⟨Nat.le_of_ble_eq_true rfl, Nat.le_of_ble_eq_true rfl⟩) rfl hl.1 rfl (lv_room (Nat.le_of_ble_eq_true rfl)) dL_law_2300 ⟨by omega, by omega⟩) (fun r5 F1 H locs hp5 hI => ?_)
  obtain ⟨hz1, ⟨σ1, fo1, hC1, ha1, hy1, hn1⟩, hf1⟩ := hp5
  have hM1 : MS G B0 F1 σ th := hM.goB (fun q h1 h2 => hf1 q h1 (by omega))
  have hD1 := (hf1 (B0 + 42) (by omega) (by omega)).trans hD
  refine lv_istore (lv' := [(6, .int r5), (0, .ref b), (1, .ref B0), (2, .ref (B0 + 23)), (3, .ref (B0 + 41)), (4, .ref (B0 + 42)), (5, .int (nI i))]) hx hb dL_law_2303 hl (by decide) rfl (fun ls hl => ?_)
  refine lv_aload_n hx hb dL_law_2305 rfl (lv_at hl 3 rfl) ?_
  refine lv_aload_n hx hb dL_law_2306 rfl (lv_at hl 1 rfl) ?_
  refine lv_iload hx hb dL_law_2307 (lv_at hl 6 rfl) ?_
  refine lv_iconst (v := nI 1) hx hb dL_law_2309 (by decide) ?_
  refine lv_iadd hx hb dL_law_2310 ?_
  refine z_topi (nI_add i 1) ?_
  refine z_sld (k := i + 1) hx hb hI hX hbB hsz hL (by omega) dL_law_2311 ?_
  refine lv_aload_n hx hb dL_law_2312 rfl (lv_at hl 1 rfl) ?_
  refine lv_iload hx hb dL_law_2313 (lv_at hl 6 rfl) ?_
  refine lv_iconst (v := nI 2) hx hb dL_law_2315 (by decide) ?_
  refine lv_iadd hx hb dL_law_2316 ?_
  refine z_topi (nI_add i 2) ?_
  refine z_sld (k := i + 2) hx hb hI hX hbB hsz hL (by omega) dL_law_2317 ?_
  refine z_calli hI (z_V (As := [.int (xs (i + 1)), .int (xs (i + 2))]) (rest := []) ⟨hx, hb, hml, hown, hts⟩ hI hM1.1 rfl (c_X4_isSorted l G B0 F1 σ th (xs (i + 1)) (xs (i + 2)) hM1 hK) (z_cwV vX4_isSorted hts q988 ⟨Nat.le_of_ble_eq_true rfl, Nat.le_of_ble_eq_true rfl⟩) rfl hl.1 rfl (lv_room (Nat.le_of_ble_eq_true rfl)) dL_law_2318 ⟨by omega, by omega⟩) (fun r6 F2 H locs hp6 hI => ?_)
  obtain ⟨th2, σ2, hM2, hz2, hy2, hn2, hf2⟩ := hp6
  have hb2 := (hf2 (B0 + 41) (Or.inr (by omega))).trans ha1
  refine lv_istore (lv' := [(7, .int r6), (6, .int r5), (0, .ref b), (1, .ref B0), (2, .ref (B0 + 23)), (3, .ref (B0 + 41)), (4, .ref (B0 + 42)), (5, .int (nI i))]) hx hb dL_law_2321 hl (by decide) rfl (fun ls hl => ?_)
  refine lv_aload_n hx hb dL_law_2323 rfl (lv_at hl 4 rfl) ?_
  refine z_calli hI (z_V (As := []) (rest := []) ⟨hx, hb, hml, hown, hts⟩ hI hM2.1 rfl (c_X4_thrown l G B0 F2 σ2 th2 hM2) (z_cwV vX4_thrown hts q726 ⟨Nat.le_of_ble_eq_true rfl, Nat.le_of_ble_eq_true rfl⟩) rfl hl.1 rfl (lv_room (Nat.le_of_ble_eq_true rfl)) dL_law_2324 ⟨by omega, by omega⟩) (fun r7 F3 H locs hp7 hI => ?_)
  obtain ⟨rfl, rfl⟩ := hp7
  refine lv_iload hx hb dL_law_2327 (lv_at hl 1 rfl) ?_
  refine lv_icmp_eq (tgt := 2334) hx hb dL_law_2329 (by decide) (fun hq4 => ?_) (fun hq4 => ?_)
  · refine lv_iload hx hb dL_law_2334 (lv_at hl 1 rfl) ?_
    refine lv_if_ne (tgt := 2358) hx hb dL_law_2336 (by decide) (fun hq5 => ?_) (fun hq5 => ?_)
    · have hno := zTh_n hz1 hq5
      refine lv_goto (tgt := 3367) hx hb dL_law_2358 (by decide) ?_
      refine W.widen (k := cells + 40) (n := slots + 600) (by omega) (by omega) ?_
      exact kk _ _ _ _ _ _ (lv_sub hl [2, 3, 4, 5, 6, 7] rfl) (zLI_end hC1 ha1 hD1 hM2 hf2 ((hn2 hno).trans (hn1 hno).symm) (by rw [hn1 hno]; exact hW)) hI
    · have hok := zTh_0 hz1 hq5
      obtain ⟨hs1, hv1⟩ := hy1 hok
      obtain ⟨hs2, hv2⟩ := hy2 hok
      have hv : fo1 0 = r6.toInt64 := hv1.trans (congrArg Int32.toInt64 hv2.symm)
      have h01 : r6 = 0 ∨ r6 = 1 := by rw [hv2]; unfold rr_isSorted; exact pI_or
      refine lv_aload_n hx hb dL_law_2339 rfl (lv_at hl 5 rfl) ?_
      refine lv_iconst (v := nI 0) hx hb dL_law_2340 (by decide) ?_
      refine z_lld (k := 0) hx hb hI hb2 (by decide) (by decide) dL_law_2341 ?_
      refine lv_iload hx hb dL_law_2342 (lv_at hl 0 rfl) ?_
      refine lv_if_eq (tgt := 2351) hx hb dL_law_2344 (by decide) (fun hq6 => ?_) (fun hq6 => ?_)
      · refine lv_lconst (v := 0) hx hb dL_law_2351 (by decide) ?_
        refine W.lcmp hx hb dL_law_2352 ?_
        refine lv_if_eq (tgt := 2358) hx hb dL_law_2353 (by decide) (fun hq7 => ?_) (fun hq7 => ?_)
        · refine lv_goto (tgt := 3367) hx hb dL_law_2358 (by decide) ?_
          refine W.widen (k := cells + 40) (n := slots + 600) (by omega) (by omega) ?_
          exact kk _ _ _ _ _ _ (lv_sub hl [2, 3, 4, 5, 6, 7] rfl) (zLI_end hC1 ha1 hD1 hM2 hf2 (hs2.trans hs1.symm) (by rw [hs1]; exact wk_isSorted hK hW hok.1 hok.2.1)) hI
        · exact absurd (by rw [hv, hq6]; exact lg_self) hq7
      · refine lv_lconst (v := 1) hx hb dL_law_2347 (by decide) ?_
        refine lv_goto (tgt := 2352) hx hb dL_law_2348 (by decide) ?_
        refine W.lcmp hx hb dL_law_2352 ?_
        refine lv_if_eq (tgt := 2358) hx hb dL_law_2353 (by decide) (fun hq8 => ?_) (fun hq8 => ?_)
        · refine lv_goto (tgt := 3367) hx hb dL_law_2358 (by decide) ?_
          refine W.widen (k := cells + 40) (n := slots + 600) (by omega) (by omega) ?_
          exact kk _ _ _ _ _ _ (lv_sub hl [2, 3, 4, 5, 6, 7] rfl) (zLI_end hC1 ha1 hD1 hM2 hf2 (hs2.trans hs1.symm) (by rw [hs1]; exact wk_isSorted hK hW hok.1 hok.2.1)) hI
        · exact absurd (by rw [hv, h01.resolve_left hq6]; exact lg_self) hq8
  · exact absurd (zTh_eq hz2 hz1) hq4

set_option maxHeartbeats 4000000 in
set_option maxRecDepth 100000 in
theorem w_search {p : Program} {l : Launch} {e : Env} {s : State} {m : MethodId} {below : List Frame} {meth : Method} {c : Code} {b L B0 : Nat} {xs : Nat → Int32} {G : zK} {Q : State → Prop} {cells slots : Nat} {i : Nat} {ls : Array Slot} {H : Heap} {locs : List Loc} {F : zM} {σ : Sg} {th : Int32} (K : zCtx p s m c b L B0 xs) (hl0 : l.stackTraces = false) (hi : i + 5 ≤ L) (hRc : cells + 40 ≤ room_1.cells) (hRs : slots + 600 ≤ room_1.slots) (hl : lv_has ls 9 (zLv b B0 i)) (hJ : zLI G B0 F σ th) (hI : zI G B0 s H locs F)
    (kk : ∀ (ls : Array Slot) (H : Heap) (locs : List Loc) (F : zM) (σ : Sg) (th : Int32), lv_has ls 9 (zLv b B0 i) → zLI G B0 F σ th → zI G B0 s H locs F → W p l e room_1 s m #[Value.ref b] below meth c H locs (cells + 40) (slots + 600) Q (F0 m 3367 ls [])) : W p l e room_1 s m #[Value.ref b] below meth c H locs cells slots Q (F0 m 2361 ls []) := by
  obtain ⟨hx, hb, hml, hown, hts, hX, hbB, hsz, hL⟩ := K
  obtain ⟨hC, hM, hW, ⟨fo, hO⟩, fd, hD⟩ := hJ
  have hK := hC.ok hW
  have hl : lv_has ls 9 [(0, .ref b), (1, .ref B0), (2, .ref (B0 + 23)), (3, .ref (B0 + 41)), (4, .ref (B0 + 42)), (5, .int (nI i))] := hl
  refine lv_aload_n hx hb dL_law_2361 rfl (lv_at hl 1 rfl) ?_
  refine lv_aload_n hx hb dL_law_2362 rfl (lv_at hl 0 rfl) ?_
  refine lv_iload hx hb dL_law_2363 (lv_at hl 5 rfl) ?_
  refine lv_iconst (v := nI 1) hx hb dL_law_2365 (by decide) ?_
  refine lv_iadd hx hb dL_law_2366 ?_
  refine z_topi (nI_add i 1) ?_
  refine z_sld (k := i + 1) hx hb hI hX hbB hsz hL (by omega) dL_law_2367 ?_
  refine lv_aload_n hx hb dL_law_2368 rfl (lv_at hl 0 rfl) ?_
  refine lv_iload hx hb dL_law_2369 (lv_at hl 5 rfl) ?_
  refine lv_iconst (v := nI 2) hx hb dL_law_2371 (by decide) ?_
  refine lv_iadd hx hb dL_law_2372 ?_
  refine z_topi (nI_add i 2) ?_
  refine z_sld (k := i + 2) hx hb hI hX hbB hsz hL (by omega) dL_law_2373 ?_
  refine lv_aload_n hx hb dL_law_2374 rfl (lv_at hl 0 rfl) ?_
  refine lv_iload hx hb dL_law_2375 (lv_at hl 5 rfl) ?_
  refine lv_iconst (v := nI 3) hx hb dL_law_2377 (by decide) ?_
  refine lv_iadd hx hb dL_law_2378 ?_
  refine z_topi (nI_add i 3) ?_
  refine z_sld (k := i + 3) hx hb hI hX hbB hsz hL (by omega) dL_law_2379 ?_
  refine lv_aload_n hx hb dL_law_2380 rfl (lv_at hl 3 rfl) ?_
  refine z_calli hI (z_H (As := [.ref B0, .int (xs (i + 1)), .int (xs (i + 2)), .int (xs (i + 3)), .ref (B0 + 41)]) (rest := []) ⟨hx, hb, hml, hown, hts⟩ hI (c_L_search l hl0 G B0 F σ (xs (i + 1)) (xs (i + 2)) (xs (i + 3)) fo hC hK hO) (z_cwH vL_search hts q524 ⟨Nat.le_of_ble_eq_true rfl, Nat.le_of_ble_eq_true rfl⟩) rfl hl.1 rfl (lv_room (Nat.le_of_ble_eq_true rfl)) dL_law_2381 ⟨by omega, by omega⟩) (fun r5 F1 H locs hp5 hI => ?_)
  obtain ⟨hz1, ⟨σ1, fo1, hC1, ha1, hy1, hn1⟩, hf1⟩ := hp5
  have hM1 : MS G B0 F1 σ th := hM.goB (fun q h1 h2 => hf1 q h1 (by omega))
  have hD1 := (hf1 (B0 + 42) (by omega) (by omega)).trans hD
  refine lv_istore (lv' := [(6, .int r5), (0, .ref b), (1, .ref B0), (2, .ref (B0 + 23)), (3, .ref (B0 + 41)), (4, .ref (B0 + 42)), (5, .int (nI i))]) hx hb dL_law_2384 hl (by decide) rfl (fun ls hl => ?_)
  refine lv_aload_n hx hb dL_law_2386 rfl (lv_at hl 3 rfl) ?_
  refine lv_aload_n hx hb dL_law_2387 rfl (lv_at hl 1 rfl) ?_
  refine lv_iload hx hb dL_law_2388 (lv_at hl 6 rfl) ?_
  refine lv_iconst (v := nI 1) hx hb dL_law_2390 (by decide) ?_
  refine lv_iadd hx hb dL_law_2391 ?_
  refine z_topi (nI_add i 1) ?_
  refine z_sld (k := i + 1) hx hb hI hX hbB hsz hL (by omega) dL_law_2392 ?_
  refine lv_aload_n hx hb dL_law_2393 rfl (lv_at hl 1 rfl) ?_
  refine lv_iload hx hb dL_law_2394 (lv_at hl 6 rfl) ?_
  refine lv_iconst (v := nI 2) hx hb dL_law_2396 (by decide) ?_
  refine lv_iadd hx hb dL_law_2397 ?_
  refine z_topi (nI_add i 2) ?_
  refine z_sld (k := i + 2) hx hb hI hX hbB hsz hL (by omega) dL_law_2398 ?_
  refine lv_aload_n hx hb dL_law_2399 rfl (lv_at hl 1 rfl) ?_
  refine lv_iload hx hb dL_law_2400 (lv_at hl 6 rfl) ?_
  refine lv_iconst (v := nI 3) hx hb dL_law_2402 (by decide) ?_
  refine lv_iadd hx hb dL_law_2403 ?_
  refine z_topi (nI_add i 3) ?_
  refine z_sld (k := i + 3) hx hb hI hX hbB hsz hL (by omega) dL_law_2404 ?_
  refine z_calli hI (z_V (As := [.int (xs (i + 1)), .int (xs (i + 2)), .int (xs (i + 3))]) (rest := []) ⟨hx, hb, hml, hown, hts⟩ hI hM1.1 rfl (c_X4_search l G B0 F1 σ th (xs (i + 1)) (xs (i + 2)) (xs (i + 3)) hM1 hK) (z_cwV vX4_search hts q996 ⟨Nat.le_of_ble_eq_true rfl, Nat.le_of_ble_eq_true rfl⟩) rfl hl.1 rfl (lv_room (Nat.le_of_ble_eq_true rfl)) dL_law_2405 ⟨by omega, by omega⟩) (fun r6 F2 H locs hp6 hI => ?_)
  obtain ⟨th2, σ2, hM2, hz2, hy2, hn2, hf2⟩ := hp6
  have hb2 := (hf2 (B0 + 41) (Or.inr (by omega))).trans ha1
  refine lv_istore (lv' := [(7, .int r6), (6, .int r5), (0, .ref b), (1, .ref B0), (2, .ref (B0 + 23)), (3, .ref (B0 + 41)), (4, .ref (B0 + 42)), (5, .int (nI i))]) hx hb dL_law_2408 hl (by decide) rfl (fun ls hl => ?_)
  refine lv_aload_n hx hb dL_law_2410 rfl (lv_at hl 4 rfl) ?_
  refine z_calli hI (z_V (As := []) (rest := []) ⟨hx, hb, hml, hown, hts⟩ hI hM2.1 rfl (c_X4_thrown l G B0 F2 σ2 th2 hM2) (z_cwV vX4_thrown hts q726 ⟨Nat.le_of_ble_eq_true rfl, Nat.le_of_ble_eq_true rfl⟩) rfl hl.1 rfl (lv_room (Nat.le_of_ble_eq_true rfl)) dL_law_2411 ⟨by omega, by omega⟩) (fun r7 F3 H locs hp7 hI => ?_)
  obtain ⟨rfl, rfl⟩ := hp7
  refine lv_iload hx hb dL_law_2414 (lv_at hl 1 rfl) ?_
  refine lv_icmp_eq (tgt := 2421) hx hb dL_law_2416 (by decide) (fun hq4 => ?_) (fun hq4 => ?_)
  · refine lv_iload hx hb dL_law_2421 (lv_at hl 1 rfl) ?_
    refine lv_if_ne (tgt := 2438) hx hb dL_law_2423 (by decide) (fun hq5 => ?_) (fun hq5 => ?_)
    · have hno := zTh_n hz1 hq5
      refine lv_goto (tgt := 3367) hx hb dL_law_2438 (by decide) ?_
      refine W.widen (k := cells + 40) (n := slots + 600) (by omega) (by omega) ?_
      exact kk _ _ _ _ _ _ (lv_sub hl [2, 3, 4, 5, 6, 7] rfl) (zLI_end hC1 ha1 hD1 hM2 hf2 ((hn2 hno).trans (hn1 hno).symm) (by rw [hn1 hno]; exact hW)) hI
    · have hok := zTh_0 hz1 hq5
      obtain ⟨hs1, hv1⟩ := hy1 hok
      obtain ⟨hs2, hv2⟩ := hy2 hok
      have hv : fo1 0 = r6.toInt64 := hv1.trans (congrArg Int32.toInt64 hv2.symm)
      refine lv_aload_n hx hb dL_law_2426 rfl (lv_at hl 5 rfl) ?_
      refine lv_iconst (v := nI 0) hx hb dL_law_2427 (by decide) ?_
      refine z_lld (k := 0) hx hb hI hb2 (by decide) (by decide) dL_law_2428 ?_
      refine lv_iload hx hb dL_law_2429 (lv_at hl 0 rfl) ?_
      refine lv_i2l hx hb dL_law_2431 rfl ?_
      refine W.lcmp hx hb dL_law_2432 ?_
      refine lv_if_eq (tgt := 2438) hx hb dL_law_2433 (by decide) (fun hq6 => ?_) (fun hq6 => ?_)
      · refine lv_goto (tgt := 3367) hx hb dL_law_2438 (by decide) ?_
        refine W.widen (k := cells + 40) (n := slots + 600) (by omega) (by omega) ?_
        exact kk _ _ _ _ _ _ (lv_sub hl [2, 3, 4, 5, 6, 7] rfl) (zLI_end hC1 ha1 hD1 hM2 hf2 (hs2.trans hs1.symm) (by rw [hs1]; exact wk_search hK hW hok.1 hok.2.1)) hI
      · exact absurd (by rw [hv]; exact lg_self) hq6
  · exact absurd (zTh_eq hz2 hz1) hq4

set_option maxHeartbeats 4000000 in
set_option maxRecDepth 100000 in
theorem w_turn {p : Program} {l : Launch} {e : Env} {s : State} {m : MethodId} {below : List Frame} {meth : Method} {c : Code} {b L B0 : Nat} {xs : Nat → Int32} {G : zK} {Q : State → Prop} {cells slots : Nat} {i : Nat} {ls : Array Slot} {H : Heap} {locs : List Loc} {F : zM} {σ : Sg} {th : Int32} (K : zCtx p s m c b L B0 xs) (hl0 : l.stackTraces = false) (hi : i + 5 ≤ L) (hRc : cells + 40 ≤ room_1.cells) (hRs : slots + 600 ≤ room_1.slots) (hl : lv_has ls 9 (zLv b B0 i)) (hJ : zLI G B0 F σ th) (hI : zI G B0 s H locs F)
    (kk : ∀ (ls : Array Slot) (H : Heap) (locs : List Loc) (F : zM) (σ : Sg) (th : Int32), lv_has ls 9 (zLv b B0 i) → zLI G B0 F σ th → zI G B0 s H locs F → W p l e room_1 s m #[Value.ref b] below meth c H locs (cells + 40) (slots + 600) Q (F0 m 3367 ls [])) : W p l e room_1 s m #[Value.ref b] below meth c H locs cells slots Q (F0 m 2441 ls []) := by
  obtain ⟨hx, hb, hml, hown, hts, hX, hbB, hsz, hL⟩ := K
  obtain ⟨hC, hM, hW, ⟨fo, hO⟩, fd, hD⟩ := hJ
  have hK := hC.ok hW
  have hl : lv_has ls 9 [(0, .ref b), (1, .ref B0), (2, .ref (B0 + 23)), (3, .ref (B0 + 41)), (4, .ref (B0 + 42)), (5, .int (nI i))] := hl
  refine lv_aload_n hx hb dL_law_2441 rfl (lv_at hl 1 rfl) ?_
  refine lv_aload_n hx hb dL_law_2442 rfl (lv_at hl 0 rfl) ?_
  refine lv_iload hx hb dL_law_2443 (lv_at hl 5 rfl) ?_
  refine lv_iconst (v := nI 1) hx hb dL_law_2445 (by decide) ?_
  refine lv_iadd hx hb dL_law_2446 ?_
  refine z_topi (nI_add i 1) ?_
  refine z_sld (k := i + 1) hx hb hI hX hbB hsz hL (by omega) dL_law_2447 ?_
  refine lv_aload_n hx hb dL_law_2448 rfl (lv_at hl 0 rfl) ?_
  refine lv_iload hx hb dL_law_2449 (lv_at hl 5 rfl) ?_
  refine lv_iconst (v := nI 2) hx hb dL_law_2451 (by decide) ?_
  refine lv_iadd hx hb dL_law_2452 ?_
  refine z_topi (nI_add i 2) ?_
  refine z_sld (k := i + 2) hx hb hI hX hbB hsz hL (by omega) dL_law_2453 ?_
  refine lv_aload_n hx hb dL_law_2454 rfl (lv_at hl 0 rfl) ?_
  refine lv_iload hx hb dL_law_2455 (lv_at hl 5 rfl) ?_
  refine lv_iconst (v := nI 3) hx hb dL_law_2457 (by decide) ?_
  refine lv_iadd hx hb dL_law_2458 ?_
  refine z_topi (nI_add i 3) ?_
  refine z_sld (k := i + 3) hx hb hI hX hbB hsz hL (by omega) dL_law_2459 ?_
  refine lv_aload_n hx hb dL_law_2460 rfl (lv_at hl 3 rfl) ?_
  refine z_calli hI (z_H (As := [.ref B0, .int (xs (i + 1)), .int (xs (i + 2)), .int (xs (i + 3)), .ref (B0 + 41)]) (rest := []) ⟨hx, hb, hml, hown, hts⟩ hI (c_L_turn l hl0 G B0 F σ (xs (i + 1)) (xs (i + 2)) (xs (i + 3)) fo hC hK hO) (z_cwH vL_turn hts q532 ⟨Nat.le_of_ble_eq_true rfl, Nat.le_of_ble_eq_true rfl⟩) rfl hl.1 rfl (lv_room (Nat.le_of_ble_eq_true rfl)) dL_law_2461 ⟨by omega, by omega⟩) (fun r5 F1 H locs hp5 hI => ?_)
  obtain ⟨hz1, ⟨σ1, fo1, hC1, ha1, hy1, hn1⟩, hf1⟩ := hp5
  have hM1 : MS G B0 F1 σ th := hM.goB (fun q h1 h2 => hf1 q h1 (by omega))
  have hD1 := (hf1 (B0 + 42) (by omega) (by omega)).trans hD
  refine lv_istore (lv' := [(6, .int r5), (0, .ref b), (1, .ref B0), (2, .ref (B0 + 23)), (3, .ref (B0 + 41)), (4, .ref (B0 + 42)), (5, .int (nI i))]) hx hb dL_law_2464 hl (by decide) rfl (fun ls hl => ?_)
  refine lv_aload_n hx hb dL_law_2466 rfl (lv_at hl 3 rfl) ?_
  refine lv_aload_n hx hb dL_law_2467 rfl (lv_at hl 1 rfl) ?_
  refine lv_iload hx hb dL_law_2468 (lv_at hl 6 rfl) ?_
  refine lv_iconst (v := nI 1) hx hb dL_law_2470 (by decide) ?_
  refine lv_iadd hx hb dL_law_2471 ?_
  refine z_topi (nI_add i 1) ?_
  refine z_sld (k := i + 1) hx hb hI hX hbB hsz hL (by omega) dL_law_2472 ?_
  refine lv_aload_n hx hb dL_law_2473 rfl (lv_at hl 1 rfl) ?_
  refine lv_iload hx hb dL_law_2474 (lv_at hl 6 rfl) ?_
  refine lv_iconst (v := nI 2) hx hb dL_law_2476 (by decide) ?_
  refine lv_iadd hx hb dL_law_2477 ?_
  refine z_topi (nI_add i 2) ?_
  refine z_sld (k := i + 2) hx hb hI hX hbB hsz hL (by omega) dL_law_2478 ?_
  refine lv_aload_n hx hb dL_law_2479 rfl (lv_at hl 1 rfl) ?_
  refine lv_iload hx hb dL_law_2480 (lv_at hl 6 rfl) ?_
  refine lv_iconst (v := nI 3) hx hb dL_law_2482 (by decide) ?_
  refine lv_iadd hx hb dL_law_2483 ?_
  refine z_topi (nI_add i 3) ?_
  refine z_sld (k := i + 3) hx hb hI hX hbB hsz hL (by omega) dL_law_2484 ?_
  refine z_calli hI (z_V (As := [.int (xs (i + 1)), .int (xs (i + 2)), .int (xs (i + 3))]) (rest := []) ⟨hx, hb, hml, hown, hts⟩ hI hM1.1 rfl (c_X4_turn l G B0 F1 σ th (xs (i + 1)) (xs (i + 2)) (xs (i + 3)) hM1 hK) (z_cwV vX4_turn hts q1000 ⟨Nat.le_of_ble_eq_true rfl, Nat.le_of_ble_eq_true rfl⟩) rfl hl.1 rfl (lv_room (Nat.le_of_ble_eq_true rfl)) dL_law_2485 ⟨by omega, by omega⟩) (fun r6 F2 H locs hp6 hI => ?_)
  obtain ⟨th2, σ2, hM2, hz2, hy2, hn2, hf2⟩ := hp6
  have hb2 := (hf2 (B0 + 41) (Or.inr (by omega))).trans ha1
  refine lv_istore (lv' := [(7, .int r6), (6, .int r5), (0, .ref b), (1, .ref B0), (2, .ref (B0 + 23)), (3, .ref (B0 + 41)), (4, .ref (B0 + 42)), (5, .int (nI i))]) hx hb dL_law_2488 hl (by decide) rfl (fun ls hl => ?_)
  refine lv_aload_n hx hb dL_law_2490 rfl (lv_at hl 4 rfl) ?_
  refine z_calli hI (z_V (As := []) (rest := []) ⟨hx, hb, hml, hown, hts⟩ hI hM2.1 rfl (c_X4_thrown l G B0 F2 σ2 th2 hM2) (z_cwV vX4_thrown hts q726 ⟨Nat.le_of_ble_eq_true rfl, Nat.le_of_ble_eq_true rfl⟩) rfl hl.1 rfl (lv_room (Nat.le_of_ble_eq_true rfl)) dL_law_2491 ⟨by omega, by omega⟩) (fun r7 F3 H locs hp7 hI => ?_)
  obtain ⟨rfl, rfl⟩ := hp7
  refine lv_iload hx hb dL_law_2494 (lv_at hl 1 rfl) ?_
  refine lv_icmp_eq (tgt := 2501) hx hb dL_law_2496 (by decide) (fun hq4 => ?_) (fun hq4 => ?_)
  · refine lv_iload hx hb dL_law_2501 (lv_at hl 1 rfl) ?_
    refine lv_if_ne (tgt := 2518) hx hb dL_law_2503 (by decide) (fun hq5 => ?_) (fun hq5 => ?_)
    · have hno := zTh_n hz1 hq5
      refine lv_goto (tgt := 3367) hx hb dL_law_2518 (by decide) ?_
      refine W.widen (k := cells + 40) (n := slots + 600) (by omega) (by omega) ?_
      exact kk _ _ _ _ _ _ (lv_sub hl [2, 3, 4, 5, 6, 7] rfl) (zLI_end hC1 ha1 hD1 hM2 hf2 ((hn2 hno).trans (hn1 hno).symm) (by rw [hn1 hno]; exact hW)) hI
    · have hok := zTh_0 hz1 hq5
      obtain ⟨hs1, hv1⟩ := hy1 hok
      obtain ⟨hs2, hv2⟩ := hy2 hok
      have hv : fo1 0 = r6.toInt64 := hv1.trans (congrArg Int32.toInt64 hv2.symm)
      refine lv_aload_n hx hb dL_law_2506 rfl (lv_at hl 5 rfl) ?_
      refine lv_iconst (v := nI 0) hx hb dL_law_2507 (by decide) ?_
      refine z_lld (k := 0) hx hb hI hb2 (by decide) (by decide) dL_law_2508 ?_
      refine lv_iload hx hb dL_law_2509 (lv_at hl 0 rfl) ?_
      refine lv_i2l hx hb dL_law_2511 rfl ?_
      refine W.lcmp hx hb dL_law_2512 ?_
      refine lv_if_eq (tgt := 2518) hx hb dL_law_2513 (by decide) (fun hq6 => ?_) (fun hq6 => ?_)
      · refine lv_goto (tgt := 3367) hx hb dL_law_2518 (by decide) ?_
        refine W.widen (k := cells + 40) (n := slots + 600) (by omega) (by omega) ?_
        exact kk _ _ _ _ _ _ (lv_sub hl [2, 3, 4, 5, 6, 7] rfl) (zLI_end hC1 ha1 hD1 hM2 hf2 (hs2.trans hs1.symm) (by rw [hs1]; exact wk_turn hK hW hok.1 hok.2.1)) hI
      · exact absurd (by rw [hv]; exact lg_self) hq6
  · exact absurd (zTh_eq hz2 hz1) hq4

set_option maxHeartbeats 4000000 in
set_option maxRecDepth 100000 in
theorem w_move {p : Program} {l : Launch} {e : Env} {s : State} {m : MethodId} {below : List Frame} {meth : Method} {c : Code} {b L B0 : Nat} {xs : Nat → Int32} {G : zK} {Q : State → Prop} {cells slots : Nat} {i : Nat} {ls : Array Slot} {H : Heap} {locs : List Loc} {F : zM} {σ : Sg} {th : Int32} (K : zCtx p s m c b L B0 xs) (hl0 : l.stackTraces = false) (hi : i + 5 ≤ L) (hRc : cells + 40 ≤ room_1.cells) (hRs : slots + 600 ≤ room_1.slots) (hl : lv_has ls 9 (zLv b B0 i)) (hJ : zLI G B0 F σ th) (hI : zI G B0 s H locs F)
    (kk : ∀ (ls : Array Slot) (H : Heap) (locs : List Loc) (F : zM) (σ : Sg) (th : Int32), lv_has ls 9 (zLv b B0 i) → zLI G B0 F σ th → zI G B0 s H locs F → W p l e room_1 s m #[Value.ref b] below meth c H locs (cells + 40) (slots + 600) Q (F0 m 3367 ls [])) : W p l e room_1 s m #[Value.ref b] below meth c H locs cells slots Q (F0 m 2521 ls []) := by
  obtain ⟨hx, hb, hml, hown, hts, hX, hbB, hsz, hL⟩ := K
  obtain ⟨hC, hM, hW, ⟨fo, hO⟩, fd, hD⟩ := hJ
  have hK := hC.ok hW
  have hl : lv_has ls 9 [(0, .ref b), (1, .ref B0), (2, .ref (B0 + 23)), (3, .ref (B0 + 41)), (4, .ref (B0 + 42)), (5, .int (nI i))] := hl
  refine lv_aload_n hx hb dL_law_2521 rfl (lv_at hl 1 rfl) ?_
  refine lv_aload_n hx hb dL_law_2522 rfl (lv_at hl 0 rfl) ?_
  refine lv_iload hx hb dL_law_2523 (lv_at hl 5 rfl) ?_
  refine lv_iconst (v := nI 1) hx hb dL_law_2525 (by decide) ?_
  refine lv_iadd hx hb dL_law_2526 ?_
  refine z_topi (nI_add i 1) ?_
  refine z_sld (k := i + 1) hx hb hI hX hbB hsz hL (by omega) dL_law_2527 ?_
  refine lv_aload_n hx hb dL_law_2528 rfl (lv_at hl 0 rfl) ?_
  refine lv_iload hx hb dL_law_2529 (lv_at hl 5 rfl) ?_
  refine lv_iconst (v := nI 2) hx hb dL_law_2531 (by decide) ?_
  refine lv_iadd hx hb dL_law_2532 ?_
  refine z_topi (nI_add i 2) ?_
  refine z_sld (k := i + 2) hx hb hI hX hbB hsz hL (by omega) dL_law_2533 ?_
  refine lv_aload_n hx hb dL_law_2534 rfl (lv_at hl 0 rfl) ?_
  refine lv_iload hx hb dL_law_2535 (lv_at hl 5 rfl) ?_
  refine lv_iconst (v := nI 3) hx hb dL_law_2537 (by decide) ?_
  refine lv_iadd hx hb dL_law_2538 ?_
  refine z_topi (nI_add i 3) ?_
  refine z_sld (k := i + 3) hx hb hI hX hbB hsz hL (by omega) dL_law_2539 ?_
  refine lv_aload_n hx hb dL_law_2540 rfl (lv_at hl 0 rfl) ?_
  refine lv_iload hx hb dL_law_2541 (lv_at hl 5 rfl) ?_
  refine lv_iconst (v := nI 4) hx hb dL_law_2543 (by decide) ?_
  refine lv_iadd hx hb dL_law_2544 ?_
  refine z_topi (nI_add i 4) ?_
  refine z_sld (k := i + 4) hx hb hI hX hbB hsz hL (by omega) dL_law_2545 ?_
  refine lv_aload_n hx hb dL_law_2546 rfl (lv_at hl 3 rfl) ?_
  refine z_calli hI (z_H (As := [.ref B0, .int (xs (i + 1)), .int (xs (i + 2)), .int (xs (i + 3)), .int (xs (i + 4)), .ref (B0 + 41)]) (rest := []) ⟨hx, hb, hml, hown, hts⟩ hI (c_L_move l hl0 G B0 F σ (xs (i + 1)) (xs (i + 2)) (xs (i + 3)) (xs (i + 4)) fo hC hK hO) (z_cwH vL_move hts q547 ⟨Nat.le_of_ble_eq_true rfl, Nat.le_of_ble_eq_true rfl⟩) rfl hl.1 rfl (lv_room (Nat.le_of_ble_eq_true rfl)) dL_law_2547 ⟨by omega, by omega⟩) (fun r5 F1 H locs hp5 hI => ?_)
  obtain ⟨hz1, ⟨σ1, fo1, hC1, ha1, hy1, hn1⟩, hf1⟩ := hp5
  have hM1 : MS G B0 F1 σ th := hM.goB (fun q h1 h2 => hf1 q h1 (by omega))
  have hD1 := (hf1 (B0 + 42) (by omega) (by omega)).trans hD
  refine lv_istore (lv' := [(6, .int r5), (0, .ref b), (1, .ref B0), (2, .ref (B0 + 23)), (3, .ref (B0 + 41)), (4, .ref (B0 + 42)), (5, .int (nI i))]) hx hb dL_law_2550 hl (by decide) rfl (fun ls hl => ?_)
  refine lv_aload_n hx hb dL_law_2552 rfl (lv_at hl 3 rfl) ?_
  refine lv_aload_n hx hb dL_law_2553 rfl (lv_at hl 1 rfl) ?_
  refine lv_iload hx hb dL_law_2554 (lv_at hl 6 rfl) ?_
  refine lv_iconst (v := nI 1) hx hb dL_law_2556 (by decide) ?_
  refine lv_iadd hx hb dL_law_2557 ?_
  refine z_topi (nI_add i 1) ?_
  refine z_sld (k := i + 1) hx hb hI hX hbB hsz hL (by omega) dL_law_2558 ?_
  refine lv_aload_n hx hb dL_law_2559 rfl (lv_at hl 1 rfl) ?_
  refine lv_iload hx hb dL_law_2560 (lv_at hl 6 rfl) ?_
  refine lv_iconst (v := nI 2) hx hb dL_law_2562 (by decide) ?_
  refine lv_iadd hx hb dL_law_2563 ?_
  refine z_topi (nI_add i 2) ?_
  refine z_sld (k := i + 2) hx hb hI hX hbB hsz hL (by omega) dL_law_2564 ?_
  refine lv_aload_n hx hb dL_law_2565 rfl (lv_at hl 1 rfl) ?_
  refine lv_iload hx hb dL_law_2566 (lv_at hl 6 rfl) ?_
  refine lv_iconst (v := nI 3) hx hb dL_law_2568 (by decide) ?_
  refine lv_iadd hx hb dL_law_2569 ?_
  refine z_topi (nI_add i 3) ?_
  refine z_sld (k := i + 3) hx hb hI hX hbB hsz hL (by omega) dL_law_2570 ?_
  refine lv_aload_n hx hb dL_law_2571 rfl (lv_at hl 1 rfl) ?_
  refine lv_iload hx hb dL_law_2572 (lv_at hl 6 rfl) ?_
  refine lv_iconst (v := nI 4) hx hb dL_law_2574 (by decide) ?_
  refine lv_iadd hx hb dL_law_2575 ?_
  refine z_topi (nI_add i 4) ?_
  refine z_sld (k := i + 4) hx hb hI hX hbB hsz hL (by omega) dL_law_2576 ?_
  refine z_calli hI (z_V (As := [.int (xs (i + 1)), .int (xs (i + 2)), .int (xs (i + 3)), .int (xs (i + 4))]) (rest := []) ⟨hx, hb, hml, hown, hts⟩ hI hM1.1 rfl (c_X4_move l G B0 F1 σ th (xs (i + 1)) (xs (i + 2)) (xs (i + 3)) (xs (i + 4)) hM1 hK) (z_cwV vX4_move hts q1004 ⟨Nat.le_of_ble_eq_true rfl, Nat.le_of_ble_eq_true rfl⟩) rfl hl.1 rfl (lv_room (Nat.le_of_ble_eq_true rfl)) dL_law_2577 ⟨by omega, by omega⟩) (fun r6 F2 H locs hp6 hI => ?_)
  obtain ⟨th2, σ2, hM2, hz2, hy2, hn2, hf2⟩ := hp6
  have hb2 := (hf2 (B0 + 41) (Or.inr (by omega))).trans ha1
  refine lv_istore (lv' := [(7, .int r6), (6, .int r5), (0, .ref b), (1, .ref B0), (2, .ref (B0 + 23)), (3, .ref (B0 + 41)), (4, .ref (B0 + 42)), (5, .int (nI i))]) hx hb dL_law_2580 hl (by decide) rfl (fun ls hl => ?_)
  refine lv_aload_n hx hb dL_law_2582 rfl (lv_at hl 4 rfl) ?_
  refine z_calli hI (z_V (As := []) (rest := []) ⟨hx, hb, hml, hown, hts⟩ hI hM2.1 rfl (c_X4_thrown l G B0 F2 σ2 th2 hM2) (z_cwV vX4_thrown hts q726 ⟨Nat.le_of_ble_eq_true rfl, Nat.le_of_ble_eq_true rfl⟩) rfl hl.1 rfl (lv_room (Nat.le_of_ble_eq_true rfl)) dL_law_2583 ⟨by omega, by omega⟩) (fun r7 F3 H locs hp7 hI => ?_)
  obtain ⟨rfl, rfl⟩ := hp7
  refine lv_iload hx hb dL_law_2586 (lv_at hl 1 rfl) ?_
  refine lv_icmp_eq (tgt := 2593) hx hb dL_law_2588 (by decide) (fun hq4 => ?_) (fun hq4 => ?_)
  · refine lv_iload hx hb dL_law_2593 (lv_at hl 1 rfl) ?_
    refine lv_if_ne (tgt := 2610) hx hb dL_law_2595 (by decide) (fun hq5 => ?_) (fun hq5 => ?_)
    · have hno := zTh_n hz1 hq5
      refine lv_goto (tgt := 3367) hx hb dL_law_2610 (by decide) ?_
      refine W.widen (k := cells + 40) (n := slots + 600) (by omega) (by omega) ?_
      exact kk _ _ _ _ _ _ (lv_sub hl [2, 3, 4, 5, 6, 7] rfl) (zLI_end hC1 ha1 hD1 hM2 hf2 ((hn2 hno).trans (hn1 hno).symm) (by rw [hn1 hno]; exact hW)) hI
    · have hok := zTh_0 hz1 hq5
      obtain ⟨hs1, hv1⟩ := hy1 hok
      obtain ⟨hs2, hv2⟩ := hy2 hok
      have hv : fo1 0 = r6.toInt64 := hv1.trans (congrArg Int32.toInt64 hv2.symm)
      refine lv_aload_n hx hb dL_law_2598 rfl (lv_at hl 5 rfl) ?_
      refine lv_iconst (v := nI 0) hx hb dL_law_2599 (by decide) ?_
      refine z_lld (k := 0) hx hb hI hb2 (by decide) (by decide) dL_law_2600 ?_
      refine lv_iload hx hb dL_law_2601 (lv_at hl 0 rfl) ?_
      refine lv_i2l hx hb dL_law_2603 rfl ?_
      refine W.lcmp hx hb dL_law_2604 ?_
      refine lv_if_eq (tgt := 2610) hx hb dL_law_2605 (by decide) (fun hq6 => ?_) (fun hq6 => ?_)
      · refine lv_goto (tgt := 3367) hx hb dL_law_2610 (by decide) ?_
        refine W.widen (k := cells + 40) (n := slots + 600) (by omega) (by omega) ?_
        exact kk _ _ _ _ _ _ (lv_sub hl [2, 3, 4, 5, 6, 7] rfl) (zLI_end hC1 ha1 hD1 hM2 hf2 (hs2.trans hs1.symm) (by rw [hs1]; exact wk_move hK hW hok.1 hok.2.1)) hI
      · exact absurd (by rw [hv]; exact lg_self) hq6
  · exact absurd (zTh_eq hz2 hz1) hq4

