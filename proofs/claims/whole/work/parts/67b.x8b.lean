set_option maxHeartbeats 4000000 in
set_option maxRecDepth 100000 in
theorem w_say {p : Program} {l : Launch} {e : Env} {s : State} {m : MethodId} {below : List Frame} {meth : Method} {c : Code} {b L B0 : Nat} {xs : Nat → Int32} {G : zK} {Q : State → Prop} {cells slots : Nat} {i : Nat} {ls : Array Slot} {H : Heap} {locs : List Loc} {F : zM} {σ : Sg} {th : Int32} (K : zCtx p s m c b L B0 xs) (hl0 : l.stackTraces = false) (hi : i + 5 ≤ L) (hRc : cells + 40 ≤ room_1.cells) (hRs : slots + 600 ≤ room_1.slots) (hl : lv_has ls 9 (zLv b B0 i)) (hJ : zLI G B0 F σ th) (hI : zI G B0 s H locs F)
    (kk : ∀ (ls : Array Slot) (H : Heap) (locs : List Loc) (F : zM) (σ : Sg) (th : Int32), lv_has ls 9 (zLv b B0 i) → zLI G B0 F σ th → zI G B0 s H locs F → W p l e room_1 s m #[Value.ref b] below meth c H locs (cells + 40) (slots + 600) Q (F0 m 3367 ls [])) : W p l e room_1 s m #[Value.ref b] below meth c H locs cells slots Q (F0 m 1028 ls []) := by
  obtain ⟨hx, hb, hml, hown, hts, hX, hbB, hsz, hL⟩ := K
  obtain ⟨hC, hM, hW, ⟨fo, hO⟩, fd, hD⟩ := hJ
  have hK := hC.ok hW
  have hl : lv_has ls 9 [(0, .ref b), (1, .ref B0), (2, .ref (B0 + 23)), (3, .ref (B0 + 41)), (4, .ref (B0 + 42)), (5, .int (nI i))] := hl
  refine lv_aload_n hx hb dL_law_1028 rfl (lv_at hl 1 rfl) ?_
  refine lv_aload_n hx hb dL_law_1029 rfl (lv_at hl 0 rfl) ?_
  refine lv_iload hx hb dL_law_1030 (lv_at hl 5 rfl) ?_
  refine lv_iconst (v := nI 1) hx hb dL_law_1032 (by decide) ?_
  refine lv_iadd hx hb dL_law_1033 ?_
  refine z_topi (nI_add i 1) ?_
  refine z_sld (k := i + 1) hx hb hI hX hbB hsz hL (by omega) dL_law_1034 ?_
  refine lv_aload_n hx hb dL_law_1035 rfl (lv_at hl 0 rfl) ?_
  refine lv_iload hx hb dL_law_1036 (lv_at hl 5 rfl) ?_
  refine lv_iconst (v := nI 2) hx hb dL_law_1038 (by decide) ?_
  refine lv_iadd hx hb dL_law_1039 ?_
  refine z_topi (nI_add i 2) ?_
  refine z_sld (k := i + 2) hx hb hI hX hbB hsz hL (by omega) dL_law_1040 ?_
  refine lv_aload_n hx hb dL_law_1041 rfl (lv_at hl 3 rfl) ?_
  refine z_calli hI (z_H (As := [.ref B0, .int (xs (i + 1)), .int (xs (i + 2)), .ref (B0 + 41)]) (rest := []) ⟨hx, hb, hml, hown, hts⟩ hI (c_L_say l hl0 G B0 F σ (xs (i + 1)) (xs (i + 2)) fo hC hK hO) (z_cwH vL_say hts q286 ⟨Nat.le_of_ble_eq_true rfl, Nat.le_of_ble_eq_true rfl⟩) rfl hl.1 rfl (lv_room (Nat.le_of_ble_eq_true rfl)) dL_law_1042 ⟨by omega, by omega⟩) (fun r5 F1 H locs hp5 hI => ?_)
  obtain ⟨hz1, ⟨σ1, fo1, hC1, ha1, hy1, hn1⟩, hf1⟩ := hp5
  have hM1 : MS G B0 F1 σ th := hM.goB (fun q h1 h2 => hf1 q h1 (by omega))
  have hD1 := (hf1 (B0 + 42) (by omega) (by omega)).trans hD
  refine lv_istore (lv' := [(6, .int r5), (0, .ref b), (1, .ref B0), (2, .ref (B0 + 23)), (3, .ref (B0 + 41)), (4, .ref (B0 + 42)), (5, .int (nI i))]) hx hb dL_law_1045 hl (by decide) rfl (fun ls hl => ?_)
  refine lv_aload_n hx hb dL_law_1047 rfl (lv_at hl 3 rfl) ?_
  refine lv_aload_n hx hb dL_law_1048 rfl (lv_at hl 1 rfl) ?_
  refine lv_iload hx hb dL_law_1049 (lv_at hl 6 rfl) ?_
  refine lv_iconst (v := nI 1) hx hb dL_law_1051 (by decide) ?_
  refine lv_iadd hx hb dL_law_1052 ?_
  refine z_topi (nI_add i 1) ?_
  refine z_sld (k := i + 1) hx hb hI hX hbB hsz hL (by omega) dL_law_1053 ?_
  refine lv_aload_n hx hb dL_law_1054 rfl (lv_at hl 1 rfl) ?_
  refine lv_iload hx hb dL_law_1055 (lv_at hl 6 rfl) ?_
  refine lv_iconst (v := nI 2) hx hb dL_law_1057 (by decide) ?_
  refine lv_iadd hx hb dL_law_1058 ?_
  refine z_topi (nI_add i 2) ?_
  refine z_sld (k := i + 2) hx hb hI hX hbB hsz hL (by omega) dL_law_1059 ?_
  refine z_calli hI (z_V (As := [.int (xs (i + 1)), .int (xs (i + 2))]) (rest := []) ⟨hx, hb, hml, hown, hts⟩ hI hM1.1 rfl (c_X4_say l G B0 F1 σ th (xs (i + 1)) (xs (i + 2)) hM1 hK) (z_cwV vX4_say hts q863 ⟨Nat.le_of_ble_eq_true rfl, Nat.le_of_ble_eq_true rfl⟩) rfl hl.1 rfl (lv_room (Nat.le_of_ble_eq_true rfl)) dL_law_1060 ⟨by omega, by omega⟩) (fun r6 F2 H locs hp6 hI => ?_)
  obtain ⟨th2, σ2, hM2, hz2, hy2, hn2, hf2⟩ := hp6
  have hb2 := (hf2 (B0 + 41) (Or.inr (by omega))).trans ha1
  refine lv_istore (lv' := [(7, .int r6), (6, .int r5), (0, .ref b), (1, .ref B0), (2, .ref (B0 + 23)), (3, .ref (B0 + 41)), (4, .ref (B0 + 42)), (5, .int (nI i))]) hx hb dL_law_1063 hl (by decide) rfl (fun ls hl => ?_)
  refine lv_aload_n hx hb dL_law_1065 rfl (lv_at hl 4 rfl) ?_
  refine z_calli hI (z_V (As := []) (rest := []) ⟨hx, hb, hml, hown, hts⟩ hI hM2.1 rfl (c_X4_thrown l G B0 F2 σ2 th2 hM2) (z_cwV vX4_thrown hts q726 ⟨Nat.le_of_ble_eq_true rfl, Nat.le_of_ble_eq_true rfl⟩) rfl hl.1 rfl (lv_room (Nat.le_of_ble_eq_true rfl)) dL_law_1066 ⟨by omega, by omega⟩) (fun r7 F3 H locs hp7 hI => ?_)
  obtain ⟨rfl, rfl⟩ := hp7
  refine lv_iload hx hb dL_law_1069 (lv_at hl 1 rfl) ?_
  refine lv_icmp_eq (tgt := 1076) hx hb dL_law_1071 (by decide) (fun hq4 => ?_) (fun hq4 => ?_)
  · refine lv_iload hx hb dL_law_1076 (lv_at hl 1 rfl) ?_
    refine lv_if_ne (tgt := 1093) hx hb dL_law_1078 (by decide) (fun hq5 => ?_) (fun hq5 => ?_)
    · have hno := zTh_n hz1 hq5
      refine lv_goto (tgt := 3367) hx hb dL_law_1093 (by decide) ?_
      refine W.widen (k := cells + 40) (n := slots + 600) (by omega) (by omega) ?_
      exact kk _ _ _ _ _ _ (lv_sub hl [2, 3, 4, 5, 6, 7] rfl) (zLI_end hC1 ha1 hD1 hM2 hf2 ((hn2 hno).trans (hn1 hno).symm) (by rw [hn1 hno]; exact hW)) hI
    · have hok := zTh_0 hz1 hq5
      obtain ⟨hs1, hv1⟩ := hy1 hok
      obtain ⟨hs2, hv2⟩ := hy2 hok
      have hv : fo1 0 = r6.toInt64 := hv1.trans (congrArg Int32.toInt64 hv2.symm)
      refine lv_aload_n hx hb dL_law_1081 rfl (lv_at hl 5 rfl) ?_
      refine lv_iconst (v := nI 0) hx hb dL_law_1082 (by decide) ?_
      refine z_lld (k := 0) hx hb hI hb2 (by decide) (by decide) dL_law_1083 ?_
      refine lv_iload hx hb dL_law_1084 (lv_at hl 0 rfl) ?_
      refine lv_i2l hx hb dL_law_1086 rfl ?_
      refine W.lcmp hx hb dL_law_1087 ?_
      refine lv_if_eq (tgt := 1093) hx hb dL_law_1088 (by decide) (fun hq6 => ?_) (fun hq6 => ?_)
      · refine lv_goto (tgt := 3367) hx hb dL_law_1093 (by decide) ?_
        refine W.widen (k := cells + 40) (n := slots + 600) (by omega) (by omega) ?_
        exact kk _ _ _ _ _ _ (lv_sub hl [2, 3, 4, 5, 6, 7] rfl) (zLI_end hC1 ha1 hD1 hM2 hf2 (hs2.trans hs1.symm) (by rw [hs1]; exact wk_say hK hW hok.1 hok.2.1)) hI
      · exact absurd (by rw [hv]; exact lg_self) hq6
  · exact absurd (zTh_eq hz2 hz1) hq4

set_option maxHeartbeats 4000000 in
set_option maxRecDepth 100000 in
theorem w_quote {p : Program} {l : Launch} {e : Env} {s : State} {m : MethodId} {below : List Frame} {meth : Method} {c : Code} {b L B0 : Nat} {xs : Nat → Int32} {G : zK} {Q : State → Prop} {cells slots : Nat} {i : Nat} {ls : Array Slot} {H : Heap} {locs : List Loc} {F : zM} {σ : Sg} {th : Int32} (K : zCtx p s m c b L B0 xs) (hl0 : l.stackTraces = false) (hi : i + 5 ≤ L) (hRc : cells + 40 ≤ room_1.cells) (hRs : slots + 600 ≤ room_1.slots) (hl : lv_has ls 9 (zLv b B0 i)) (hJ : zLI G B0 F σ th) (hI : zI G B0 s H locs F)
    (kk : ∀ (ls : Array Slot) (H : Heap) (locs : List Loc) (F : zM) (σ : Sg) (th : Int32), lv_has ls 9 (zLv b B0 i) → zLI G B0 F σ th → zI G B0 s H locs F → W p l e room_1 s m #[Value.ref b] below meth c H locs (cells + 40) (slots + 600) Q (F0 m 3367 ls [])) : W p l e room_1 s m #[Value.ref b] below meth c H locs cells slots Q (F0 m 1096 ls []) := by
  obtain ⟨hx, hb, hml, hown, hts, hX, hbB, hsz, hL⟩ := K
  obtain ⟨hC, hM, hW, ⟨fo, hO⟩, fd, hD⟩ := hJ
  have hK := hC.ok hW
  have hl : lv_has ls 9 [(0, .ref b), (1, .ref B0), (2, .ref (B0 + 23)), (3, .ref (B0 + 41)), (4, .ref (B0 + 42)), (5, .int (nI i))] := hl
  refine lv_aload_n hx hb dL_law_1096 rfl (lv_at hl 1 rfl) ?_
  refine lv_aload_n hx hb dL_law_1097 rfl (lv_at hl 0 rfl) ?_
  refine lv_iload hx hb dL_law_1098 (lv_at hl 5 rfl) ?_
  refine lv_iconst (v := nI 1) hx hb dL_law_1100 (by decide) ?_
  refine lv_iadd hx hb dL_law_1101 ?_
  refine z_topi (nI_add i 1) ?_
  refine z_sld (k := i + 1) hx hb hI hX hbB hsz hL (by omega) dL_law_1102 ?_
  refine lv_aload_n hx hb dL_law_1103 rfl (lv_at hl 0 rfl) ?_
  refine lv_iload hx hb dL_law_1104 (lv_at hl 5 rfl) ?_
  refine lv_iconst (v := nI 2) hx hb dL_law_1106 (by decide) ?_
  refine lv_iadd hx hb dL_law_1107 ?_
  refine z_topi (nI_add i 2) ?_
  refine z_sld (k := i + 2) hx hb hI hX hbB hsz hL (by omega) dL_law_1108 ?_
  refine lv_aload_n hx hb dL_law_1109 rfl (lv_at hl 0 rfl) ?_
  refine lv_iload hx hb dL_law_1110 (lv_at hl 5 rfl) ?_
  refine lv_iconst (v := nI 3) hx hb dL_law_1112 (by decide) ?_
  refine lv_iadd hx hb dL_law_1113 ?_
  refine z_topi (nI_add i 3) ?_
  refine z_sld (k := i + 3) hx hb hI hX hbB hsz hL (by omega) dL_law_1114 ?_
  refine lv_aload_n hx hb dL_law_1115 rfl (lv_at hl 0 rfl) ?_
  refine lv_iload hx hb dL_law_1116 (lv_at hl 5 rfl) ?_
  refine lv_iconst (v := nI 4) hx hb dL_law_1118 (by decide) ?_
  refine lv_iadd hx hb dL_law_1119 ?_
  refine z_topi (nI_add i 4) ?_
  refine z_sld (k := i + 4) hx hb hI hX hbB hsz hL (by omega) dL_law_1120 ?_
  refine lv_aload_n hx hb dL_law_1121 rfl (lv_at hl 3 rfl) ?_
  refine z_calli hI (z_H (As := [.ref B0, .int (xs (i + 1)), .int (xs (i + 2)), .int (xs (i + 3)), .int (xs (i + 4)), .ref (B0 + 41)]) (rest := []) ⟨hx, hb, hml, hown, hts⟩ hI (c_L_quote l hl0 G B0 F σ (xs (i + 1)) (xs (i + 2)) (xs (i + 3)) (xs (i + 4)) fo hC hK hO) (z_cwH vL_quote hts q298 ⟨Nat.le_of_ble_eq_true rfl, Nat.le_of_ble_eq_true rfl⟩) rfl hl.1 rfl (lv_room (Nat.le_of_ble_eq_true rfl)) dL_law_1122 ⟨by omega, by omega⟩) (fun r5 F1 H locs hp5 hI => ?_)
  obtain ⟨hz1, ⟨σ1, fo1, hC1, ha1, hy1, hn1⟩, hf1⟩ := hp5
  have hM1 : MS G B0 F1 σ th := hM.goB (fun q h1 h2 => hf1 q h1 (by omega))
  have hD1 := (hf1 (B0 + 42) (by omega) (by omega)).trans hD
  refine lv_istore (lv' := [(6, .int r5), (0, .ref b), (1, .ref B0), (2, .ref (B0 + 23)), (3, .ref (B0 + 41)), (4, .ref (B0 + 42)), (5, .int (nI i))]) hx hb dL_law_1125 hl (by decide) rfl (fun ls hl => ?_)
  refine lv_aload_n hx hb dL_law_1127 rfl (lv_at hl 3 rfl) ?_
  refine lv_aload_n hx hb dL_law_1128 rfl (lv_at hl 1 rfl) ?_
  refine lv_iload hx hb dL_law_1129 (lv_at hl 6 rfl) ?_
  refine lv_iconst (v := nI 1) hx hb dL_law_1131 (by decide) ?_
  refine lv_iadd hx hb dL_law_1132 ?_
  refine z_topi (nI_add i 1) ?_
  refine z_sld (k := i + 1) hx hb hI hX hbB hsz hL (by omega) dL_law_1133 ?_
  refine lv_aload_n hx hb dL_law_1134 rfl (lv_at hl 1 rfl) ?_
  refine lv_iload hx hb dL_law_1135 (lv_at hl 6 rfl) ?_
  refine lv_iconst (v := nI 2) hx hb dL_law_1137 (by decide) ?_
  refine lv_iadd hx hb dL_law_1138 ?_
  refine z_topi (nI_add i 2) ?_
  refine z_sld (k := i + 2) hx hb hI hX hbB hsz hL (by omega) dL_law_1139 ?_
  refine lv_aload_n hx hb dL_law_1140 rfl (lv_at hl 1 rfl) ?_
  refine lv_iload hx hb dL_law_1141 (lv_at hl 6 rfl) ?_
  refine lv_iconst (v := nI 3) hx hb dL_law_1143 (by decide) ?_
  refine lv_iadd hx hb dL_law_1144 ?_
  refine z_topi (nI_add i 3) ?_
  refine z_sld (k := i + 3) hx hb hI hX hbB hsz hL (by omega) dL_law_1145 ?_
  refine lv_aload_n hx hb dL_law_1146 rfl (lv_at hl 1 rfl) ?_
  refine lv_iload hx hb dL_law_1147 (lv_at hl 6 rfl) ?_
  refine lv_iconst (v := nI 4) hx hb dL_law_1149 (by decide) ?_
  refine lv_iadd hx hb dL_law_1150 ?_
  refine z_topi (nI_add i 4) ?_
  refine z_sld (k := i + 4) hx hb hI hX hbB hsz hL (by omega) dL_law_1151 ?_
  refine z_calli hI (z_V (As := [.int (xs (i + 1)), .int (xs (i + 2)), .int (xs (i + 3)), .int (xs (i + 4))]) (rest := []) ⟨hx, hb, hml, hown, hts⟩ hI hM1.1 rfl (c_X4_quote l G B0 F1 σ th (xs (i + 1)) (xs (i + 2)) (xs (i + 3)) (xs (i + 4)) hM1 hK) (z_cwV vX4_quote hts q870 ⟨Nat.le_of_ble_eq_true rfl, Nat.le_of_ble_eq_true rfl⟩) rfl hl.1 rfl (lv_room (Nat.le_of_ble_eq_true rfl)) dL_law_1152 ⟨by omega, by omega⟩) (fun r6 F2 H locs hp6 hI => ?_)
  obtain ⟨th2, σ2, hM2, hz2, hy2, hn2, hf2⟩ := hp6
  have hb2 := (hf2 (B0 + 41) (Or.inr (by omega))).trans ha1
  refine lv_istore (lv' := [(7, .int r6), (6, .int r5), (0, .ref b), (1, .ref B0), (2, .ref (B0 + 23)), (3, .ref (B0 + 41)), (4, .ref (B0 + 42)), (5, .int (nI i))]) hx hb dL_law_1155 hl (by decide) rfl (fun ls hl => ?_)
  refine lv_aload_n hx hb dL_law_1157 rfl (lv_at hl 4 rfl) ?_
  refine z_calli hI (z_V (As := []) (rest := []) ⟨hx, hb, hml, hown, hts⟩ hI hM2.1 rfl (c_X4_thrown l G B0 F2 σ2 th2 hM2) (z_cwV vX4_thrown hts q726 ⟨Nat.le_of_ble_eq_true rfl, Nat.le_of_ble_eq_true rfl⟩) rfl hl.1 rfl (lv_room (Nat.le_of_ble_eq_true rfl)) dL_law_1158 ⟨by omega, by omega⟩) (fun r7 F3 H locs hp7 hI => ?_)
  obtain ⟨rfl, rfl⟩ := hp7
  refine lv_iload hx hb dL_law_1161 (lv_at hl 1 rfl) ?_
  refine lv_icmp_eq (tgt := 1168) hx hb dL_law_1163 (by decide) (fun hq4 => ?_) (fun hq4 => ?_)
  · refine lv_iload hx hb dL_law_1168 (lv_at hl 1 rfl) ?_
    refine lv_if_ne (tgt := 1185) hx hb dL_law_1170 (by decide) (fun hq5 => ?_) (fun hq5 => ?_)
    · have hno := zTh_n hz1 hq5
      refine lv_goto (tgt := 3367) hx hb dL_law_1185 (by decide) ?_
      refine W.widen (k := cells + 40) (n := slots + 600) (by omega) (by omega) ?_
      exact kk _ _ _ _ _ _ (lv_sub hl [2, 3, 4, 5, 6, 7] rfl) (zLI_end hC1 ha1 hD1 hM2 hf2 ((hn2 hno).trans (hn1 hno).symm) (by rw [hn1 hno]; exact hW)) hI
    · have hok := zTh_0 hz1 hq5
      obtain ⟨hs1, hv1⟩ := hy1 hok
      obtain ⟨hs2, hv2⟩ := hy2 hok
      have hv : fo1 0 = r6.toInt64 := hv1.trans (congrArg Int32.toInt64 hv2.symm)
      refine lv_aload_n hx hb dL_law_1173 rfl (lv_at hl 5 rfl) ?_
      refine lv_iconst (v := nI 0) hx hb dL_law_1174 (by decide) ?_
      refine z_lld (k := 0) hx hb hI hb2 (by decide) (by decide) dL_law_1175 ?_
      refine lv_iload hx hb dL_law_1176 (lv_at hl 0 rfl) ?_
      refine lv_i2l hx hb dL_law_1178 rfl ?_
      refine W.lcmp hx hb dL_law_1179 ?_
      refine lv_if_eq (tgt := 1185) hx hb dL_law_1180 (by decide) (fun hq6 => ?_) (fun hq6 => ?_)
      · refine lv_goto (tgt := 3367) hx hb dL_law_1185 (by decide) ?_
        refine W.widen (k := cells + 40) (n := slots + 600) (by omega) (by omega) ?_
        exact kk _ _ _ _ _ _ (lv_sub hl [2, 3, 4, 5, 6, 7] rfl) (zLI_end hC1 ha1 hD1 hM2 hf2 (hs2.trans hs1.symm) (by rw [hs1]; exact wk_quote hK hW hok.1 hok.2.1)) hI
      · exact absurd (by rw [hv]; exact lg_self) hq6
  · exact absurd (zTh_eq hz2 hz1) hq4

set_option maxHeartbeats 4000000 in
set_option maxRecDepth 100000 in
theorem w_hush {p : Program} {l : Launch} {e : Env} {s : State} {m : MethodId} {below : List Frame} {meth : Method} {c : Code} {b L B0 : Nat} {xs : Nat → Int32} {G : zK} {Q : State → Prop} {cells slots : Nat} {i : Nat} {ls : Array Slot} {H : Heap} {locs : List Loc} {F : zM} {σ : Sg} {th : Int32} (K : zCtx p s m c b L B0 xs) (hl0 : l.stackTraces = false) (hi : i + 5 ≤ L) (hRc : cells + 40 ≤ room_1.cells) (hRs : slots + 600 ≤ room_1.slots) (hl : lv_has ls 9 (zLv b B0 i)) (hJ : zLI G B0 F σ th) (hI : zI G B0 s H locs F)
    (kk : ∀ (ls : Array Slot) (H : Heap) (locs : List Loc) (F : zM) (σ : Sg) (th : Int32), lv_has ls 9 (zLv b B0 i) → zLI G B0 F σ th → zI G B0 s H locs F → W p l e room_1 s m #[Value.ref b] below meth c H locs (cells + 40) (slots + 600) Q (F0 m 3367 ls [])) : W p l e room_1 s m #[Value.ref b] below meth c H locs cells slots Q (F0 m 1188 ls []) := by
  obtain ⟨hx, hb, hml, hown, hts, hX, hbB, hsz, hL⟩ := K
  obtain ⟨hC, hM, hW, ⟨fo, hO⟩, fd, hD⟩ := hJ
  have hK := hC.ok hW
  have hl : lv_has ls 9 [(0, .ref b), (1, .ref B0), (2, .ref (B0 + 23)), (3, .ref (B0 + 41)), (4, .ref (B0 + 42)), (5, .int (nI i))] := hl
  refine lv_aload_n hx hb dL_law_1188 rfl (lv_at hl 1 rfl) ?_
  refine lv_aload_n hx hb dL_law_1189 rfl (lv_at hl 0 rfl) ?_
  refine lv_iload hx hb dL_law_1190 (lv_at hl 5 rfl) ?_
  refine lv_iconst (v := nI 1) hx hb dL_law_1192 (by decide) ?_
  refine lv_iadd hx hb dL_law_1193 ?_
  refine z_topi (nI_add i 1) ?_
  refine z_sld (k := i + 1) hx hb hI hX hbB hsz hL (by omega) dL_law_1194 ?_
  refine lv_aload_n hx hb dL_law_1195 rfl (lv_at hl 3 rfl) ?_
  refine z_calli hI (z_H (As := [.ref B0, .int (xs (i + 1)), .ref (B0 + 41)]) (rest := []) ⟨hx, hb, hml, hown, hts⟩ hI (c_L_hush l hl0 G B0 F σ (xs (i + 1)) fo hC hK hO) (z_cwH vL_hush hts q306 ⟨Nat.le_of_ble_eq_true rfl, Nat.le_of_ble_eq_true rfl⟩) rfl hl.1 rfl (lv_room (Nat.le_of_ble_eq_true rfl)) dL_law_1196 ⟨by omega, by omega⟩) (fun r5 F1 H locs hp5 hI => ?_)
  obtain ⟨hz1, ⟨σ1, fo1, hC1, ha1, hy1, hn1⟩, hf1⟩ := hp5
  have hM1 : MS G B0 F1 σ th := hM.goB (fun q h1 h2 => hf1 q h1 (by omega))
  have hD1 := (hf1 (B0 + 42) (by omega) (by omega)).trans hD
  refine lv_istore (lv' := [(6, .int r5), (0, .ref b), (1, .ref B0), (2, .ref (B0 + 23)), (3, .ref (B0 + 41)), (4, .ref (B0 + 42)), (5, .int (nI i))]) hx hb dL_law_1199 hl (by decide) rfl (fun ls hl => ?_)
  refine lv_aload_n hx hb dL_law_1201 rfl (lv_at hl 3 rfl) ?_
  refine lv_aload_n hx hb dL_law_1202 rfl (lv_at hl 1 rfl) ?_
  refine lv_iload hx hb dL_law_1203 (lv_at hl 6 rfl) ?_
  refine lv_iconst (v := nI 1) hx hb dL_law_1205 (by decide) ?_
  refine lv_iadd hx hb dL_law_1206 ?_
  refine z_topi (nI_add i 1) ?_
  refine z_sld (k := i + 1) hx hb hI hX hbB hsz hL (by omega) dL_law_1207 ?_
  refine z_calli hI (z_V (As := [.int (xs (i + 1))]) (rest := []) ⟨hx, hb, hml, hown, hts⟩ hI hM1.1 rfl (c_X4_hush l G B0 F1 σ th (xs (i + 1)) hM1 hK) (z_cwV vX4_hush hts q875 ⟨Nat.le_of_ble_eq_true rfl, Nat.le_of_ble_eq_true rfl⟩) rfl hl.1 rfl (lv_room (Nat.le_of_ble_eq_true rfl)) dL_law_1208 ⟨by omega, by omega⟩) (fun r6 F2 H locs hp6 hI => ?_)
  obtain ⟨th2, σ2, hM2, hz2, hy2, hn2, hf2⟩ := hp6
  have hb2 := (hf2 (B0 + 41) (Or.inr (by omega))).trans ha1
  refine lv_istore (lv' := [(7, .int r6), (6, .int r5), (0, .ref b), (1, .ref B0), (2, .ref (B0 + 23)), (3, .ref (B0 + 41)), (4, .ref (B0 + 42)), (5, .int (nI i))]) hx hb dL_law_1211 hl (by decide) rfl (fun ls hl => ?_)
  refine lv_aload_n hx hb dL_law_1213 rfl (lv_at hl 4 rfl) ?_
  refine z_calli hI (z_V (As := []) (rest := []) ⟨hx, hb, hml, hown, hts⟩ hI hM2.1 rfl (c_X4_thrown l G B0 F2 σ2 th2 hM2) (z_cwV vX4_thrown hts q726 ⟨Nat.le_of_ble_eq_true rfl, Nat.le_of_ble_eq_true rfl⟩) rfl hl.1 rfl (lv_room (Nat.le_of_ble_eq_true rfl)) dL_law_1214 ⟨by omega, by omega⟩) (fun r7 F3 H locs hp7 hI => ?_)
  obtain ⟨rfl, rfl⟩ := hp7
  refine lv_iload hx hb dL_law_1217 (lv_at hl 1 rfl) ?_
  refine lv_icmp_eq (tgt := 1224) hx hb dL_law_1219 (by decide) (fun hq4 => ?_) (fun hq4 => ?_)
  · refine lv_iload hx hb dL_law_1224 (lv_at hl 1 rfl) ?_
    refine lv_if_ne (tgt := 1241) hx hb dL_law_1226 (by decide) (fun hq5 => ?_) (fun hq5 => ?_)
    · have hno := zTh_n hz1 hq5
      refine lv_goto (tgt := 3367) hx hb dL_law_1241 (by decide) ?_
      refine W.widen (k := cells + 40) (n := slots + 600) (by omega) (by omega) ?_
      exact kk _ _ _ _ _ _ (lv_sub hl [2, 3, 4, 5, 6, 7] rfl) (zLI_end hC1 ha1 hD1 hM2 hf2 ((hn2 hno).trans (hn1 hno).symm) (by rw [hn1 hno]; exact hW)) hI
    · have hok := zTh_0 hz1 hq5
      obtain ⟨hs1, hv1⟩ := hy1 hok
      obtain ⟨hs2, hv2⟩ := hy2 hok
      have hv : fo1 0 = r6.toInt64 := hv1.trans (congrArg Int32.toInt64 hv2.symm)
      refine lv_aload_n hx hb dL_law_1229 rfl (lv_at hl 5 rfl) ?_
      refine lv_iconst (v := nI 0) hx hb dL_law_1230 (by decide) ?_
      refine z_lld (k := 0) hx hb hI hb2 (by decide) (by decide) dL_law_1231 ?_
      refine lv_iload hx hb dL_law_1232 (lv_at hl 0 rfl) ?_
      refine lv_i2l hx hb dL_law_1234 rfl ?_
      refine W.lcmp hx hb dL_law_1235 ?_
      refine lv_if_eq (tgt := 1241) hx hb dL_law_1236 (by decide) (fun hq6 => ?_) (fun hq6 => ?_)
      · refine lv_goto (tgt := 3367) hx hb dL_law_1241 (by decide) ?_
        refine W.widen (k := cells + 40) (n := slots + 600) (by omega) (by omega) ?_
        exact kk _ _ _ _ _ _ (lv_sub hl [2, 3, 4, 5, 6, 7] rfl) (zLI_end hC1 ha1 hD1 hM2 hf2 (hs2.trans hs1.symm) (by rw [hs1]; exact wk_hush hK hW hok.1 hok.2.1)) hI
      · exact absurd (by rw [hv]; exact lg_self) hq6
  · exact absurd (zTh_eq hz2 hz1) hq4

set_option maxHeartbeats 4000000 in
set_option maxRecDepth 100000 in
theorem w_wordOf {p : Program} {l : Launch} {e : Env} {s : State} {m : MethodId} {below : List Frame} {meth : Method} {c : Code} {b L B0 : Nat} {xs : Nat → Int32} {G : zK} {Q : State → Prop} {cells slots : Nat} {i : Nat} {ls : Array Slot} {H : Heap} {locs : List Loc} {F : zM} {σ : Sg} {th : Int32} (K : zCtx p s m c b L B0 xs) (hl0 : l.stackTraces = false) (hi : i + 5 ≤ L) (hRc : cells + 40 ≤ room_1.cells) (hRs : slots + 600 ≤ room_1.slots) (hl : lv_has ls 9 (zLv b B0 i)) (hJ : zLI G B0 F σ th) (hI : zI G B0 s H locs F)
    (kk : ∀ (ls : Array Slot) (H : Heap) (locs : List Loc) (F : zM) (σ : Sg) (th : Int32), lv_has ls 9 (zLv b B0 i) → zLI G B0 F σ th → zI G B0 s H locs F → W p l e room_1 s m #[Value.ref b] below meth c H locs (cells + 40) (slots + 600) Q (F0 m 3367 ls [])) : W p l e room_1 s m #[Value.ref b] below meth c H locs cells slots Q (F0 m 1244 ls []) := by
  obtain ⟨hx, hb, hml, hown, hts, hX, hbB, hsz, hL⟩ := K
  obtain ⟨hC, hM, hW, ⟨fo, hO⟩, fd, hD⟩ := hJ
  have hK := hC.ok hW
  have hl : lv_has ls 9 [(0, .ref b), (1, .ref B0), (2, .ref (B0 + 23)), (3, .ref (B0 + 41)), (4, .ref (B0 + 42)), (5, .int (nI i))] := hl
  refine lv_aload_n hx hb dL_law_1244 rfl (lv_at hl 1 rfl) ?_
  refine lv_aload_n hx hb dL_law_1245 rfl (lv_at hl 0 rfl) ?_
  refine lv_iload hx hb dL_law_1246 (lv_at hl 5 rfl) ?_
  refine lv_iconst (v := nI 1) hx hb dL_law_1248 (by decide) ?_
  refine lv_iadd hx hb dL_law_1249 ?_
  refine z_topi (nI_add i 1) ?_
  refine z_sld (k := i + 1) hx hb hI hX hbB hsz hL (by omega) dL_law_1250 ?_
  refine lv_aload_n hx hb dL_law_1251 rfl (lv_at hl 0 rfl) ?_
  refine lv_iload hx hb dL_law_1252 (lv_at hl 5 rfl) ?_
  refine lv_iconst (v := nI 2) hx hb dL_law_1254 (by decide) ?_
  refine lv_iadd hx hb dL_law_1255 ?_
  refine z_topi (nI_add i 2) ?_
  refine z_sld (k := i + 2) hx hb hI hX hbB hsz hL (by omega) dL_law_1256 ?_
  refine lv_aload_n hx hb dL_law_1257 rfl (lv_at hl 3 rfl) ?_
  refine z_calli hI (z_H (As := [.ref B0, .int (xs (i + 1)), .int (xs (i + 2)), .ref (B0 + 41)]) (rest := []) ⟨hx, hb, hml, hown, hts⟩ hI (c_L_wordOf l hl0 G B0 F σ (xs (i + 1)) (xs (i + 2)) fo hC hK hO) (z_cwH vL_wordOf hts q313 ⟨Nat.le_of_ble_eq_true rfl, Nat.le_of_ble_eq_true rfl⟩) rfl hl.1 rfl (lv_room (Nat.le_of_ble_eq_true rfl)) dL_law_1258 ⟨by omega, by omega⟩) (fun r5 F1 H locs hp5 hI => ?_)
  obtain ⟨hz1, ⟨σ1, fo1, hC1, ha1, hy1, hn1⟩, hf1⟩ := hp5
  have hM1 : MS G B0 F1 σ th := hM.goB (fun q h1 h2 => hf1 q h1 (by omega))
  have hD1 := (hf1 (B0 + 42) (by omega) (by omega)).trans hD
  refine lv_istore (lv' := [(6, .int r5), (0, .ref b), (1, .ref B0), (2, .ref (B0 + 23)), (3, .ref (B0 + 41)), (4, .ref (B0 + 42)), (5, .int (nI i))]) hx hb dL_law_1261 hl (by decide) rfl (fun ls hl => ?_)
  refine lv_aload_n hx hb dL_law_1263 rfl (lv_at hl 3 rfl) ?_
  refine lv_aload_n hx hb dL_law_1264 rfl (lv_at hl 1 rfl) ?_
  refine lv_iload hx hb dL_law_1265 (lv_at hl 6 rfl) ?_
  refine lv_iconst (v := nI 1) hx hb dL_law_1267 (by decide) ?_
  refine lv_iadd hx hb dL_law_1268 ?_
  refine z_topi (nI_add i 1) ?_
  refine z_sld (k := i + 1) hx hb hI hX hbB hsz hL (by omega) dL_law_1269 ?_
  refine lv_aload_n hx hb dL_law_1270 rfl (lv_at hl 1 rfl) ?_
  refine lv_iload hx hb dL_law_1271 (lv_at hl 6 rfl) ?_
  refine lv_iconst (v := nI 2) hx hb dL_law_1273 (by decide) ?_
  refine lv_iadd hx hb dL_law_1274 ?_
  refine z_topi (nI_add i 2) ?_
  refine z_sld (k := i + 2) hx hb hI hX hbB hsz hL (by omega) dL_law_1275 ?_
  refine z_calli hI (z_V (As := [.int (xs (i + 1)), .int (xs (i + 2))]) (rest := []) ⟨hx, hb, hml, hown, hts⟩ hI hM1.1 rfl (c_X4_wordOf l G B0 F1 σ th (xs (i + 1)) (xs (i + 2)) hM1 hK) (z_cwV vX4_wordOf hts q879 ⟨Nat.le_of_ble_eq_true rfl, Nat.le_of_ble_eq_true rfl⟩) rfl hl.1 rfl (lv_room (Nat.le_of_ble_eq_true rfl)) dL_law_1276 ⟨by omega, by omega⟩) (fun r6 F2 H locs hp6 hI => ?_)
  obtain ⟨th2, σ2, hM2, hz2, hy2, hn2, hf2⟩ := hp6
  have hb2 := (hf2 (B0 + 41) (Or.inr (by omega))).trans ha1
  refine lv_istore (lv' := [(7, .int r6), (6, .int r5), (0, .ref b), (1, .ref B0), (2, .ref (B0 + 23)), (3, .ref (B0 + 41)), (4, .ref (B0 + 42)), (5, .int (nI i))]) hx hb dL_law_1279 hl (by decide) rfl (fun ls hl => ?_)
  refine lv_aload_n hx hb dL_law_1281 rfl (lv_at hl 4 rfl) ?_
  refine z_calli hI (z_V (As := []) (rest := []) ⟨hx, hb, hml, hown, hts⟩ hI hM2.1 rfl (c_X4_thrown l G B0 F2 σ2 th2 hM2) (z_cwV vX4_thrown hts q726 ⟨Nat.le_of_ble_eq_true rfl, Nat.le_of_ble_eq_true rfl⟩) rfl hl.1 rfl (lv_room (Nat.le_of_ble_eq_true rfl)) dL_law_1282 ⟨by omega, by omega⟩) (fun r7 F3 H locs hp7 hI => ?_)
  obtain ⟨rfl, rfl⟩ := hp7
  refine lv_iload hx hb dL_law_1285 (lv_at hl 1 rfl) ?_
  refine lv_icmp_eq (tgt := 1292) hx hb dL_law_1287 (by decide) (fun hq4 => ?_) (fun hq4 => ?_)
  · refine lv_iload hx hb dL_law_1292 (lv_at hl 1 rfl) ?_
    refine lv_if_ne (tgt := 1309) hx hb dL_law_1294 (by decide) (fun hq5 => ?_) (fun hq5 => ?_)
    · have hno := zTh_n hz1 hq5
      refine lv_goto (tgt := 3367) hx hb dL_law_1309 (by decide) ?_
      refine W.widen (k := cells + 40) (n := slots + 600) (by omega) (by omega) ?_
      exact kk _ _ _ _ _ _ (lv_sub hl [2, 3, 4, 5, 6, 7] rfl) (zLI_end hC1 ha1 hD1 hM2 hf2 ((hn2 hno).trans (hn1 hno).symm) (by rw [hn1 hno]; exact hW)) hI
    · have hok := zTh_0 hz1 hq5
      obtain ⟨hs1, hv1⟩ := hy1 hok
      obtain ⟨hs2, hv2⟩ := hy2 hok
      have hv : fo1 0 = r6.toInt64 := hv1.trans (congrArg Int32.toInt64 hv2.symm)
      refine lv_aload_n hx hb dL_law_1297 rfl (lv_at hl 5 rfl) ?_
      refine lv_iconst (v := nI 0) hx hb dL_law_1298 (by decide) ?_
      refine z_lld (k := 0) hx hb hI hb2 (by decide) (by decide) dL_law_1299 ?_
      refine lv_iload hx hb dL_law_1300 (lv_at hl 0 rfl) ?_
      refine lv_i2l hx hb dL_law_1302 rfl ?_
      refine W.lcmp hx hb dL_law_1303 ?_
      refine lv_if_eq (tgt := 1309) hx hb dL_law_1304 (by decide) (fun hq6 => ?_) (fun hq6 => ?_)
      · refine lv_goto (tgt := 3367) hx hb dL_law_1309 (by decide) ?_
        refine W.widen (k := cells + 40) (n := slots + 600) (by omega) (by omega) ?_
        exact kk _ _ _ _ _ _ (lv_sub hl [2, 3, 4, 5, 6, 7] rfl) (zLI_end hC1 ha1 hD1 hM2 hf2 (hs2.trans hs1.symm) (by rw [hs1]; exact wk_wordOf hK hW hok.1 hok.2.1)) hI
      · exact absurd (by rw [hv]; exact lg_self) hq6
  · exact absurd (zTh_eq hz2 hz1) hq4

set_option maxHeartbeats 4000000 in
set_option maxRecDepth 100000 in
theorem w_find {p : Program} {l : Launch} {e : Env} {s : State} {m : MethodId} {below : List Frame} {meth : Method} {c : Code} {b L B0 : Nat} {xs : Nat → Int32} {G : zK} {Q : State → Prop} {cells slots : Nat} {i : Nat} {ls : Array Slot} {H : Heap} {locs : List Loc} {F : zM} {σ : Sg} {th : Int32} (K : zCtx p s m c b L B0 xs) (hl0 : l.stackTraces = false) (hi : i + 5 ≤ L) (hRc : cells + 40 ≤ room_1.cells) (hRs : slots + 600 ≤ room_1.slots) (hl : lv_has ls 9 (zLv b B0 i)) (hJ : zLI G B0 F σ th) (hI : zI G B0 s H locs F)
    (kk : ∀ (ls : Array Slot) (H : Heap) (locs : List Loc) (F : zM) (σ : Sg) (th : Int32), lv_has ls 9 (zLv b B0 i) → zLI G B0 F σ th → zI G B0 s H locs F → W p l e room_1 s m #[Value.ref b] below meth c H locs (cells + 40) (slots + 600) Q (F0 m 3367 ls [])) : W p l e room_1 s m #[Value.ref b] below meth c H locs cells slots Q (F0 m 1312 ls []) := by
  obtain ⟨hx, hb, hml, hown, hts, hX, hbB, hsz, hL⟩ := K
  obtain ⟨hC, hM, hW, ⟨fo, hO⟩, fd, hD⟩ := hJ
  have hK := hC.ok hW
  have hl : lv_has ls 9 [(0, .ref b), (1, .ref B0), (2, .ref (B0 + 23)), (3, .ref (B0 + 41)), (4, .ref (B0 + 42)), (5, .int (nI i))] := hl
  refine lv_aload_n hx hb dL_law_1312 rfl (lv_at hl 1 rfl) ?_
  refine lv_aload_n hx hb dL_law_1313 rfl (lv_at hl 0 rfl) ?_
  refine lv_iload hx hb dL_law_1314 (lv_at hl 5 rfl) ?_
  refine lv_iconst (v := nI 1) hx hb dL_law_1316 (by decide) ?_
  refine lv_iadd hx hb dL_law_1317 ?_
  refine z_topi (nI_add i 1) ?_
  refine z_sld (k := i + 1) hx hb hI hX hbB hsz hL (by omega) dL_law_1318 ?_
  refine lv_aload_n hx hb dL_law_1319 rfl (lv_at hl 3 rfl) ?_
  refine z_calli hI (z_H (As := [.ref B0, .int (xs (i + 1)), .ref (B0 + 41)]) (rest := []) ⟨hx, hb, hml, hown, hts⟩ hI (c_L_find l hl0 G B0 F σ (xs (i + 1)) fo hC hK hO) (z_cwH vL_find hts q320 ⟨Nat.le_of_ble_eq_true rfl, Nat.le_of_ble_eq_true rfl⟩) rfl hl.1 rfl (lv_room (Nat.le_of_ble_eq_true rfl)) dL_law_1320 ⟨by omega, by omega⟩) (fun r5 F1 H locs hp5 hI => ?_)
  obtain ⟨hz1, ⟨σ1, fo1, hC1, ha1, hy1, hn1⟩, hf1⟩ := hp5
  have hM1 : MS G B0 F1 σ th := hM.goB (fun q h1 h2 => hf1 q h1 (by omega))
  have hD1 := (hf1 (B0 + 42) (by omega) (by omega)).trans hD
  refine lv_istore (lv' := [(6, .int r5), (0, .ref b), (1, .ref B0), (2, .ref (B0 + 23)), (3, .ref (B0 + 41)), (4, .ref (B0 + 42)), (5, .int (nI i))]) hx hb dL_law_1323 hl (by decide) rfl (fun ls hl => ?_)
  refine lv_aload_n hx hb dL_law_1325 rfl (lv_at hl 3 rfl) ?_
  refine lv_aload_n hx hb dL_law_1326 rfl (lv_at hl 1 rfl) ?_
  refine lv_iload hx hb dL_law_1327 (lv_at hl 6 rfl) ?_
  refine lv_iconst (v := nI 1) hx hb dL_law_1329 (by decide) ?_
  refine lv_iadd hx hb dL_law_1330 ?_
  refine z_topi (nI_add i 1) ?_
  refine z_sld (k := i + 1) hx hb hI hX hbB hsz hL (by omega) dL_law_1331 ?_
  refine z_calli hI (z_V (As := [.int (xs (i + 1))]) (rest := []) ⟨hx, hb, hml, hown, hts⟩ hI hM1.1 rfl (c_X4_find l G B0 F1 σ th (xs (i + 1)) hM1 hK) (z_cwV vX4_find hts q883 ⟨Nat.le_of_ble_eq_true rfl, Nat.le_of_ble_eq_true rfl⟩) rfl hl.1 rfl (lv_room (Nat.le_of_ble_eq_true rfl)) dL_law_1332 ⟨by omega, by omega⟩) (fun r6 F2 H locs hp6 hI => ?_)
  obtain ⟨th2, σ2, hM2, hz2, hy2, hn2, hf2⟩ := hp6
  have hb2 := (hf2 (B0 + 41) (Or.inr (by omega))).trans ha1
  refine lv_istore (lv' := [(7, .int r6), (6, .int r5), (0, .ref b), (1, .ref B0), (2, .ref (B0 + 23)), (3, .ref (B0 + 41)), (4, .ref (B0 + 42)), (5, .int (nI i))]) hx hb dL_law_1335 hl (by decide) rfl (fun ls hl => ?_)
  refine lv_aload_n hx hb dL_law_1337 rfl (lv_at hl 4 rfl) ?_
  refine z_calli hI (z_V (As := []) (rest := []) ⟨hx, hb, hml, hown, hts⟩ hI hM2.1 rfl (c_X4_thrown l G B0 F2 σ2 th2 hM2) (z_cwV vX4_thrown hts q726 ⟨Nat.le_of_ble_eq_true rfl, Nat.le_of_ble_eq_true rfl⟩) rfl hl.1 rfl (lv_room (Nat.le_of_ble_eq_true rfl)) dL_law_1338 ⟨by omega, by omega⟩) (fun r7 F3 H locs hp7 hI => ?_)
  obtain ⟨rfl, rfl⟩ := hp7
  refine lv_iload hx hb dL_law_1341 (lv_at hl 1 rfl) ?_
  refine lv_icmp_eq (tgt := 1348) hx hb dL_law_1343 (by decide) (fun hq4 => ?_) (fun hq4 => ?_)
  · refine lv_iload hx hb dL_law_1348 (lv_at hl 1 rfl) ?_
    refine lv_if_ne (tgt := 1365) hx hb dL_law_1350 (by decide) (fun hq5 => ?_) (fun hq5 => ?_)
    · have hno := zTh_n hz1 hq5
      refine lv_goto (tgt := 3367) hx hb dL_law_1365 (by decide) ?_
      refine W.widen (k := cells + 40) (n := slots + 600) (by omega) (by omega) ?_
      exact kk _ _ _ _ _ _ (lv_sub hl [2, 3, 4, 5, 6, 7] rfl) (zLI_end hC1 ha1 hD1 hM2 hf2 ((hn2 hno).trans (hn1 hno).symm) (by rw [hn1 hno]; exact hW)) hI
    · have hok := zTh_0 hz1 hq5
      obtain ⟨hs1, hv1⟩ := hy1 hok
      obtain ⟨hs2, hv2⟩ := hy2 hok
      have hv : fo1 0 = r6.toInt64 := hv1.trans (congrArg Int32.toInt64 hv2.symm)
      refine lv_aload_n hx hb dL_law_1353 rfl (lv_at hl 5 rfl) ?_
      refine lv_iconst (v := nI 0) hx hb dL_law_1354 (by decide) ?_
      refine z_lld (k := 0) hx hb hI hb2 (by decide) (by decide) dL_law_1355 ?_
      refine lv_iload hx hb dL_law_1356 (lv_at hl 0 rfl) ?_
      refine lv_i2l hx hb dL_law_1358 rfl ?_
      refine W.lcmp hx hb dL_law_1359 ?_
      refine lv_if_eq (tgt := 1365) hx hb dL_law_1360 (by decide) (fun hq6 => ?_) (fun hq6 => ?_)
      · refine lv_goto (tgt := 3367) hx hb dL_law_1365 (by decide) ?_
        refine W.widen (k := cells + 40) (n := slots + 600) (by omega) (by omega) ?_
        exact kk _ _ _ _ _ _ (lv_sub hl [2, 3, 4, 5, 6, 7] rfl) (zLI_end hC1 ha1 hD1 hM2 hf2 (hs2.trans hs1.symm) (by rw [hs1]; exact wk_find hK hW hok.1 hok.2.1)) hI
      · exact absurd (by rw [hv]; exact lg_self) hq6
  · exact absurd (zTh_eq hz2 hz1) hq4

set_option maxHeartbeats 4000000 in
set_option maxRecDepth 100000 in
theorem w_findLast {p : Program} {l : Launch} {e : Env} {s : State} {m : MethodId} {below : List Frame} {meth : Method} {c : Code} {b L B0 : Nat} {xs : Nat → Int32} {G : zK} {Q : State → Prop} {cells slots : Nat} {i : Nat} {ls : Array Slot} {H : Heap} {locs : List Loc} {F : zM} {σ : Sg} {th : Int32} (K : zCtx p s m c b L B0 xs) (hl0 : l.stackTraces = false) (hi : i + 5 ≤ L) (hRc : cells + 40 ≤ room_1.cells) (hRs : slots + 600 ≤ room_1.slots) (hl : lv_has ls 9 (zLv b B0 i)) (hJ : zLI G B0 F σ th) (hI : zI G B0 s H locs F)
    (kk : ∀ (ls : Array Slot) (H : Heap) (locs : List Loc) (F : zM) (σ : Sg) (th : Int32), lv_has ls 9 (zLv b B0 i) → zLI G B0 F σ th → zI G B0 s H locs F → W p l e room_1 s m #[Value.ref b] below meth c H locs (cells + 40) (slots + 600) Q (F0 m 3367 ls [])) : W p l e room_1 s m #[Value.ref b] below meth c H locs cells slots Q (F0 m 1368 ls []) := by
  obtain ⟨hx, hb, hml, hown, hts, hX, hbB, hsz, hL⟩ := K
  obtain ⟨hC, hM, hW, ⟨fo, hO⟩, fd, hD⟩ := hJ
  have hK := hC.ok hW
  have hl : lv_has ls 9 [(0, .ref b), (1, .ref B0), (2, .ref (B0 + 23)), (3, .ref (B0 + 41)), (4, .ref (B0 + 42)), (5, .int (nI i))] := hl
  refine lv_aload_n hx hb dL_law_1368 rfl (lv_at hl 1 rfl) ?_
  refine lv_aload_n hx hb dL_law_1369 rfl (lv_at hl 0 rfl) ?_
  refine lv_iload hx hb dL_law_1370 (lv_at hl 5 rfl) ?_
  refine lv_iconst (v := nI 1) hx hb dL_law_1372 (by decide) ?_
  refine lv_iadd hx hb dL_law_1373 ?_
  refine z_topi (nI_add i 1) ?_
  refine z_sld (k := i + 1) hx hb hI hX hbB hsz hL (by omega) dL_law_1374 ?_
  refine lv_aload_n hx hb dL_law_1375 rfl (lv_at hl 3 rfl) ?_
  refine z_calli hI (z_H (As := [.ref B0, .int (xs (i + 1)), .ref (B0 + 41)]) (rest := []) ⟨hx, hb, hml, hown, hts⟩ hI (c_L_findLast l hl0 G B0 F σ (xs (i + 1)) fo hC hK hO) (z_cwH vL_findLast hts q335 ⟨Nat.le_of_ble_eq_true rfl, Nat.le_of_ble_eq_true rfl⟩) rfl hl.1 rfl (lv_room (Nat.le_of_ble_eq_true rfl)) dL_law_1376 ⟨by omega, by omega⟩) (fun r5 F1 H locs hp5 hI => ?_)
  obtain ⟨hz1, ⟨σ1, fo1, hC1, ha1, hy1, hn1⟩, hf1⟩ := hp5
  have hM1 : MS G B0 F1 σ th := hM.goB (fun q h1 h2 => hf1 q h1 (by omega))
  have hD1 := (hf1 (B0 + 42) (by omega) (by omega)).trans hD
  refine lv_istore (lv' := [(6, .int r5), (0, .ref b), (1, .ref B0), (2, .ref (B0 + 23)), (3, .ref (B0 + 41)), (4, .ref (B0 + 42)), (5, .int (nI i))]) hx hb dL_law_1379 hl (by decide) rfl (fun ls hl => ?_)
  refine lv_aload_n hx hb dL_law_1381 rfl (lv_at hl 3 rfl) ?_
  refine lv_aload_n hx hb dL_law_1382 rfl (lv_at hl 1 rfl) ?_
  refine lv_iload hx hb dL_law_1383 (lv_at hl 6 rfl) ?_
  refine lv_iconst (v := nI 1) hx hb dL_law_1385 (by decide) ?_
  refine lv_iadd hx hb dL_law_1386 ?_
  refine z_topi (nI_add i 1) ?_
  refine z_sld (k := i + 1) hx hb hI hX hbB hsz hL (by omega) dL_law_1387 ?_
  refine z_calli hI (z_V (As := [.int (xs (i + 1))]) (rest := []) ⟨hx, hb, hml, hown, hts⟩ hI hM1.1 rfl (c_X4_findLast l G B0 F1 σ th (xs (i + 1)) hM1 hK) (z_cwV vX4_findLast hts q899 ⟨Nat.le_of_ble_eq_true rfl, Nat.le_of_ble_eq_true rfl⟩) rfl hl.1 rfl (lv_room (Nat.le_of_ble_eq_true rfl)) dL_law_1388 ⟨by omega, by omega⟩) (fun r6 F2 H locs hp6 hI => ?_)
  obtain ⟨th2, σ2, hM2, hz2, hy2, hn2, hf2⟩ := hp6
  have hb2 := (hf2 (B0 + 41) (Or.inr (by omega))).trans ha1
  refine lv_istore (lv' := [(7, .int r6), (6, .int r5), (0, .ref b), (1, .ref B0), (2, .ref (B0 + 23)), (3, .ref (B0 + 41)), (4, .ref (B0 + 42)), (5, .int (nI i))]) hx hb dL_law_1391 hl (by decide) rfl (fun ls hl => ?_)
  refine lv_aload_n hx hb dL_law_1393 rfl (lv_at hl 4 rfl) ?_
  refine z_calli hI (z_V (As := []) (rest := []) ⟨hx, hb, hml, hown, hts⟩ hI hM2.1 rfl (c_X4_thrown l G B0 F2 σ2 th2 hM2) (z_cwV vX4_thrown hts q726 ⟨Nat.le_of_ble_eq_true rfl, Nat.le_of_ble_eq_true rfl⟩) rfl hl.1 rfl (lv_room (Nat.le_of_ble_eq_true rfl)) dL_law_1394 ⟨by omega, by omega⟩) (fun r7 F3 H locs hp7 hI => ?_)
  obtain ⟨rfl, rfl⟩ := hp7
  refine lv_iload hx hb dL_law_1397 (lv_at hl 1 rfl) ?_
  refine lv_icmp_eq (tgt := 1404) hx hb dL_law_1399 (by decide) (fun hq4 => ?_) (fun hq4 => ?_)
  · refine lv_iload hx hb dL_law_1404 (lv_at hl 1 rfl) ?_
    refine lv_if_ne (tgt := 1421) hx hb dL_law_1406 (by decide) (fun hq5 => ?_) (fun hq5 => ?_)
    · have hno := zTh_n hz1 hq5
      refine lv_goto (tgt := 3367) hx hb dL_law_1421 (by decide) ?_
      refine W.widen (k := cells + 40) (n := slots + 600) (by omega) (by omega) ?_
      exact kk _ _ _ _ _ _ (lv_sub hl [2, 3, 4, 5, 6, 7] rfl) (zLI_end hC1 ha1 hD1 hM2 hf2 ((hn2 hno).trans (hn1 hno).symm) (by rw [hn1 hno]; exact hW)) hI
    · have hok := zTh_0 hz1 hq5
      obtain ⟨hs1, hv1⟩ := hy1 hok
      obtain ⟨hs2, hv2⟩ := hy2 hok
      have hv : fo1 0 = r6.toInt64 := hv1.trans (congrArg Int32.toInt64 hv2.symm)
      refine lv_aload_n hx hb dL_law_1409 rfl (lv_at hl 5 rfl) ?_
      refine lv_iconst (v := nI 0) hx hb dL_law_1410 (by decide) ?_
      refine z_lld (k := 0) hx hb hI hb2 (by decide) (by decide) dL_law_1411 ?_
      refine lv_iload hx hb dL_law_1412 (lv_at hl 0 rfl) ?_
      refine lv_i2l hx hb dL_law_1414 rfl ?_
      refine W.lcmp hx hb dL_law_1415 ?_
      refine lv_if_eq (tgt := 1421) hx hb dL_law_1416 (by decide) (fun hq6 => ?_) (fun hq6 => ?_)
      · refine lv_goto (tgt := 3367) hx hb dL_law_1421 (by decide) ?_
        refine W.widen (k := cells + 40) (n := slots + 600) (by omega) (by omega) ?_
        exact kk _ _ _ _ _ _ (lv_sub hl [2, 3, 4, 5, 6, 7] rfl) (zLI_end hC1 ha1 hD1 hM2 hf2 (hs2.trans hs1.symm) (by rw [hs1]; exact wk_findLast hK hW hok.1 hok.2.1)) hI
      · exact absurd (by rw [hv]; exact lg_self) hq6
  · exact absurd (zTh_eq hz2 hz1) hq4

set_option maxHeartbeats 4000000 in
set_option maxRecDepth 100000 in
theorem w_findIn {p : Program} {l : Launch} {e : Env} {s : State} {m : MethodId} {below : List Frame} {meth : Method} {c : Code} {b L B0 : Nat} {xs : Nat → Int32} {G : zK} {Q : State → Prop} {cells slots : Nat} {i : Nat} {ls : Array Slot} {H : Heap} {locs : List Loc} {F : zM} {σ : Sg} {th : Int32} (K : zCtx p s m c b L B0 xs) (hl0 : l.stackTraces = false) (hi : i + 5 ≤ L) (hRc : cells + 40 ≤ room_1.cells) (hRs : slots + 600 ≤ room_1.slots) (hl : lv_has ls 9 (zLv b B0 i)) (hJ : zLI G B0 F σ th) (hI : zI G B0 s H locs F)
    (kk : ∀ (ls : Array Slot) (H : Heap) (locs : List Loc) (F : zM) (σ : Sg) (th : Int32), lv_has ls 9 (zLv b B0 i) → zLI G B0 F σ th → zI G B0 s H locs F → W p l e room_1 s m #[Value.ref b] below meth c H locs (cells + 40) (slots + 600) Q (F0 m 3367 ls [])) : W p l e room_1 s m #[Value.ref b] below meth c H locs cells slots Q (F0 m 1424 ls []) := by
  obtain ⟨hx, hb, hml, hown, hts, hX, hbB, hsz, hL⟩ := K
  obtain ⟨hC, hM, hW, ⟨fo, hO⟩, fd, hD⟩ := hJ
  have hK := hC.ok hW
  have hl : lv_has ls 9 [(0, .ref b), (1, .ref B0), (2, .ref (B0 + 23)), (3, .ref (B0 + 41)), (4, .ref (B0 + 42)), (5, .int (nI i))] := hl
  refine lv_aload_n hx hb dL_law_1424 rfl (lv_at hl 1 rfl) ?_
  refine lv_aload_n hx hb dL_law_1425 rfl (lv_at hl 0 rfl) ?_
  refine lv_iload hx hb dL_law_1426 (lv_at hl 5 rfl) ?_
  refine lv_iconst (v := nI 1) hx hb dL_law_1428 (by decide) ?_
  refine lv_iadd hx hb dL_law_1429 ?_
  refine z_topi (nI_add i 1) ?_
  refine z_sld (k := i + 1) hx hb hI hX hbB hsz hL (by omega) dL_law_1430 ?_
  refine lv_aload_n hx hb dL_law_1431 rfl (lv_at hl 0 rfl) ?_
  refine lv_iload hx hb dL_law_1432 (lv_at hl 5 rfl) ?_
  refine lv_iconst (v := nI 2) hx hb dL_law_1434 (by decide) ?_
  refine lv_iadd hx hb dL_law_1435 ?_
  refine z_topi (nI_add i 2) ?_
  refine z_sld (k := i + 2) hx hb hI hX hbB hsz hL (by omega) dL_law_1436 ?_
  refine lv_aload_n hx hb dL_law_1437 rfl (lv_at hl 0 rfl) ?_
  refine lv_iload hx hb dL_law_1438 (lv_at hl 5 rfl) ?_
  refine lv_iconst (v := nI 3) hx hb dL_law_1440 (by decide) ?_
  refine lv_iadd hx hb dL_law_1441 ?_
  refine z_topi (nI_add i 3) ?_
  refine z_sld (k := i + 3) hx hb hI hX hbB hsz hL (by omega) dL_law_1442 ?_
  refine lv_aload_n hx hb dL_law_1443 rfl (lv_at hl 3 rfl) ?_
  refine z_calli hI (z_H (As := [.ref B0, .int (xs (i + 1)), .int (xs (i + 2)), .int (xs (i + 3)), .ref (B0 + 41)]) (rest := []) ⟨hx, hb, hml, hown, hts⟩ hI (c_L_findIn l hl0 G B0 F σ (xs (i + 1)) (xs (i + 2)) (xs (i + 3)) fo hC hK hO) (z_cwH vL_findIn hts q346 ⟨Nat.le_of_ble_eq_true rfl, Nat.le_of_ble_eq_true rfl⟩) rfl hl.1 rfl (lv_room (Nat.le_of_ble_eq_true rfl)) dL_law_1444 ⟨by omega, by omega⟩) (fun r5 F1 H locs hp5 hI => ?_)
  obtain ⟨hz1, ⟨σ1, fo1, hC1, ha1, hy1, hn1⟩, hf1⟩ := hp5
  have hM1 : MS G B0 F1 σ th := hM.goB (fun q h1 h2 => hf1 q h1 (by omega))
  have hD1 := (hf1 (B0 + 42) (by omega) (by omega)).trans hD
  refine lv_istore (lv' := [(6, .int r5), (0, .ref b), (1, .ref B0), (2, .ref (B0 + 23)), (3, .ref (B0 + 41)), (4, .ref (B0 + 42)), (5, .int (nI i))]) hx hb dL_law_1447 hl (by decide) rfl (fun ls hl => ?_)
  refine lv_aload_n hx hb dL_law_1449 rfl (lv_at hl 3 rfl) ?_
  refine lv_aload_n hx hb dL_law_1450 rfl (lv_at hl 1 rfl) ?_
  refine lv_iload hx hb dL_law_1451 (lv_at hl 6 rfl) ?_
  refine lv_iconst (v := nI 1) hx hb dL_law_1453 (by decide) ?_
  refine lv_iadd hx hb dL_law_1454 ?_
  refine z_topi (nI_add i 1) ?_
  refine z_sld (k := i + 1) hx hb hI hX hbB hsz hL (by omega) dL_law_1455 ?_
  refine lv_aload_n hx hb dL_law_1456 rfl (lv_at hl 1 rfl) ?_
  refine lv_iload hx hb dL_law_1457 (lv_at hl 6 rfl) ?_
  refine lv_iconst (v := nI 2) hx hb dL_law_1459 (by decide) ?_
  refine lv_iadd hx hb dL_law_1460 ?_
  refine z_topi (nI_add i 2) ?_
  refine z_sld (k := i + 2) hx hb hI hX hbB hsz hL (by omega) dL_law_1461 ?_
  refine lv_aload_n hx hb dL_law_1462 rfl (lv_at hl 1 rfl) ?_
  refine lv_iload hx hb dL_law_1463 (lv_at hl 6 rfl) ?_
  refine lv_iconst (v := nI 3) hx hb dL_law_1465 (by decide) ?_
  refine lv_iadd hx hb dL_law_1466 ?_
  refine z_topi (nI_add i 3) ?_
  refine z_sld (k := i + 3) hx hb hI hX hbB hsz hL (by omega) dL_law_1467 ?_
  refine z_calli hI (z_V (As := [.int (xs (i + 1)), .int (xs (i + 2)), .int (xs (i + 3))]) (rest := []) ⟨hx, hb, hml, hown, hts⟩ hI hM1.1 rfl (c_X4_findIn l G B0 F1 σ th (xs (i + 1)) (xs (i + 2)) (xs (i + 3)) hM1 hK) (z_cwV vX4_findIn hts q904 ⟨Nat.le_of_ble_eq_true rfl, Nat.le_of_ble_eq_true rfl⟩) rfl hl.1 rfl (lv_room (Nat.le_of_ble_eq_true rfl)) dL_law_1468 ⟨by omega, by omega⟩) (fun r6 F2 H locs hp6 hI => ?_)
  obtain ⟨th2, σ2, hM2, hz2, hy2, hn2, hf2⟩ := hp6
  have hb2 := (hf2 (B0 + 41) (Or.inr (by omega))).trans ha1
  refine lv_istore (lv' := [(7, .int r6), (6, .int r5), (0, .ref b), (1, .ref B0), (2, .ref (B0 + 23)), (3, .ref (B0 + 41)), (4, .ref (B0 + 42)), (5, .int (nI i))]) hx hb dL_law_1471 hl (by decide) rfl (fun ls hl => ?_)
  refine lv_aload_n hx hb dL_law_1473 rfl (lv_at hl 4 rfl) ?_
  refine z_calli hI (z_V (As := []) (rest := []) ⟨hx, hb, hml, hown, hts⟩ hI hM2.1 rfl (c_X4_thrown l G B0 F2 σ2 th2 hM2) (z_cwV vX4_thrown hts q726 ⟨Nat.le_of_ble_eq_true rfl, Nat.le_of_ble_eq_true rfl⟩) rfl hl.1 rfl (lv_room (Nat.le_of_ble_eq_true rfl)) dL_law_1474 ⟨by omega, by omega⟩) (fun r7 F3 H locs hp7 hI => ?_)
  obtain ⟨rfl, rfl⟩ := hp7
  refine lv_iload hx hb dL_law_1477 (lv_at hl 1 rfl) ?_
  refine lv_icmp_eq (tgt := 1484) hx hb dL_law_1479 (by decide) (fun hq4 => ?_) (fun hq4 => ?_)
  · refine lv_iload hx hb dL_law_1484 (lv_at hl 1 rfl) ?_
    refine lv_if_ne (tgt := 1501) hx hb dL_law_1486 (by decide) (fun hq5 => ?_) (fun hq5 => ?_)
    · have hno := zTh_n hz1 hq5
      refine lv_goto (tgt := 3367) hx hb dL_law_1501 (by decide) ?_
      refine W.widen (k := cells + 40) (n := slots + 600) (by omega) (by omega) ?_
      exact kk _ _ _ _ _ _ (lv_sub hl [2, 3, 4, 5, 6, 7] rfl) (zLI_end hC1 ha1 hD1 hM2 hf2 ((hn2 hno).trans (hn1 hno).symm) (by rw [hn1 hno]; exact hW)) hI
    · have hok := zTh_0 hz1 hq5
      obtain ⟨hs1, hv1⟩ := hy1 hok
      obtain ⟨hs2, hv2⟩ := hy2 hok
      have hv : fo1 0 = r6.toInt64 := hv1.trans (congrArg Int32.toInt64 hv2.symm)
      refine lv_aload_n hx hb dL_law_1489 rfl (lv_at hl 5 rfl) ?_
      refine lv_iconst (v := nI 0) hx hb dL_law_1490 (by decide) ?_
      refine z_lld (k := 0) hx hb hI hb2 (by decide) (by decide) dL_law_1491 ?_
      refine lv_iload hx hb dL_law_1492 (lv_at hl 0 rfl) ?_
      refine lv_i2l hx hb dL_law_1494 rfl ?_
      refine W.lcmp hx hb dL_law_1495 ?_
      refine lv_if_eq (tgt := 1501) hx hb dL_law_1496 (by decide) (fun hq6 => ?_) (fun hq6 => ?_)
      · refine lv_goto (tgt := 3367) hx hb dL_law_1501 (by decide) ?_
        refine W.widen (k := cells + 40) (n := slots + 600) (by omega) (by omega) ?_
        exact kk _ _ _ _ _ _ (lv_sub hl [2, 3, 4, 5, 6, 7] rfl) (zLI_end hC1 ha1 hD1 hM2 hf2 (hs2.trans hs1.symm) (by rw [hs1]; exact wk_findIn hK hW hok.1 hok.2.1)) hI
      · exact absurd (by rw [hv]; exact lg_self) hq6
  · exact absurd (zTh_eq hz2 hz1) hq4

set_option maxHeartbeats 4000000 in
set_option maxRecDepth 100000 in
theorem w_count {p : Program} {l : Launch} {e : Env} {s : State} {m : MethodId} {below : List Frame} {meth : Method} {c : Code} {b L B0 : Nat} {xs : Nat → Int32} {G : zK} {Q : State → Prop} {cells slots : Nat} {i : Nat} {ls : Array Slot} {H : Heap} {locs : List Loc} {F : zM} {σ : Sg} {th : Int32} (K : zCtx p s m c b L B0 xs) (hl0 : l.stackTraces = false) (hi : i + 5 ≤ L) (hRc : cells + 40 ≤ room_1.cells) (hRs : slots + 600 ≤ room_1.slots) (hl : lv_has ls 9 (zLv b B0 i)) (hJ : zLI G B0 F σ th) (hI : zI G B0 s H locs F)
    (kk : ∀ (ls : Array Slot) (H : Heap) (locs : List Loc) (F : zM) (σ : Sg) (th : Int32), lv_has ls 9 (zLv b B0 i) → zLI G B0 F σ th → zI G B0 s H locs F → W p l e room_1 s m #[Value.ref b] below meth c H locs (cells + 40) (slots + 600) Q (F0 m 3367 ls [])) : W p l e room_1 s m #[Value.ref b] below meth c H locs cells slots Q (F0 m 1504 ls []) := by
  obtain ⟨hx, hb, hml, hown, hts, hX, hbB, hsz, hL⟩ := K
  obtain ⟨hC, hM, hW, ⟨fo, hO⟩, fd, hD⟩ := hJ
  have hK := hC.ok hW
  have hl : lv_has ls 9 [(0, .ref b), (1, .ref B0), (2, .ref (B0 + 23)), (3, .ref (B0 + 41)), (4, .ref (B0 + 42)), (5, .int (nI i))] := hl
  refine lv_aload_n hx hb dL_law_1504 rfl (lv_at hl 1 rfl) ?_
  refine lv_aload_n hx hb dL_law_1505 rfl (lv_at hl 0 rfl) ?_
  refine lv_iload hx hb dL_law_1506 (lv_at hl 5 rfl) ?_
  refine lv_iconst (v := nI 1) hx hb dL_law_1508 (by decide) ?_
  refine lv_iadd hx hb dL_law_1509 ?_
  refine z_topi (nI_add i 1) ?_
  refine z_sld (k := i + 1) hx hb hI hX hbB hsz hL (by omega) dL_law_1510 ?_
  refine lv_aload_n hx hb dL_law_1511 rfl (lv_at hl 0 rfl) ?_
  refine lv_iload hx hb dL_law_1512 (lv_at hl 5 rfl) ?_
  refine lv_iconst (v := nI 2) hx hb dL_law_1514 (by decide) ?_
  refine lv_iadd hx hb dL_law_1515 ?_
  refine z_topi (nI_add i 2) ?_
  refine z_sld (k := i + 2) hx hb hI hX hbB hsz hL (by omega) dL_law_1516 ?_
  refine z_join (σ := Int32) (fun xj : Int32 => [(0, .ref b), (1, .ref B0), (2, .ref (B0 + 23)), (3, .ref (B0 + 41)), (4, .ref (B0 + 42)), (5, .int (nI i))]) (fun xj : Int32 => [.int xj, .int (xs (i + 1)), .ref B0]) (fun (xj : Int32) (Fx : zM) => F = Fx ∧ xj = pI (¬ xs (i + 2) = 0)) 1525 9 G B0 ?_ (fun jn1525 => ?_)
  · intro xj F1 ls H locs hi hl hI
    have hl : lv_has ls 9 [(0, .ref b), (1, .ref B0), (2, .ref (B0 + 23)), (3, .ref (B0 + 41)), (4, .ref (B0 + 42)), (5, .int (nI i))] := hl
    obtain ⟨hF, hx9⟩ := hi
    subst hF
    subst hx9
    refine lv_aload_n hx hb dL_law_1525 rfl (lv_at hl 3 rfl) ?_
    refine z_calli hI (z_H (As := [.ref B0, .int (xs (i + 1)), .int (pI (¬ xs (i + 2) = 0)), .ref (B0 + 41)]) (rest := []) ⟨hx, hb, hml, hown, hts⟩ hI (c_L_count l hl0 G B0 F σ (xs (i + 1)) (pI (¬ xs (i + 2) = 0)) fo hC hK hO) (z_cwH vL_count hts q353 ⟨Nat.le_of_ble_eq_true rfl, Nat.le_of_ble_eq_true rfl⟩) rfl hl.1 rfl (lv_room (Nat.le_of_ble_eq_true rfl)) dL_law_1526 ⟨by omega, by omega⟩) (fun r5 F2 H locs hp5 hI => ?_)
    obtain ⟨hz1, ⟨σ1, fo1, hC1, ha1, hy1, hn1⟩, hf1⟩ := hp5
    have hM1 : MS G B0 F2 σ th := hM.goB (fun q h1 h2 => hf1 q h1 (by omega))
    have hD1 := (hf1 (B0 + 42) (by omega) (by omega)).trans hD
    refine lv_istore (lv' := [(6, .int r5), (0, .ref b), (1, .ref B0), (2, .ref (B0 + 23)), (3, .ref (B0 + 41)), (4, .ref (B0 + 42)), (5, .int (nI i))]) hx hb dL_law_1529 hl (by decide) rfl (fun ls hl => ?_)
    refine lv_aload_n hx hb dL_law_1531 rfl (lv_at hl 3 rfl) ?_
    refine lv_aload_n hx hb dL_law_1532 rfl (lv_at hl 1 rfl) ?_
    refine lv_iload hx hb dL_law_1533 (lv_at hl 6 rfl) ?_
    refine lv_iconst (v := nI 1) hx hb dL_law_1535 (by decide) ?_
    refine lv_iadd hx hb dL_law_1536 ?_
    refine z_topi (nI_add i 1) ?_
    refine z_sld (k := i + 1) hx hb hI hX hbB hsz hL (by omega) dL_law_1537 ?_
    refine lv_aload_n hx hb dL_law_1538 rfl (lv_at hl 1 rfl) ?_
    refine lv_iload hx hb dL_law_1539 (lv_at hl 6 rfl) ?_
    refine lv_iconst (v := nI 2) hx hb dL_law_1541 (by decide) ?_
    refine lv_iadd hx hb dL_law_1542 ?_
    refine z_topi (nI_add i 2) ?_
    refine z_sld (k := i + 2) hx hb hI hX hbB hsz hL (by omega) dL_law_1543 ?_
    refine z_join (σ := Int32) (fun xj : Int32 => [(6, .int r5), (0, .ref b), (1, .ref B0), (2, .ref (B0 + 23)), (3, .ref (B0 + 41)), (4, .ref (B0 + 42)), (5, .int (nI i))]) (fun xj : Int32 => [.int xj, .int (xs (i + 1)), .ref (B0 + 23)]) (fun (xj : Int32) (Fx : zM) => F2 = Fx ∧ xj = pI (¬ xs (i + 2) = 0)) 1552 9 G B0 ?_ (fun jn1552 => ?_)
    · intro xj F3 ls H locs hi hl hI
      have hl : lv_has ls 9 [(6, .int r5), (0, .ref b), (1, .ref B0), (2, .ref (B0 + 23)), (3, .ref (B0 + 41)), (4, .ref (B0 + 42)), (5, .int (nI i))] := hl
      obtain ⟨hF, hx9⟩ := hi
      subst hF
      subst hx9
      refine z_calli hI (z_V (As := [.int (xs (i + 1)), .int (pI (¬ xs (i + 2) = 0))]) (rest := []) ⟨hx, hb, hml, hown, hts⟩ hI hM1.1 rfl (c_X4_count l G B0 F2 σ th (xs (i + 1)) (pI (¬ xs (i + 2) = 0)) hM1 hK pI_or) (z_cwV vX4_count hts q908 ⟨Nat.le_of_ble_eq_true rfl, Nat.le_of_ble_eq_true rfl⟩) rfl hl.1 rfl (lv_room (Nat.le_of_ble_eq_true rfl)) dL_law_1552 ⟨by omega, by omega⟩) (fun r6 F4 H locs hp6 hI => ?_)
      obtain ⟨th2, σ2, hM2, hz2, hy2, hn2, hf2⟩ := hp6
      have hb2 := (hf2 (B0 + 41) (Or.inr (by omega))).trans ha1
      refine lv_istore (lv' := [(7, .int r6), (6, .int r5), (0, .ref b), (1, .ref B0), (2, .ref (B0 + 23)), (3, .ref (B0 + 41)), (4, .ref (B0 + 42)), (5, .int (nI i))]) hx hb dL_law_1555 hl (by decide) rfl (fun ls hl => ?_)
      refine lv_aload_n hx hb dL_law_1557 rfl (lv_at hl 4 rfl) ?_
      refine z_calli hI (z_V (As := []) (rest := []) ⟨hx, hb, hml, hown, hts⟩ hI hM2.1 rfl (c_X4_thrown l G B0 F4 σ2 th2 hM2) (z_cwV vX4_thrown hts q726 ⟨Nat.le_of_ble_eq_true rfl, Nat.le_of_ble_eq_true rfl⟩) rfl hl.1 rfl (lv_room (Nat.le_of_ble_eq_true rfl)) dL_law_1558 ⟨by omega, by omega⟩) (fun r7 F5 H locs hp7 hI => ?_)
      obtain ⟨rfl, rfl⟩ := hp7
      refine lv_iload hx hb dL_law_1561 (lv_at hl 1 rfl) ?_
      refine lv_icmp_eq (tgt := 1568) hx hb dL_law_1563 (by decide) (fun hq6 => ?_) (fun hq6 => ?_)
      · refine lv_iload hx hb dL_law_1568 (lv_at hl 1 rfl) ?_
        refine lv_if_ne (tgt := 1585) hx hb dL_law_1570 (by decide) (fun hq7 => ?_) (fun hq7 => ?_)
        · have hno := zTh_n hz1 hq7
          refine lv_goto (tgt := 3367) hx hb dL_law_1585 (by decide) ?_
          refine W.widen (k := cells + 40) (n := slots + 600) (by omega) (by omega) ?_
          exact kk _ _ _ _ _ _ (lv_sub hl [2, 3, 4, 5, 6, 7] rfl) (zLI_end hC1 ha1 hD1 hM2 hf2 ((hn2 hno).trans (hn1 hno).symm) (by rw [hn1 hno]; exact hW)) hI
        · have hok := zTh_0 hz1 hq7
          obtain ⟨hs1, hv1⟩ := hy1 hok
          obtain ⟨hs2, hv2⟩ := hy2 hok
          have hv : fo1 0 = r6.toInt64 := hv1.trans (congrArg Int32.toInt64 hv2.symm)
          refine lv_aload_n hx hb dL_law_1573 rfl (lv_at hl 5 rfl) ?_
          refine lv_iconst (v := nI 0) hx hb dL_law_1574 (by decide) ?_
          refine z_lld (k := 0) hx hb hI hb2 (by decide) (by decide) dL_law_1575 ?_
          refine lv_iload hx hb dL_law_1576 (lv_at hl 0 rfl) ?_
          refine lv_i2l hx hb dL_law_1578 rfl ?_
          refine W.lcmp hx hb dL_law_1579 ?_
          refine lv_if_eq (tgt := 1585) hx hb dL_law_1580 (by decide) (fun hq8 => ?_) (fun hq8 => ?_)
          · refine lv_goto (tgt := 3367) hx hb dL_law_1585 (by decide) ?_
            refine W.widen (k := cells + 40) (n := slots + 600) (by omega) (by omega) ?_
            exact kk _ _ _ _ _ _ (lv_sub hl [2, 3, 4, 5, 6, 7] rfl) (zLI_end hC1 ha1 hD1 hM2 hf2 (hs2.trans hs1.symm) (by rw [hs1]; exact wk_count hK hW hok.1 hok.2.1)) hI
          · exact absurd (by rw [hv]; exact lg_self) hq8
      · exact absurd (zTh_eq hz2 hz1) hq6
    · refine lv_if_eq (tgt := 1551) hx hb dL_law_1544 (by decide) (fun hq9 => ?_) (fun hq9 => ?_)
      · refine lv_iconst (v := nI 0) hx hb dL_law_1551 (by decide) ?_
        refine jn1552 (nI 0) _ ls H locs ?_ (lv_sub hl [0, 1, 2, 3, 4, 5, 6] rfl) hI
        exact ⟨rfl, pI_f (fun z => z hq9)⟩
      · refine lv_iconst (v := nI 1) hx hb dL_law_1547 (by decide) ?_
        refine lv_goto (tgt := 1552) hx hb dL_law_1548 (by decide) ?_
        refine jn1552 (nI 1) _ ls H locs ?_ (lv_sub hl [0, 1, 2, 3, 4, 5, 6] rfl) hI
        exact ⟨rfl, pI_t hq9⟩
  · refine lv_if_eq (tgt := 1524) hx hb dL_law_1517 (by decide) (fun hq10 => ?_) (fun hq10 => ?_)
    · refine lv_iconst (v := nI 0) hx hb dL_law_1524 (by decide) ?_
      refine jn1525 (nI 0) _ ls H locs ?_ (lv_sub hl [0, 1, 2, 3, 4, 5] rfl) hI
      exact ⟨rfl, pI_f (fun z => z hq10)⟩
    · refine lv_iconst (v := nI 1) hx hb dL_law_1520 (by decide) ?_
      refine lv_goto (tgt := 1525) hx hb dL_law_1521 (by decide) ?_
      refine jn1525 (nI 1) _ ls H locs ?_ (lv_sub hl [0, 1, 2, 3, 4, 5] rfl) hI
      exact ⟨rfl, pI_t hq10⟩

set_option maxHeartbeats 4000000 in
set_option maxRecDepth 100000 in
theorem w_replace {p : Program} {l : Launch} {e : Env} {s : State} {m : MethodId} {below : List Frame} {meth : Method} {c : Code} {b L B0 : Nat} {xs : Nat → Int32} {G : zK} {Q : State → Prop} {cells slots : Nat} {i : Nat} {ls : Array Slot} {H : Heap} {locs : List Loc} {F : zM} {σ : Sg} {th : Int32} (K : zCtx p s m c b L B0 xs) (hl0 : l.stackTraces = false) (hi : i + 5 ≤ L) (hRc : cells + 40 ≤ room_1.cells) (hRs : slots + 600 ≤ room_1.slots) (hl : lv_has ls 9 (zLv b B0 i)) (hJ : zLI G B0 F σ th) (hI : zI G B0 s H locs F)
    (kk : ∀ (ls : Array Slot) (H : Heap) (locs : List Loc) (F : zM) (σ : Sg) (th : Int32), lv_has ls 9 (zLv b B0 i) → zLI G B0 F σ th → zI G B0 s H locs F → W p l e room_1 s m #[Value.ref b] below meth c H locs (cells + 40) (slots + 600) Q (F0 m 3367 ls [])) : W p l e room_1 s m #[Value.ref b] below meth c H locs cells slots Q (F0 m 1588 ls []) := by
  obtain ⟨hx, hb, hml, hown, hts, hX, hbB, hsz, hL⟩ := K
  obtain ⟨hC, hM, hW, ⟨fo, hO⟩, fd, hD⟩ := hJ
  have hK := hC.ok hW
  have hl : lv_has ls 9 [(0, .ref b), (1, .ref B0), (2, .ref (B0 + 23)), (3, .ref (B0 + 41)), (4, .ref (B0 + 42)), (5, .int (nI i))] := hl
  refine lv_aload_n hx hb dL_law_1588 rfl (lv_at hl 1 rfl) ?_
  refine lv_aload_n hx hb dL_law_1589 rfl (lv_at hl 0 rfl) ?_
  refine lv_iload hx hb dL_law_1590 (lv_at hl 5 rfl) ?_
  refine lv_iconst (v := nI 1) hx hb dL_law_1592 (by decide) ?_
  refine lv_iadd hx hb dL_law_1593 ?_
  refine z_topi (nI_add i 1) ?_
  refine z_sld (k := i + 1) hx hb hI hX hbB hsz hL (by omega) dL_law_1594 ?_
  refine lv_aload_n hx hb dL_law_1595 rfl (lv_at hl 3 rfl) ?_
  refine z_calli hI (z_H (As := [.ref B0, .int (xs (i + 1)), .ref (B0 + 41)]) (rest := []) ⟨hx, hb, hml, hown, hts⟩ hI (c_L_replace l hl0 G B0 F σ (xs (i + 1)) fo hC hK hO) (z_cwH vL_replace hts q368 ⟨Nat.le_of_ble_eq_true rfl, Nat.le_of_ble_eq_true rfl⟩) rfl hl.1 rfl (lv_room (Nat.le_of_ble_eq_true rfl)) dL_law_1596 ⟨by omega, by omega⟩) (fun r5 F1 H locs hp5 hI => ?_)
  obtain ⟨hz1, ⟨σ1, fo1, hC1, ha1, hy1, hn1⟩, hf1⟩ := hp5
  have hM1 : MS G B0 F1 σ th := hM.goB (fun q h1 h2 => hf1 q h1 (by omega))
  have hD1 := (hf1 (B0 + 42) (by omega) (by omega)).trans hD
  refine lv_istore (lv' := [(6, .int r5), (0, .ref b), (1, .ref B0), (2, .ref (B0 + 23)), (3, .ref (B0 + 41)), (4, .ref (B0 + 42)), (5, .int (nI i))]) hx hb dL_law_1599 hl (by decide) rfl (fun ls hl => ?_)
  refine lv_aload_n hx hb dL_law_1601 rfl (lv_at hl 3 rfl) ?_
  refine lv_aload_n hx hb dL_law_1602 rfl (lv_at hl 1 rfl) ?_
  refine lv_iload hx hb dL_law_1603 (lv_at hl 6 rfl) ?_
  refine lv_iconst (v := nI 1) hx hb dL_law_1605 (by decide) ?_
  refine lv_iadd hx hb dL_law_1606 ?_
  refine z_topi (nI_add i 1) ?_
  refine z_sld (k := i + 1) hx hb hI hX hbB hsz hL (by omega) dL_law_1607 ?_
  refine z_calli hI (z_V (As := [.int (xs (i + 1))]) (rest := []) ⟨hx, hb, hml, hown, hts⟩ hI hM1.1 rfl (c_X4_replace l G B0 F1 σ th (xs (i + 1)) hM1 hK) (z_cwV vX4_replace hts q918 ⟨Nat.le_of_ble_eq_true rfl, Nat.le_of_ble_eq_true rfl⟩) rfl hl.1 rfl (lv_room (Nat.le_of_ble_eq_true rfl)) dL_law_1608 ⟨by omega, by omega⟩) (fun r6 F2 H locs hp6 hI => ?_)
  obtain ⟨th2, σ2, hM2, hz2, hy2, hn2, hf2⟩ := hp6
  have hb2 := (hf2 (B0 + 41) (Or.inr (by omega))).trans ha1
  refine lv_istore (lv' := [(7, .int r6), (6, .int r5), (0, .ref b), (1, .ref B0), (2, .ref (B0 + 23)), (3, .ref (B0 + 41)), (4, .ref (B0 + 42)), (5, .int (nI i))]) hx hb dL_law_1611 hl (by decide) rfl (fun ls hl => ?_)
  refine lv_aload_n hx hb dL_law_1613 rfl (lv_at hl 4 rfl) ?_
  refine z_calli hI (z_V (As := []) (rest := []) ⟨hx, hb, hml, hown, hts⟩ hI hM2.1 rfl (c_X4_thrown l G B0 F2 σ2 th2 hM2) (z_cwV vX4_thrown hts q726 ⟨Nat.le_of_ble_eq_true rfl, Nat.le_of_ble_eq_true rfl⟩) rfl hl.1 rfl (lv_room (Nat.le_of_ble_eq_true rfl)) dL_law_1614 ⟨by omega, by omega⟩) (fun r7 F3 H locs hp7 hI => ?_)
  obtain ⟨rfl, rfl⟩ := hp7
  refine lv_iload hx hb dL_law_1617 (lv_at hl 1 rfl) ?_
  refine lv_icmp_eq (tgt := 1624) hx hb dL_law_1619 (by decide) (fun hq4 => ?_) (fun hq4 => ?_)
  · refine lv_iload hx hb dL_law_1624 (lv_at hl 1 rfl) ?_
    refine lv_if_ne (tgt := 1641) hx hb dL_law_1626 (by decide) (fun hq5 => ?_) (fun hq5 => ?_)
    · have hno := zTh_n hz1 hq5
      refine lv_goto (tgt := 3367) hx hb dL_law_1641 (by decide) ?_
      refine W.widen (k := cells + 40) (n := slots + 600) (by omega) (by omega) ?_
      exact kk _ _ _ _ _ _ (lv_sub hl [2, 3, 4, 5, 6, 7] rfl) (zLI_end hC1 ha1 hD1 hM2 hf2 ((hn2 hno).trans (hn1 hno).symm) (by rw [hn1 hno]; exact hW)) hI
    · have hok := zTh_0 hz1 hq5
      obtain ⟨hs1, hv1⟩ := hy1 hok
      obtain ⟨hs2, hv2⟩ := hy2 hok
      have hv : fo1 0 = r6.toInt64 := hv1.trans (congrArg Int32.toInt64 hv2.symm)
      refine lv_aload_n hx hb dL_law_1629 rfl (lv_at hl 5 rfl) ?_
      refine lv_iconst (v := nI 0) hx hb dL_law_1630 (by decide) ?_
      refine z_lld (k := 0) hx hb hI hb2 (by decide) (by decide) dL_law_1631 ?_
      refine lv_iload hx hb dL_law_1632 (lv_at hl 0 rfl) ?_
      refine lv_i2l hx hb dL_law_1634 rfl ?_
      refine W.lcmp hx hb dL_law_1635 ?_
      refine lv_if_eq (tgt := 1641) hx hb dL_law_1636 (by decide) (fun hq6 => ?_) (fun hq6 => ?_)
      · refine lv_goto (tgt := 3367) hx hb dL_law_1641 (by decide) ?_
        refine W.widen (k := cells + 40) (n := slots + 600) (by omega) (by omega) ?_
        exact kk _ _ _ _ _ _ (lv_sub hl [2, 3, 4, 5, 6, 7] rfl) (zLI_end hC1 ha1 hD1 hM2 hf2 (hs2.trans hs1.symm) (by rw [hs1]; exact wk_replace hK hW hok.1 hok.2.1)) hI
      · exact absurd (by rw [hv]; exact lg_self) hq6
  · exact absurd (zTh_eq hz2 hz1) hq4

set_option maxHeartbeats 4000000 in
set_option maxRecDepth 100000 in
theorem w_replaceWord {p : Program} {l : Launch} {e : Env} {s : State} {m : MethodId} {below : List Frame} {meth : Method} {c : Code} {b L B0 : Nat} {xs : Nat → Int32} {G : zK} {Q : State → Prop} {cells slots : Nat} {i : Nat} {ls : Array Slot} {H : Heap} {locs : List Loc} {F : zM} {σ : Sg} {th : Int32} (K : zCtx p s m c b L B0 xs) (hl0 : l.stackTraces = false) (hi : i + 5 ≤ L) (hRc : cells + 40 ≤ room_1.cells) (hRs : slots + 600 ≤ room_1.slots) (hl : lv_has ls 9 (zLv b B0 i)) (hJ : zLI G B0 F σ th) (hI : zI G B0 s H locs F)
    (kk : ∀ (ls : Array Slot) (H : Heap) (locs : List Loc) (F : zM) (σ : Sg) (th : Int32), lv_has ls 9 (zLv b B0 i) → zLI G B0 F σ th → zI G B0 s H locs F → W p l e room_1 s m #[Value.ref b] below meth c H locs (cells + 40) (slots + 600) Q (F0 m 3367 ls [])) : W p l e room_1 s m #[Value.ref b] below meth c H locs cells slots Q (F0 m 1644 ls []) := by
  obtain ⟨hx, hb, hml, hown, hts, hX, hbB, hsz, hL⟩ := K
  obtain ⟨hC, hM, hW, ⟨fo, hO⟩, fd, hD⟩ := hJ
  have hK := hC.ok hW
  have hl : lv_has ls 9 [(0, .ref b), (1, .ref B0), (2, .ref (B0 + 23)), (3, .ref (B0 + 41)), (4, .ref (B0 + 42)), (5, .int (nI i))] := hl
  refine lv_aload_n hx hb dL_law_1644 rfl (lv_at hl 1 rfl) ?_
  refine lv_aload_n hx hb dL_law_1645 rfl (lv_at hl 0 rfl) ?_
  refine lv_iload hx hb dL_law_1646 (lv_at hl 5 rfl) ?_
  refine lv_iconst (v := nI 1) hx hb dL_law_1648 (by decide) ?_
  refine lv_iadd hx hb dL_law_1649 ?_
  refine z_topi (nI_add i 1) ?_
  refine z_sld (k := i + 1) hx hb hI hX hbB hsz hL (by omega) dL_law_1650 ?_
  refine lv_aload_n hx hb dL_law_1651 rfl (lv_at hl 0 rfl) ?_
  refine lv_iload hx hb dL_law_1652 (lv_at hl 5 rfl) ?_
  refine lv_iconst (v := nI 2) hx hb dL_law_1654 (by decide) ?_
  refine lv_iadd hx hb dL_law_1655 ?_
  refine z_topi (nI_add i 2) ?_
  refine z_sld (k := i + 2) hx hb hI hX hbB hsz hL (by omega) dL_law_1656 ?_
  refine lv_aload_n hx hb dL_law_1657 rfl (lv_at hl 0 rfl) ?_
  refine lv_iload hx hb dL_law_1658 (lv_at hl 5 rfl) ?_
  refine lv_iconst (v := nI 3) hx hb dL_law_1660 (by decide) ?_
  refine lv_iadd hx hb dL_law_1661 ?_
  refine z_topi (nI_add i 3) ?_
  refine z_sld (k := i + 3) hx hb hI hX hbB hsz hL (by omega) dL_law_1662 ?_
  refine lv_aload_n hx hb dL_law_1663 rfl (lv_at hl 3 rfl) ?_
  refine z_calli hI (z_H (As := [.ref B0, .int (xs (i + 1)), .int (xs (i + 2)), .int (xs (i + 3)), .ref (B0 + 41)]) (rest := []) ⟨hx, hb, hml, hown, hts⟩ hI (c_L_replaceWord l hl0 G B0 F σ (xs (i + 1)) (xs (i + 2)) (xs (i + 3)) fo hC hK hO) (z_cwH vL_replaceWord hts q391 ⟨Nat.le_of_ble_eq_true rfl, Nat.le_of_ble_eq_true rfl⟩) rfl hl.1 rfl (lv_room (Nat.le_of_ble_eq_true rfl)) dL_law_1664 ⟨by omega, by omega⟩) (fun r5 F1 H locs hp5 hI => ?_)
  obtain ⟨hz1, ⟨σ1, fo1, hC1, ha1, hy1, hn1⟩, hf1⟩ := hp5
  have hM1 : MS G B0 F1 σ th := hM.goB (fun q h1 h2 => hf1 q h1 (by omega))
  have hD1 := (hf1 (B0 + 42) (by omega) (by omega)).trans hD
  refine lv_istore (lv' := [(6, .int r5), (0, .ref b), (1, .ref B0), (2, .ref (B0 + 23)), (3, .ref (B0 + 41)), (4, .ref (B0 + 42)), (5, .int (nI i))]) hx hb dL_law_1667 hl (by decide) rfl (fun ls hl => ?_)
  refine lv_aload_n hx hb dL_law_1669 rfl (lv_at hl 3 rfl) ?_
  refine lv_aload_n hx hb dL_law_1670 rfl (lv_at hl 1 rfl) ?_
  refine lv_iload hx hb dL_law_1671 (lv_at hl 6 rfl) ?_
  refine lv_iconst (v := nI 1) hx hb dL_law_1673 (by decide) ?_
  refine lv_iadd hx hb dL_law_1674 ?_
  refine z_topi (nI_add i 1) ?_
  refine z_sld (k := i + 1) hx hb hI hX hbB hsz hL (by omega) dL_law_1675 ?_
  refine lv_aload_n hx hb dL_law_1676 rfl (lv_at hl 1 rfl) ?_
  refine lv_iload hx hb dL_law_1677 (lv_at hl 6 rfl) ?_
  refine lv_iconst (v := nI 2) hx hb dL_law_1679 (by decide) ?_
  refine lv_iadd hx hb dL_law_1680 ?_
  refine z_topi (nI_add i 2) ?_
  refine z_sld (k := i + 2) hx hb hI hX hbB hsz hL (by omega) dL_law_1681 ?_
  refine lv_aload_n hx hb dL_law_1682 rfl (lv_at hl 1 rfl) ?_
  refine lv_iload hx hb dL_law_1683 (lv_at hl 6 rfl) ?_
  refine lv_iconst (v := nI 3) hx hb dL_law_1685 (by decide) ?_
  refine lv_iadd hx hb dL_law_1686 ?_
  refine z_topi (nI_add i 3) ?_
  refine z_sld (k := i + 3) hx hb hI hX hbB hsz hL (by omega) dL_law_1687 ?_
  refine z_calli hI (z_V (As := [.int (xs (i + 1)), .int (xs (i + 2)), .int (xs (i + 3))]) (rest := []) ⟨hx, hb, hml, hown, hts⟩ hI hM1.1 rfl (c_X4_replaceWord l G B0 F1 σ th (xs (i + 1)) (xs (i + 2)) (xs (i + 3)) hM1 hK) (z_cwV vX4_replaceWord hts q927 ⟨Nat.le_of_ble_eq_true rfl, Nat.le_of_ble_eq_true rfl⟩) rfl hl.1 rfl (lv_room (Nat.le_of_ble_eq_true rfl)) dL_law_1688 ⟨by omega, by omega⟩) (fun r6 F2 H locs hp6 hI => ?_)
  obtain ⟨th2, σ2, hM2, hz2, hy2, hn2, hf2⟩ := hp6
  have hb2 := (hf2 (B0 + 41) (Or.inr (by omega))).trans ha1
  refine lv_istore (lv' := [(7, .int r6), (6, .int r5), (0, .ref b), (1, .ref B0), (2, .ref (B0 + 23)), (3, .ref (B0 + 41)), (4, .ref (B0 + 42)), (5, .int (nI i))]) hx hb dL_law_1691 hl (by decide) rfl (fun ls hl => ?_)
  refine lv_aload_n hx hb dL_law_1693 rfl (lv_at hl 4 rfl) ?_
  refine z_calli hI (z_V (As := []) (rest := []) ⟨hx, hb, hml, hown, hts⟩ hI hM2.1 rfl (c_X4_thrown l G B0 F2 σ2 th2 hM2) (z_cwV vX4_thrown hts q726 ⟨Nat.le_of_ble_eq_true rfl, Nat.le_of_ble_eq_true rfl⟩) rfl hl.1 rfl (lv_room (Nat.le_of_ble_eq_true rfl)) dL_law_1694 ⟨by omega, by omega⟩) (fun r7 F3 H locs hp7 hI => ?_)
  obtain ⟨rfl, rfl⟩ := hp7
  refine lv_iload hx hb dL_law_1697 (lv_at hl 1 rfl) ?_
  refine lv_icmp_eq (tgt := 1704) hx hb dL_law_1699 (by decide) (fun hq4 => ?_) (fun hq4 => ?_)
  · refine lv_iload hx hb dL_law_1704 (lv_at hl 1 rfl) ?_
    refine lv_if_ne (tgt := 1728) hx hb dL_law_1706 (by decide) (fun hq5 => ?_) (fun hq5 => ?_)
    · have hno := zTh_n hz1 hq5
      refine lv_goto (tgt := 3367) hx hb dL_law_1728 (by decide) ?_
      refine W.widen (k := cells + 40) (n := slots + 600) (by omega) (by omega) ?_
      exact kk _ _ _ _ _ _ (lv_sub hl [2, 3, 4, 5, 6, 7] rfl) (zLI_end hC1 ha1 hD1 hM2 hf2 ((hn2 hno).trans (hn1 hno).symm) (by rw [hn1 hno]; exact hW)) hI
    · have hok := zTh_0 hz1 hq5
      obtain ⟨hs1, hv1⟩ := hy1 hok
      obtain ⟨hs2, hv2⟩ := hy2 hok
      have hv : fo1 0 = r6.toInt64 := hv1.trans (congrArg Int32.toInt64 hv2.symm)
      have h01 : r6 = 0 ∨ r6 = 1 := by rw [hv2]; unfold rr_replaceWord; exact pI_or
      refine lv_aload_n hx hb dL_law_1709 rfl (lv_at hl 5 rfl) ?_
      refine lv_iconst (v := nI 0) hx hb dL_law_1710 (by decide) ?_
      refine z_lld (k := 0) hx hb hI hb2 (by decide) (by decide) dL_law_1711 ?_
      refine lv_iload hx hb dL_law_1712 (lv_at hl 0 rfl) ?_
      refine lv_if_eq (tgt := 1721) hx hb dL_law_1714 (by decide) (fun hq6 => ?_) (fun hq6 => ?_)
      · refine lv_lconst (v := 0) hx hb dL_law_1721 (by decide) ?_
        refine W.lcmp hx hb dL_law_1722 ?_
        refine lv_if_eq (tgt := 1728) hx hb dL_law_1723 (by decide) (fun hq7 => ?_) (fun hq7 => ?_)
        · refine lv_goto (tgt := 3367) hx hb dL_law_1728 (by decide) ?_
          refine W.widen (k := cells + 40) (n := slots + 600) (by omega) (by omega) ?_
          exact kk _ _ _ _ _ _ (lv_sub hl [2, 3, 4, 5, 6, 7] rfl) (zLI_end hC1 ha1 hD1 hM2 hf2 (hs2.trans hs1.symm) (by rw [hs1]; exact wk_replaceWord hK hW hok.1 hok.2.1)) hI
        · exact absurd (by rw [hv, hq6]; exact lg_self) hq7
      · refine lv_lconst (v := 1) hx hb dL_law_1717 (by decide) ?_
        refine lv_goto (tgt := 1722) hx hb dL_law_1718 (by decide) ?_
        refine W.lcmp hx hb dL_law_1722 ?_
        refine lv_if_eq (tgt := 1728) hx hb dL_law_1723 (by decide) (fun hq8 => ?_) (fun hq8 => ?_)
        · refine lv_goto (tgt := 3367) hx hb dL_law_1728 (by decide) ?_
          refine W.widen (k := cells + 40) (n := slots + 600) (by omega) (by omega) ?_
          exact kk _ _ _ _ _ _ (lv_sub hl [2, 3, 4, 5, 6, 7] rfl) (zLI_end hC1 ha1 hD1 hM2 hf2 (hs2.trans hs1.symm) (by rw [hs1]; exact wk_replaceWord hK hW hok.1 hok.2.1)) hI
        · exact absurd (by rw [hv, h01.resolve_left hq6]; exact lg_self) hq8
  · exact absurd (zTh_eq hz2 hz1) hq4

set_option maxHeartbeats 4000000 in
set_option maxRecDepth 100000 in
theorem w_frequency {p : Program} {l : Launch} {e : Env} {s : State} {m : MethodId} {below : List Frame} {meth : Method} {c : Code} {b L B0 : Nat} {xs : Nat → Int32} {G : zK} {Q : State → Prop} {cells slots : Nat} {i : Nat} {ls : Array Slot} {H : Heap} {locs : List Loc} {F : zM} {σ : Sg} {th : Int32} (K : zCtx p s m c b L B0 xs) (hl0 : l.stackTraces = false) (hi : i + 5 ≤ L) (hRc : cells + 40 ≤ room_1.cells) (hRs : slots + 600 ≤ room_1.slots) (hl : lv_has ls 9 (zLv b B0 i)) (hJ : zLI G B0 F σ th) (hI : zI G B0 s H locs F)
    (kk : ∀ (ls : Array Slot) (H : Heap) (locs : List Loc) (F : zM) (σ : Sg) (th : Int32), lv_has ls 9 (zLv b B0 i) → zLI G B0 F σ th → zI G B0 s H locs F → W p l e room_1 s m #[Value.ref b] below meth c H locs (cells + 40) (slots + 600) Q (F0 m 3367 ls [])) : W p l e room_1 s m #[Value.ref b] below meth c H locs cells slots Q (F0 m 1731 ls []) := by
  obtain ⟨hx, hb, hml, hown, hts, hX, hbB, hsz, hL⟩ := K
  obtain ⟨hC, hM, hW, ⟨fo, hO⟩, fd, hD⟩ := hJ
  have hK := hC.ok hW
  have hl : lv_has ls 9 [(0, .ref b), (1, .ref B0), (2, .ref (B0 + 23)), (3, .ref (B0 + 41)), (4, .ref (B0 + 42)), (5, .int (nI i))] := hl
  refine lv_aload_n hx hb dL_law_1731 rfl (lv_at hl 1 rfl) ?_
  refine lv_aload_n hx hb dL_law_1732 rfl (lv_at hl 0 rfl) ?_
  refine lv_iload hx hb dL_law_1733 (lv_at hl 5 rfl) ?_
  refine lv_iconst (v := nI 1) hx hb dL_law_1735 (by decide) ?_
  refine lv_iadd hx hb dL_law_1736 ?_
  refine z_topi (nI_add i 1) ?_
  refine z_sld (k := i + 1) hx hb hI hX hbB hsz hL (by omega) dL_law_1737 ?_
  refine lv_aload_n hx hb dL_law_1738 rfl (lv_at hl 0 rfl) ?_
  refine lv_iload hx hb dL_law_1739 (lv_at hl 5 rfl) ?_
  refine lv_iconst (v := nI 2) hx hb dL_law_1741 (by decide) ?_
  refine lv_iadd hx hb dL_law_1742 ?_
  refine z_topi (nI_add i 2) ?_
  refine z_sld (k := i + 2) hx hb hI hX hbB hsz hL (by omega) dL_law_1743 ?_
  refine lv_aload_n hx hb dL_law_1744 rfl (lv_at hl 3 rfl) ?_
  refine z_calli hI (z_H (As := [.ref B0, .int (xs (i + 1)), .int (xs (i + 2)), .ref (B0 + 41)]) (rest := []) ⟨hx, hb, hml, hown, hts⟩ hI (c_L_frequency l hl0 G B0 F σ (xs (i + 1)) (xs (i + 2)) fo hC hK hO) (z_cwH vL_frequency hts q398 ⟨Nat.le_of_ble_eq_true rfl, Nat.le_of_ble_eq_true rfl⟩) rfl hl.1 rfl (lv_room (Nat.le_of_ble_eq_true rfl)) dL_law_1745 ⟨by omega, by omega⟩) (fun r5 F1 H locs hp5 hI => ?_)
  obtain ⟨hz1, ⟨σ1, fo1, hC1, ha1, hy1, hn1⟩, hf1⟩ := hp5
  have hM1 : MS G B0 F1 σ th := hM.goB (fun q h1 h2 => hf1 q h1 (by omega))
  have hD1 := (hf1 (B0 + 42) (by omega) (by omega)).trans hD
  refine lv_istore (lv' := [(6, .int r5), (0, .ref b), (1, .ref B0), (2, .ref (B0 + 23)), (3, .ref (B0 + 41)), (4, .ref (B0 + 42)), (5, .int (nI i))]) hx hb dL_law_1748 hl (by decide) rfl (fun ls hl => ?_)
  refine lv_aload_n hx hb dL_law_1750 rfl (lv_at hl 3 rfl) ?_
  refine lv_aload_n hx hb dL_law_1751 rfl (lv_at hl 1 rfl) ?_
  refine lv_iload hx hb dL_law_1752 (lv_at hl 6 rfl) ?_
  refine lv_iconst (v := nI 1) hx hb dL_law_1754 (by decide) ?_
  refine lv_iadd hx hb dL_law_1755 ?_
  refine z_topi (nI_add i 1) ?_
  refine z_sld (k := i + 1) hx hb hI hX hbB hsz hL (by omega) dL_law_1756 ?_
  refine lv_aload_n hx hb dL_law_1757 rfl (lv_at hl 1 rfl) ?_
  refine lv_iload hx hb dL_law_1758 (lv_at hl 6 rfl) ?_
  refine lv_iconst (v := nI 2) hx hb dL_law_1760 (by decide) ?_
  refine lv_iadd hx hb dL_law_1761 ?_
  refine z_topi (nI_add i 2) ?_
  refine z_sld (k := i + 2) hx hb hI hX hbB hsz hL (by omega) dL_law_1762 ?_
  refine z_calli hI (z_V (As := [.int (xs (i + 1)), .int (xs (i + 2))]) (rest := []) ⟨hx, hb, hml, hown, hts⟩ hI hM1.1 rfl (c_X4_frequency l G B0 F1 σ th (xs (i + 1)) (xs (i + 2)) hM1 hK) (z_cwV vX4_frequency hts q935 ⟨Nat.le_of_ble_eq_true rfl, Nat.le_of_ble_eq_true rfl⟩) rfl hl.1 rfl (lv_room (Nat.le_of_ble_eq_true rfl)) dL_law_1763 ⟨by omega, by omega⟩) (fun r6 F2 H locs hp6 hI => ?_)
  obtain ⟨th2, σ2, hM2, hz2, hy2, hn2, hf2⟩ := hp6
  have hb2 := (hf2 (B0 + 41) (Or.inr (by omega))).trans ha1
  refine lv_istore (lv' := [(7, .int r6), (6, .int r5), (0, .ref b), (1, .ref B0), (2, .ref (B0 + 23)), (3, .ref (B0 + 41)), (4, .ref (B0 + 42)), (5, .int (nI i))]) hx hb dL_law_1766 hl (by decide) rfl (fun ls hl => ?_)
  refine lv_aload_n hx hb dL_law_1768 rfl (lv_at hl 4 rfl) ?_
  refine z_calli hI (z_V (As := []) (rest := []) ⟨hx, hb, hml, hown, hts⟩ hI hM2.1 rfl (c_X4_thrown l G B0 F2 σ2 th2 hM2) (z_cwV vX4_thrown hts q726 ⟨Nat.le_of_ble_eq_true rfl, Nat.le_of_ble_eq_true rfl⟩) rfl hl.1 rfl (lv_room (Nat.le_of_ble_eq_true rfl)) dL_law_1769 ⟨by omega, by omega⟩) (fun r7 F3 H locs hp7 hI => ?_)
  obtain ⟨rfl, rfl⟩ := hp7
  refine lv_iload hx hb dL_law_1772 (lv_at hl 1 rfl) ?_
  refine lv_icmp_eq (tgt := 1779) hx hb dL_law_1774 (by decide) (fun hq4 => ?_) (fun hq4 => ?_)
  · refine lv_iload hx hb dL_law_1779 (lv_at hl 1 rfl) ?_
    refine lv_if_ne (tgt := 1796) hx hb dL_law_1781 (by decide) (fun hq5 => ?_) (fun hq5 => ?_)
    · have hno := zTh_n hz1 hq5
      refine lv_goto (tgt := 3367) hx hb dL_law_1796 (by decide) ?_
      refine W.widen (k := cells + 40) (n := slots + 600) (by omega) (by omega) ?_
      exact kk _ _ _ _ _ _ (lv_sub hl [2, 3, 4, 5, 6, 7] rfl) (zLI_end hC1 ha1 hD1 hM2 hf2 ((hn2 hno).trans (hn1 hno).symm) (by rw [hn1 hno]; exact hW)) hI
    · have hok := zTh_0 hz1 hq5
      obtain ⟨hs1, hv1⟩ := hy1 hok
      obtain ⟨hs2, hv2⟩ := hy2 hok
      have hv : fo1 0 = r6.toInt64 := hv1.trans (congrArg Int32.toInt64 hv2.symm)
      refine lv_aload_n hx hb dL_law_1784 rfl (lv_at hl 5 rfl) ?_
      refine lv_iconst (v := nI 0) hx hb dL_law_1785 (by decide) ?_
      refine z_lld (k := 0) hx hb hI hb2 (by decide) (by decide) dL_law_1786 ?_
      refine lv_iload hx hb dL_law_1787 (lv_at hl 0 rfl) ?_
      refine lv_i2l hx hb dL_law_1789 rfl ?_
      refine W.lcmp hx hb dL_law_1790 ?_
      refine lv_if_eq (tgt := 1796) hx hb dL_law_1791 (by decide) (fun hq6 => ?_) (fun hq6 => ?_)
      · refine lv_goto (tgt := 3367) hx hb dL_law_1796 (by decide) ?_
        refine W.widen (k := cells + 40) (n := slots + 600) (by omega) (by omega) ?_
        exact kk _ _ _ _ _ _ (lv_sub hl [2, 3, 4, 5, 6, 7] rfl) (zLI_end hC1 ha1 hD1 hM2 hf2 (hs2.trans hs1.symm) (by rw [hs1]; exact wk_frequency hK hW hok.1 hok.2.1)) hI
      · exact absurd (by rw [hv]; exact lg_self) hq6
  · exact absurd (zTh_eq hz2 hz1) hq4

