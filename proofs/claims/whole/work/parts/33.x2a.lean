set_option maxHeartbeats 4000000 in
set_option maxRecDepth 100000 in
theorem c_X2_size (l : Launch) (hl0 : l.stackTraces = false) (G : zK) (B0 : Nat) (F : zM) (σ : Sg) (zp0 : Int32) (hC : CS G B0 F σ) : vx_Met l yX2_size (Cond.code yX2_size cX2_size 2 (some FieldType.int) :: zW) (zRm 7 111 1 6) (va_Pc [.ref B0, .int zp0] (zPre G B0 F)) (zQi G B0 (fun r' F' => oA_size σ zp0 ∧ oB_size σ zp0 ∧ oC_size σ zp0 ∧ r' = rr_size σ zp0 ∧ CS G B0 F' (ss_size σ zp0) ∧ zCf B0 F F')) (zXC G B0 F (fun E => zPX zEI "" "" (oA_size σ zp0) (oB_size σ zp0) (oC_size σ zp0) E)) 1 6 (zA B0) := by
  refine z_ofx (own := RX2) (by decide) rfl (Nat.le_of_ble_eq_true rfl) ?_
  intro p e s m below meth c ls hx hb hr hml hown hlocks hout hts hl hI
  have hl : lv_has ls 2 [(0, .ref B0), (1, .int zp0)] := hl
  obtain ⟨y01, ⟨fa1, y11, e11⟩, ⟨fb1, y21, e21⟩, ⟨fc1, y31, e31⟩, ⟨n41, t41, y41⟩, ⟨n61, t61, y61⟩, ⟨n81, t81, y81⟩, ⟨fd1, y101⟩, yT1, yP1⟩ := id hC
  refine lv_aload_n hx hb dX2_size_0 rfl (lv_at hl 0 rfl) ?_
  refine lv_iload_n hx hb dX2_size_1 rfl (lv_at hl 1 rfl) ?_
  refine z_xcallr hI (z_xV (As := [.int zp0]) (rest := []) ⟨hx, hb, hml, hown, hts⟩ hI y01 rfl (c_X2_textAt l hl0 G B0 F σ zp0 hC) (z_cwV vX2_textAt hts q71 ⟨Nat.le_of_ble_eq_true rfl, Nat.le_of_ble_eq_true rfl⟩) rfl hl.1 rfl (lv_room (Nat.le_of_ble_eq_true rfl)) dX2_size_2 ⟨Nat.le_of_ble_eq_true rfl, Nat.le_of_ble_eq_true rfl⟩) (z_out hout hlocks (fun E hE => Or.inl ⟨hE.1, fun q => hE.2 (by first | exact q | (simp only [oA_size, oB_size, oC_size, rr_size, ss_size] at q; exact q))⟩) (Nat.le_of_ble_eq_true rfl) (Nat.le_of_ble_eq_true rfl)) (fun r3 F2 H locs hp4 hI => ?_)
  obtain ⟨rfl, i5, hi6, rfl, rfl⟩ := hp4
  have hix7 : ix (nI i5) = i5 := ix_nI (by omega)
  have hl : lv_has ls 2 [(0, .ref B0), (1, .int (nI i5))] := hl
  have hx8 := yT1 i5 hi6
  obtain ⟨xnhx8, xrhx8, fhx8, xwhx8, xfhx8⟩ := id hx8
  refine z_getN hx hb hts hown zlX1 rfl 1 (by decide) (List.mem_of_getElem? (i := 0) rfl) rfl hI xrhx8 rfl dX2_size_5 ?_
  refine vx_ret (z_ri hx hb hr hlocks hI ?_ (Nat.le_of_ble_eq_true rfl) (Nat.le_of_ble_eq_true rfl) dX2_size_8)
  refine ⟨_, rfl, (by simp only [oA_size, oB_size, oC_size, rr_size, ss_size, hix7] <;> exact ⟨i5, hi6, rfl⟩), (by simp only [oA_size, oB_size, oC_size, rr_size, ss_size, hix7] <;> exact trivial), (by simp only [oA_size, oB_size, oC_size, rr_size, ss_size, hix7] <;> exact trivial), (by simp only [oA_size, oB_size, oC_size, rr_size, ss_size, hix7] <;> exact rfl), (by simp only [oA_size, oB_size, oC_size, rr_size, ss_size, hix7] <;> exact hC), zCf.rf⟩

set_option maxHeartbeats 4000000 in
set_option maxRecDepth 100000 in
theorem c_X2_at (l : Launch) (hl0 : l.stackTraces = false) (G : zK) (B0 : Nat) (F : zM) (σ : Sg) (zp0 zp1 : Int32) (hC : CS G B0 F σ) : vx_Met l yX2_at (Cond.code yX2_at cX2_at 4 (some FieldType.int) :: zW) (zRm 7 111 2 12) (va_Pc [.ref B0, .int zp0, .int zp1] (zPre G B0 F)) (zQi G B0 (fun r' F' => oA_at σ zp0 zp1 ∧ oB_at σ zp0 zp1 ∧ oC_at σ zp0 zp1 ∧ r' = rr_at σ zp0 zp1 ∧ CS G B0 F' (ss_at σ zp0 zp1) ∧ zCf B0 F F')) (zXC G B0 F (fun E => zPX zEI "" "" (oA_at σ zp0 zp1) (oB_at σ zp0 zp1) (oC_at σ zp0 zp1) E)) 2 12 (zA B0) := by
  refine z_ofx (own := RX2) (by decide) rfl (Nat.le_of_ble_eq_true rfl) ?_
  intro p e s m below meth c ls hx hb hr hml hown hlocks hout hts hl hI
  have hl : lv_has ls 4 [(0, .ref B0), (1, .int zp0), (2, .int zp1)] := hl
  obtain ⟨y01, ⟨fa1, y11, e11⟩, ⟨fb1, y21, e21⟩, ⟨fc1, y31, e31⟩, ⟨n41, t41, y41⟩, ⟨n61, t61, y61⟩, ⟨n81, t81, y81⟩, ⟨fd1, y101⟩, yT1, yP1⟩ := id hC
  refine lv_aload_n hx hb dX2_at_0 rfl (lv_at hl 0 rfl) ?_
  refine lv_iload_n hx hb dX2_at_1 rfl (lv_at hl 1 rfl) ?_
  refine z_xcallr hI (z_xV (As := [.int zp0]) (rest := []) ⟨hx, hb, hml, hown, hts⟩ hI y01 rfl (c_X2_textAt l hl0 G B0 F σ zp0 hC) (z_cwV vX2_textAt hts q71 ⟨Nat.le_of_ble_eq_true rfl, Nat.le_of_ble_eq_true rfl⟩) rfl hl.1 rfl (lv_room (Nat.le_of_ble_eq_true rfl)) dX2_at_2 ⟨Nat.le_of_ble_eq_true rfl, Nat.le_of_ble_eq_true rfl⟩) (z_out hout hlocks (fun E hE => Or.inl ⟨hE.1, fun q => hE.2 (by first | exact q.1 | (simp only [oA_at, oB_at, oC_at, rr_at, ss_at] at q; exact q.1))⟩) (Nat.le_of_ble_eq_true rfl) (Nat.le_of_ble_eq_true rfl)) (fun r3 F2 H locs hp4 hI => ?_)
  obtain ⟨rfl, i5, hi6, rfl, rfl⟩ := hp4
  have hix7 : ix (nI i5) = i5 := ix_nI (by omega)
  have hl : lv_has ls 4 [(0, .ref B0), (1, .int (nI i5)), (2, .int zp1)] := hl
  have hx8 := yT1 i5 hi6
  obtain ⟨xnhx8, xrhx8, fhx8, xwhx8, xfhx8⟩ := id hx8
  refine lv_astore_n (lv' := [(3, .ref (B0 + 11 + 2 * i5)), (0, .ref B0), (1, .int (nI i5)), (2, .int zp1)]) hx hb dX2_at_5 rfl hl (by decide) rfl (fun ls hl => ?_)
  refine lv_aload_n hx hb dX2_at_6 rfl (lv_at hl 0 rfl) ?_
  refine lv_iload_n hx hb dX2_at_7 rfl (lv_at hl 3 rfl) ?_
  refine z_xcallv hI (z_xS (As := [.ref (B0 + 11 + 2 * i5), .int zp1]) (rest := []) ⟨hx, hb, hml, hown, hts⟩ hI (c_X2_requirePlace l hl0 G B0 F (B0 + 11 + 2 * i5) (B0 + 12 + 2 * i5) 60 (sn σ i5) (st σ i5) zp1 ⟨xnhx8, xrhx8, fhx8, xwhx8, xfhx8⟩ (by decide)) (z_cwS vX2_requirePlace hts q236 ⟨Nat.le_of_ble_eq_true rfl, Nat.le_of_ble_eq_true rfl⟩) rfl hl.1 rfl (lv_room (Nat.le_of_ble_eq_true rfl)) dX2_at_8 ⟨Nat.le_of_ble_eq_true rfl, Nat.le_of_ble_eq_true rfl⟩) (z_out hout hlocks (fun E hE => Or.inl ⟨hE.1, fun q => hE.2 (by first | exact q.2 | (simp only [oA_at, oB_at, oC_at, rr_at, ss_at, hix7] at q; exact q.2))⟩) (Nat.le_of_ble_eq_true rfl) (Nat.le_of_ble_eq_true rfl)) (fun F9 H locs hp11 hI => ?_)
  obtain ⟨rfl, j12, hj13, rfl⟩ := hp11
  have hix14 : ix (nI j12) = j12 := ix_nI (by omega)
  have hl : lv_has ls 4 [(3, .ref (B0 + 11 + 2 * i5)), (0, .ref B0), (1, .int (nI i5)), (2, .int (nI j12))] := hl
  refine lv_aload_n hx hb dX2_at_11 rfl (lv_at hl 0 rfl) ?_
  refine z_getN hx hb hts hown zlX1 rfl 0 (by decide) (List.mem_of_getElem? (i := 1) rfl) rfl hI xrhx8 rfl dX2_at_12 ?_
  refine lv_iload_n hx hb dX2_at_15 rfl (lv_at hl 3 rfl) ?_
  refine z_ild (k := j12) (v := st σ i5 j12) hx hb hI xwhx8 (by omega) (by omega) (xfhx8 j12 (by omega)) dX2_at_16 ?_
  refine vx_ret (z_ri hx hb hr hlocks hI ?_ (Nat.le_of_ble_eq_true rfl) (Nat.le_of_ble_eq_true rfl) dX2_at_17)
  refine ⟨_, rfl, (by simp only [oA_at, oB_at, oC_at, rr_at, ss_at, hix7, hix14] <;> exact ⟨⟨i5, hi6, rfl⟩, ⟨j12, hj13, rfl⟩⟩), (by simp only [oA_at, oB_at, oC_at, rr_at, ss_at, hix7, hix14] <;> exact trivial), (by simp only [oA_at, oB_at, oC_at, rr_at, ss_at, hix7, hix14] <;> exact trivial), (by simp only [oA_at, oB_at, oC_at, rr_at, ss_at, hix7, hix14] <;> exact rfl), (by simp only [oA_at, oB_at, oC_at, rr_at, ss_at, hix7, hix14] <;> exact hC), zCf.rf⟩

set_option maxHeartbeats 4000000 in
set_option maxRecDepth 100000 in
theorem c_X2_add (l : Launch) (hl0 : l.stackTraces = false) (G : zK) (B0 : Nat) (F : zM) (σ : Sg) (zp0 zp1 : Int32) (hC : CS G B0 F σ) : vx_Met l yX2_add (Cond.code yX2_add cX2_add 4 (some FieldType.int) :: zW) (zRm 7 111 3 18) (va_Pc [.ref B0, .int zp0, .int zp1] (zPre G B0 F)) (zQi G B0 (fun r' F' => oA_add σ zp0 zp1 ∧ oB_add σ zp0 zp1 ∧ oC_add σ zp0 zp1 ∧ r' = rr_add σ zp0 zp1 ∧ CS G B0 F' (ss_add σ zp0 zp1) ∧ zCf B0 F F')) (zXC G B0 F (fun E => zPX zEI zES "" (oA_add σ zp0 zp1) (oB_add σ zp0 zp1) (oC_add σ zp0 zp1) E)) 3 18 (zA B0) := by
  refine z_ofx (own := RX2) (by decide) rfl (Nat.le_of_ble_eq_true rfl) ?_
  intro p e s m below meth c ls hx hb hr hml hown hlocks hout hts hl hI
  have hl : lv_has ls 4 [(0, .ref B0), (1, .int zp0), (2, .int zp1)] := hl
  obtain ⟨y01, ⟨fa1, y11, e11⟩, ⟨fb1, y21, e21⟩, ⟨fc1, y31, e31⟩, ⟨n41, t41, y41⟩, ⟨n61, t61, y61⟩, ⟨n81, t81, y81⟩, ⟨fd1, y101⟩, yT1, yP1⟩ := id hC
  refine lv_aload_n hx hb dX2_add_0 rfl (lv_at hl 0 rfl) ?_
  refine lv_iload_n hx hb dX2_add_1 rfl (lv_at hl 1 rfl) ?_
  refine z_xcallr hI (z_xV (As := [.int zp0]) (rest := []) ⟨hx, hb, hml, hown, hts⟩ hI y01 rfl (c_X2_textAt l hl0 G B0 F σ zp0 hC) (z_cwV vX2_textAt hts q71 ⟨Nat.le_of_ble_eq_true rfl, Nat.le_of_ble_eq_true rfl⟩) rfl hl.1 rfl (lv_room (Nat.le_of_ble_eq_true rfl)) dX2_add_2 ⟨Nat.le_of_ble_eq_true rfl, Nat.le_of_ble_eq_true rfl⟩) (z_out hout hlocks (fun E hE => Or.inl ⟨hE.1, fun q => hE.2 (by first | exact q.1 | (simp only [oA_add, oB_add, oC_add, rr_add, ss_add] at q; exact q.1))⟩) (Nat.le_of_ble_eq_true rfl) (Nat.le_of_ble_eq_true rfl)) (fun r3 F2 H locs hp4 hI => ?_)
  obtain ⟨rfl, i5, hi6, rfl, rfl⟩ := hp4
  have hix7 : ix (nI i5) = i5 := ix_nI (by omega)
  have hl : lv_has ls 4 [(0, .ref B0), (1, .int (nI i5)), (2, .int zp1)] := hl
  have hx8 := yT1 i5 hi6
  obtain ⟨xnhx8, xrhx8, fhx8, xwhx8, xfhx8⟩ := id hx8
  refine lv_astore_n (lv' := [(3, .ref (B0 + 11 + 2 * i5)), (0, .ref B0), (1, .int (nI i5)), (2, .int zp1)]) hx hb dX2_add_5 rfl hl (by decide) rfl (fun ls hl => ?_)
  refine lv_iload_n hx hb dX2_add_6 rfl (lv_at hl 3 rfl) ?_
  refine z_xcallv hI (z_xS (As := [.int zp1]) (rest := []) ⟨hx, hb, hml, hown, hts⟩ hI (c_X2_requireWord l hl0 G B0 F zp1) (z_cwS vX2_requireWord hts q145 ⟨Nat.le_of_ble_eq_true rfl, Nat.le_of_ble_eq_true rfl⟩) rfl hl.1 rfl (lv_room (Nat.le_of_ble_eq_true rfl)) dX2_add_7 ⟨Nat.le_of_ble_eq_true rfl, Nat.le_of_ble_eq_true rfl⟩) (z_out hout hlocks (fun E hE => Or.inl ⟨hE.1, fun q => hE.2 (by first | exact q.2 | (simp only [oA_add, oB_add, oC_add, rr_add, ss_add, hix7] at q; exact q.2))⟩) (Nat.le_of_ble_eq_true rfl) (Nat.le_of_ble_eq_true rfl)) (fun F9 H locs hp11 hI => ?_)
  obtain ⟨rfl, hp11⟩ := hp11
  refine lv_aload_n hx hb dX2_add_10 rfl (lv_at hl 0 rfl) ?_
  refine lv_iconst (v := nI 1) hx hb dX2_add_11 (by decide) ?_
  refine z_xcallv hI (z_xS (As := [.ref (B0 + 11 + 2 * i5), .int (nI 1)]) (rest := []) ⟨hx, hb, hml, hown, hts⟩ hI (c_X2_requireRoom l hl0 G B0 F (B0 + 11 + 2 * i5) (B0 + 12 + 2 * i5) 60 (sn σ i5) (st σ i5) (nI 1) ⟨xnhx8, xrhx8, fhx8, xwhx8, xfhx8⟩ (by decide)) (z_cwS vX2_requireRoom hts q149 ⟨Nat.le_of_ble_eq_true rfl, Nat.le_of_ble_eq_true rfl⟩) rfl hl.1 rfl (lv_room (Nat.le_of_ble_eq_true rfl)) dX2_add_12 ⟨Nat.le_of_ble_eq_true rfl, Nat.le_of_ble_eq_true rfl⟩) (z_out hout hlocks (fun E hE => Or.inr (Or.inl ⟨hE.1, (by simp only [oA_add, oB_add, oC_add, rr_add, ss_add, hix7] <;> exact ⟨⟨i5, hi6, rfl⟩, hp11⟩), fun q => hE.2 (by simp only [oA_add, oB_add, oC_add, rr_add, ss_add, hix7] at q; exact (nI_leI (by omega) (by omega)).mpr (by omega))⟩)) (Nat.le_of_ble_eq_true rfl) (Nat.le_of_ble_eq_true rfl)) (fun F12 H locs hp14 hI => ?_)
  obtain ⟨rfl, hp14⟩ := hp14
  have hp14 := (nI_leI (by omega) (by omega)).mp hp14
  refine lv_aload_n hx hb dX2_add_15 rfl (lv_at hl 0 rfl) ?_
  refine lv_iload_n hx hb dX2_add_16 rfl (lv_at hl 3 rfl) ?_
  refine z_callv hI (z_V (As := [.int zp1]) (rest := []) ⟨hx, hb, hml, hown, hts⟩ hI xrhx8 rfl (c_X1_append l G B0 F (B0 + 11 + 2 * i5) (B0 + 12 + 2 * i5) 60 (sn σ i5) (st σ i5) zp1 ⟨xnhx8, xrhx8, fhx8, xwhx8, xfhx8⟩ (by omega) (by omega)) (z_cwV vX1_append hts q168 ⟨Nat.le_of_ble_eq_true rfl, Nat.le_of_ble_eq_true rfl⟩) rfl hl.1 rfl (lv_room (Nat.le_of_ble_eq_true rfl)) dX2_add_17 ⟨Nat.le_of_ble_eq_true rfl, Nat.le_of_ble_eq_true rfl⟩) (fun F15 H locs hp17 hI => ?_)
  obtain ⟨ha18, hs18⟩ := hp17
  have hc19 : F15 B0 = some (zO 2 [.ref (B0 + 1), .ref (B0 + 2), .ref (B0 + 3), .ref (B0 + 4), .ref (B0 + 6), .ref (B0 + 8), .ref (B0 + 10)]) := (hs18 _ (by omega) (zne y01 xwhx8 (fun q => by cases q))).trans y01
  have hc20 : F15 (B0 + 1) = some (zA1 G 4 fa1) := (hs18 _ (zne y11 xrhx8 (fun q => by cases q)) (by omega)).trans y11
  have hc21 : F15 (B0 + 2) = some (zA1 G 2 fb1) := (hs18 _ (zne y21 xrhx8 (fun q => by cases q)) (by omega)).trans y21
  have hc22 : F15 (B0 + 3) = some (zAI G 100 fc1) := (hs18 _ (zne y31 xrhx8 (fun q => by cases q)) (by omega)).trans y31
  have hc23 : F15 (B0 + 10) = some (zAI G 61 fd1) := (hs18 _ (zne y101 xrhx8 (fun q => by cases q)) (by omega)).trans y101
  obtain ⟨xn_18, xr_18, f_18, xw_18, xf_18⟩ := id ha18
  refine lv_aload_n hx hb dX2_add_20 rfl (lv_at hl 0 rfl) ?_
  refine z_getN hx hb hts hown zlX1 rfl 1 (by decide) (List.mem_of_getElem? (i := 0) rfl) rfl hI xr_18 rfl dX2_add_21 ?_
  refine vx_ret (z_ri hx hb hr hlocks hI ?_ (Nat.le_of_ble_eq_true rfl) (Nat.le_of_ble_eq_true rfl) dX2_add_24)
  refine ⟨_, rfl, (by simp only [oA_add, oB_add, oC_add, rr_add, ss_add, hix7] <;> exact ⟨⟨i5, hi6, rfl⟩, hp11⟩), (by simp only [oA_add, oB_add, oC_add, rr_add, ss_add, hix7] <;> exact (by omega)), (by simp only [oA_add, oB_add, oC_add, rr_add, ss_add, hix7] <;> exact trivial), (by simp only [oA_add, oB_add, oC_add, rr_add, ss_add, hix7] <;> exact rfl), (by simp only [oA_add, oB_add, oC_add, rr_add, ss_add, hix7] <;> exact CS.setT hC hi6 hs18 ⟨xn_18, xr_18, f_18, xw_18, xf_18⟩), zCf.sm (a := B0 + 11 + 2 * i5) (b := B0 + 12 + 2 * i5) hs18 (by omega) (by omega)⟩

set_option maxHeartbeats 4000000 in
set_option maxRecDepth 100000 in
theorem c_X2_insert (l : Launch) (hl0 : l.stackTraces = false) (G : zK) (B0 : Nat) (F : zM) (σ : Sg) (zp0 zp1 zp2 : Int32) (hC : CS G B0 F σ) : vx_Met l yX2_insert (Cond.code yX2_insert cX2_insert 5 (some FieldType.int) :: zW) (zRm 7 112 4 24) (va_Pc [.ref B0, .int zp0, .int zp1, .int zp2] (zPre G B0 F)) (zQi G B0 (fun r' F' => oA_insert σ zp0 zp1 zp2 ∧ oB_insert σ zp0 zp1 zp2 ∧ oC_insert σ zp0 zp1 zp2 ∧ r' = rr_insert σ zp0 zp1 zp2 ∧ CS G B0 F' (ss_insert σ zp0 zp1 zp2) ∧ zCf B0 F F')) (zXC G B0 F (fun E => zPX zEI zES "" (oA_insert σ zp0 zp1 zp2) (oB_insert σ zp0 zp1 zp2) (oC_insert σ zp0 zp1 zp2) E)) 4 24 (zA B0) := by
  refine z_ofx (own := RX2) (by decide) rfl (Nat.le_of_ble_eq_true rfl) ?_
  intro p e s m below meth c ls hx hb hr hml hown hlocks hout hts hl hI
  have hl : lv_has ls 5 [(0, .ref B0), (1, .int zp0), (2, .int zp1), (3, .int zp2)] := hl
  obtain ⟨y01, ⟨fa1, y11, e11⟩, ⟨fb1, y21, e21⟩, ⟨fc1, y31, e31⟩, ⟨n41, t41, y41⟩, ⟨n61, t61, y61⟩, ⟨n81, t81, y81⟩, ⟨fd1, y101⟩, yT1, yP1⟩ := id hC
  refine lv_aload_n hx hb dX2_insert_0 rfl (lv_at hl 0 rfl) ?_
  refine lv_iload_n hx hb dX2_insert_1 rfl (lv_at hl 1 rfl) ?_
  refine z_xcallr hI (z_xV (As := [.int zp0]) (rest := []) ⟨hx, hb, hml, hown, hts⟩ hI y01 rfl (c_X2_textAt l hl0 G B0 F σ zp0 hC) (z_cwV vX2_textAt hts q71 ⟨Nat.le_of_ble_eq_true rfl, Nat.le_of_ble_eq_true rfl⟩) rfl hl.1 rfl (lv_room (Nat.le_of_ble_eq_true rfl)) dX2_insert_2 ⟨Nat.le_of_ble_eq_true rfl, Nat.le_of_ble_eq_true rfl⟩) (z_out hout hlocks (fun E hE => Or.inl ⟨hE.1, fun q => hE.2 (by first | exact q.1 | (simp only [oA_insert, oB_insert, oC_insert, rr_insert, ss_insert] at q; exact q.1))⟩) (Nat.le_of_ble_eq_true rfl) (Nat.le_of_ble_eq_true rfl)) (fun r3 F2 H locs hp4 hI => ?_)
  obtain ⟨rfl, i5, hi6, rfl, rfl⟩ := hp4
  have hix7 : ix (nI i5) = i5 := ix_nI (by omega)
  have hl : lv_has ls 5 [(0, .ref B0), (1, .int (nI i5)), (2, .int zp1), (3, .int zp2)] := hl
  have hx8 := yT1 i5 hi6
  obtain ⟨xnhx8, xrhx8, fhx8, xwhx8, xfhx8⟩ := id hx8
  refine lv_astore (lv' := [(4, .ref (B0 + 11 + 2 * i5)), (0, .ref B0), (1, .int (nI i5)), (2, .int zp1), (3, .int zp2)]) hx hb dX2_insert_5 hl (by decide) rfl (fun ls hl => ?_)
  refine lv_iload_n hx hb dX2_insert_7 rfl (lv_at hl 4 rfl) ?_
  refine z_xcallv hI (z_xS (As := [.int zp2]) (rest := []) ⟨hx, hb, hml, hown, hts⟩ hI (c_X2_requireWord l hl0 G B0 F zp2) (z_cwS vX2_requireWord hts q145 ⟨Nat.le_of_ble_eq_true rfl, Nat.le_of_ble_eq_true rfl⟩) rfl hl.1 rfl (lv_room (Nat.le_of_ble_eq_true rfl)) dX2_insert_8 ⟨Nat.le_of_ble_eq_true rfl, Nat.le_of_ble_eq_true rfl⟩) (z_out hout hlocks (fun E hE => Or.inl ⟨hE.1, fun q => hE.2 (by first | exact q.2.1 | (simp only [oA_insert, oB_insert, oC_insert, rr_insert, ss_insert, hix7] at q; exact q.2.1))⟩) (Nat.le_of_ble_eq_true rfl) (Nat.le_of_ble_eq_true rfl)) (fun F9 H locs hp11 hI => ?_)
  obtain ⟨rfl, hp11⟩ := hp11
  refine lv_aload hx hb dX2_insert_11 (lv_at hl 0 rfl) ?_
  refine lv_iload_n hx hb dX2_insert_13 rfl (lv_at hl 3 rfl) ?_
  refine lv_aload hx hb dX2_insert_14 (lv_at hl 0 rfl) ?_
  refine z_getN hx hb hts hown zlX1 rfl 1 (by decide) (List.mem_of_getElem? (i := 0) rfl) rfl hI xrhx8 rfl dX2_insert_16 ?_
  refine z_xcallv hI (z_xS (As := [.ref (B0 + 11 + 2 * i5), .int zp1, .int (nI (sn σ i5))]) (rest := []) ⟨hx, hb, hml, hown, hts⟩ hI (c_X2_requirePart l hl0 G B0 F (B0 + 11 + 2 * i5) (B0 + 12 + 2 * i5) 60 (sn σ i5) (st σ i5) zp1 (nI (sn σ i5)) ⟨xnhx8, xrhx8, fhx8, xwhx8, xfhx8⟩ (by decide)) (z_cwS vX2_requirePart hts q221 ⟨Nat.le_of_ble_eq_true rfl, Nat.le_of_ble_eq_true rfl⟩) rfl hl.1 rfl (lv_room (Nat.le_of_ble_eq_true rfl)) dX2_insert_19 ⟨Nat.le_of_ble_eq_true rfl, Nat.le_of_ble_eq_true rfl⟩) (z_out hout hlocks (fun E hE => Or.inl ⟨hE.1, fun q => hE.2 (by simp only [oA_insert, oB_insert, oC_insert, rr_insert, ss_insert, hix7] at q; obtain ⟨a9, b9, c9⟩ := q.2.2; exact ⟨a9, _, by omega, Nat.le_refl _, c9, rfl⟩)⟩) (Nat.le_of_ble_eq_true rfl) (Nat.le_of_ble_eq_true rfl)) (fun F12 H locs hp14 hI => ?_)
  have hj16 : okL (sn σ i5 + 1) zp1 := by obtain ⟨-, a9, b9, c9, d9, e9, f9⟩ := hp14; exact ⟨a9, by have := (nI_eq (by omega) (by omega)).mp f9; omega, e9⟩
  obtain ⟨rfl, -⟩ := hp14
  obtain ⟨j15, hj16, rfl⟩ := hj16
  have hix17 : ix (nI j15) = j15 := ix_nI (by omega)
  have hl : lv_has ls 5 [(4, .ref (B0 + 11 + 2 * i5)), (0, .ref B0), (1, .int (nI i5)), (2, .int (nI j15)), (3, .int zp2)] := hl
  refine lv_aload hx hb dX2_insert_22 (lv_at hl 0 rfl) ?_
  refine lv_iconst (v := nI 1) hx hb dX2_insert_24 (by decide) ?_
  refine z_xcallv hI (z_xS (As := [.ref (B0 + 11 + 2 * i5), .int (nI 1)]) (rest := []) ⟨hx, hb, hml, hown, hts⟩ hI (c_X2_requireRoom l hl0 G B0 F (B0 + 11 + 2 * i5) (B0 + 12 + 2 * i5) 60 (sn σ i5) (st σ i5) (nI 1) ⟨xnhx8, xrhx8, fhx8, xwhx8, xfhx8⟩ (by decide)) (z_cwS vX2_requireRoom hts q149 ⟨Nat.le_of_ble_eq_true rfl, Nat.le_of_ble_eq_true rfl⟩) rfl hl.1 rfl (lv_room (Nat.le_of_ble_eq_true rfl)) dX2_insert_25 ⟨Nat.le_of_ble_eq_true rfl, Nat.le_of_ble_eq_true rfl⟩) (z_out hout hlocks (fun E hE => Or.inr (Or.inl ⟨hE.1, (by simp only [oA_insert, oB_insert, oC_insert, rr_insert, ss_insert, hix7, hix17] <;> exact ⟨⟨i5, hi6, rfl⟩, hp11, ⟨j15, hj16, rfl⟩⟩), fun q => hE.2 (by simp only [oA_insert, oB_insert, oC_insert, rr_insert, ss_insert, hix7, hix17] at q; exact (nI_leI (by omega) (by omega)).mpr (by omega))⟩)) (Nat.le_of_ble_eq_true rfl) (Nat.le_of_ble_eq_true rfl)) (fun F18 H locs hp20 hI => ?_)
  obtain ⟨rfl, hp20⟩ := hp20
  have hp20 := (nI_leI (by omega) (by omega)).mp hp20
  refine lv_aload hx hb dX2_insert_28 (lv_at hl 0 rfl) ?_
  refine lv_iload_n hx hb dX2_insert_30 rfl (lv_at hl 3 rfl) ?_
  refine lv_iload_n hx hb dX2_insert_31 rfl (lv_at hl 4 rfl) ?_
  refine z_callv hI (z_V (As := [.int (nI j15), .int zp2]) (rest := []) ⟨hx, hb, hml, hown, hts⟩ hI xrhx8 rfl (c_X1_openUp l G B0 F (B0 + 11 + 2 * i5) (B0 + 12 + 2 * i5) 60 (sn σ i5) (st σ i5) j15 zp2 ⟨xnhx8, xrhx8, fhx8, xwhx8, xfhx8⟩ (by omega) (by omega) (by omega)) (z_cwV vX1_openUp hts q225 ⟨Nat.le_of_ble_eq_true rfl, Nat.le_of_ble_eq_true rfl⟩) rfl hl.1 rfl (lv_room (Nat.le_of_ble_eq_true rfl)) dX2_insert_32 ⟨Nat.le_of_ble_eq_true rfl, Nat.le_of_ble_eq_true rfl⟩) (fun F21 H locs hp23 hI => ?_)
  obtain ⟨ha24, hs24⟩ := hp23
  have hc25 : F21 B0 = some (zO 2 [.ref (B0 + 1), .ref (B0 + 2), .ref (B0 + 3), .ref (B0 + 4), .ref (B0 + 6), .ref (B0 + 8), .ref (B0 + 10)]) := (hs24 _ (by omega) (zne y01 xwhx8 (fun q => by cases q))).trans y01
  have hc26 : F21 (B0 + 1) = some (zA1 G 4 fa1) := (hs24 _ (zne y11 xrhx8 (fun q => by cases q)) (by omega)).trans y11
  have hc27 : F21 (B0 + 2) = some (zA1 G 2 fb1) := (hs24 _ (zne y21 xrhx8 (fun q => by cases q)) (by omega)).trans y21
  have hc28 : F21 (B0 + 3) = some (zAI G 100 fc1) := (hs24 _ (zne y31 xrhx8 (fun q => by cases q)) (by omega)).trans y31
  have hc29 : F21 (B0 + 10) = some (zAI G 61 fd1) := (hs24 _ (zne y101 xrhx8 (fun q => by cases q)) (by omega)).trans y101
  obtain ⟨xn_24, xr_24, f_24, xw_24, xf_24⟩ := id ha24
  refine lv_aload hx hb dX2_insert_35 (lv_at hl 0 rfl) ?_
  refine z_getN hx hb hts hown zlX1 rfl 1 (by decide) (List.mem_of_getElem? (i := 0) rfl) rfl hI xr_24 rfl dX2_insert_37 ?_
  refine vx_ret (z_ri hx hb hr hlocks hI ?_ (Nat.le_of_ble_eq_true rfl) (Nat.le_of_ble_eq_true rfl) dX2_insert_40)
  refine ⟨_, rfl, (by simp only [oA_insert, oB_insert, oC_insert, rr_insert, ss_insert, hix7, hix17] <;> exact ⟨⟨i5, hi6, rfl⟩, hp11, ⟨j15, hj16, rfl⟩⟩), (by simp only [oA_insert, oB_insert, oC_insert, rr_insert, ss_insert, hix7, hix17] <;> exact (by omega)), (by simp only [oA_insert, oB_insert, oC_insert, rr_insert, ss_insert, hix7, hix17] <;> exact trivial), (by simp only [oA_insert, oB_insert, oC_insert, rr_insert, ss_insert, hix7, hix17] <;> exact rfl), (by simp only [oA_insert, oB_insert, oC_insert, rr_insert, ss_insert, hix7, hix17] <;> exact CS.setT hC hi6 hs24 ⟨xn_24, xr_24, f_24, xw_24, xf_24⟩), zCf.sm (a := B0 + 11 + 2 * i5) (b := B0 + 12 + 2 * i5) hs24 (by omega) (by omega)⟩

set_option maxHeartbeats 4000000 in
set_option maxRecDepth 100000 in
theorem c_X2_set (l : Launch) (hl0 : l.stackTraces = false) (G : zK) (B0 : Nat) (F : zM) (σ : Sg) (zp0 zp1 zp2 : Int32) (hC : CS G B0 F σ) : vx_Met l yX2_set (Cond.code yX2_set cX2_set 6 (some FieldType.int) :: zW) (zRm 7 111 3 18) (va_Pc [.ref B0, .int zp0, .int zp1, .int zp2] (zPre G B0 F)) (zQi G B0 (fun r' F' => oA_set σ zp0 zp1 zp2 ∧ oB_set σ zp0 zp1 zp2 ∧ oC_set σ zp0 zp1 zp2 ∧ r' = rr_set σ zp0 zp1 zp2 ∧ CS G B0 F' (ss_set σ zp0 zp1 zp2) ∧ zCf B0 F F')) (zXC G B0 F (fun E => zPX zEI "" "" (oA_set σ zp0 zp1 zp2) (oB_set σ zp0 zp1 zp2) (oC_set σ zp0 zp1 zp2) E)) 3 18 (zA B0) := by
  refine z_ofx (own := RX2) (by decide) rfl (Nat.le_of_ble_eq_true rfl) ?_
  intro p e s m below meth c ls hx hb hr hml hown hlocks hout hts hl hI
  have hl : lv_has ls 6 [(0, .ref B0), (1, .int zp0), (2, .int zp1), (3, .int zp2)] := hl
  obtain ⟨y01, ⟨fa1, y11, e11⟩, ⟨fb1, y21, e21⟩, ⟨fc1, y31, e31⟩, ⟨n41, t41, y41⟩, ⟨n61, t61, y61⟩, ⟨n81, t81, y81⟩, ⟨fd1, y101⟩, yT1, yP1⟩ := id hC
  refine lv_aload_n hx hb dX2_set_0 rfl (lv_at hl 0 rfl) ?_
  refine lv_iload_n hx hb dX2_set_1 rfl (lv_at hl 1 rfl) ?_
  refine z_xcallr hI (z_xV (As := [.int zp0]) (rest := []) ⟨hx, hb, hml, hown, hts⟩ hI y01 rfl (c_X2_textAt l hl0 G B0 F σ zp0 hC) (z_cwV vX2_textAt hts q71 ⟨Nat.le_of_ble_eq_true rfl, Nat.le_of_ble_eq_true rfl⟩) rfl hl.1 rfl (lv_room (Nat.le_of_ble_eq_true rfl)) dX2_set_2 ⟨Nat.le_of_ble_eq_true rfl, Nat.le_of_ble_eq_true rfl⟩) (z_out hout hlocks (fun E hE => Or.inl ⟨hE.1, fun q => hE.2 (by first | exact q.1 | (simp only [oA_set, oB_set, oC_set, rr_set, ss_set] at q; exact q.1))⟩) (Nat.le_of_ble_eq_true rfl) (Nat.le_of_ble_eq_true rfl)) (fun r3 F2 H locs hp4 hI => ?_)
  obtain ⟨rfl, i5, hi6, rfl, rfl⟩ := hp4
  have hix7 : ix (nI i5) = i5 := ix_nI (by omega)
  have hl : lv_has ls 6 [(0, .ref B0), (1, .int (nI i5)), (2, .int zp1), (3, .int zp2)] := hl
  have hx8 := yT1 i5 hi6
  obtain ⟨xnhx8, xrhx8, fhx8, xwhx8, xfhx8⟩ := id hx8
  refine lv_astore (lv' := [(4, .ref (B0 + 11 + 2 * i5)), (0, .ref B0), (1, .int (nI i5)), (2, .int zp1), (3, .int zp2)]) hx hb dX2_set_5 hl (by decide) rfl (fun ls hl => ?_)
  refine lv_aload hx hb dX2_set_7 (lv_at hl 0 rfl) ?_
  refine lv_iload_n hx hb dX2_set_9 rfl (lv_at hl 3 rfl) ?_
  refine z_xcallv hI (z_xS (As := [.ref (B0 + 11 + 2 * i5), .int zp1]) (rest := []) ⟨hx, hb, hml, hown, hts⟩ hI (c_X2_requirePlace l hl0 G B0 F (B0 + 11 + 2 * i5) (B0 + 12 + 2 * i5) 60 (sn σ i5) (st σ i5) zp1 ⟨xnhx8, xrhx8, fhx8, xwhx8, xfhx8⟩ (by decide)) (z_cwS vX2_requirePlace hts q236 ⟨Nat.le_of_ble_eq_true rfl, Nat.le_of_ble_eq_true rfl⟩) rfl hl.1 rfl (lv_room (Nat.le_of_ble_eq_true rfl)) dX2_set_10 ⟨Nat.le_of_ble_eq_true rfl, Nat.le_of_ble_eq_true rfl⟩) (z_out hout hlocks (fun E hE => Or.inl ⟨hE.1, fun q => hE.2 (by first | exact q.2.1 | (simp only [oA_set, oB_set, oC_set, rr_set, ss_set, hix7] at q; exact q.2.1))⟩) (Nat.le_of_ble_eq_true rfl) (Nat.le_of_ble_eq_true rfl)) (fun F9 H locs hp11 hI => ?_)
  obtain ⟨rfl, j12, hj13, rfl⟩ := hp11
  have hix14 : ix (nI j12) = j12 := ix_nI (by omega)
  have hl : lv_has ls 6 [(4, .ref (B0 + 11 + 2 * i5)), (0, .ref B0), (1, .int (nI i5)), (2, .int (nI j12)), (3, .int zp2)] := hl
  refine lv_iload_n hx hb dX2_set_13 rfl (lv_at hl 4 rfl) ?_
  refine z_xcallv hI (z_xS (As := [.int zp2]) (rest := []) ⟨hx, hb, hml, hown, hts⟩ hI (c_X2_requireWord l hl0 G B0 F zp2) (z_cwS vX2_requireWord hts q145 ⟨Nat.le_of_ble_eq_true rfl, Nat.le_of_ble_eq_true rfl⟩) rfl hl.1 rfl (lv_room (Nat.le_of_ble_eq_true rfl)) dX2_set_14 ⟨Nat.le_of_ble_eq_true rfl, Nat.le_of_ble_eq_true rfl⟩) (z_out hout hlocks (fun E hE => Or.inl ⟨hE.1, fun q => hE.2 (by first | exact q.2.2 | (simp only [oA_set, oB_set, oC_set, rr_set, ss_set, hix7, hix14] at q; exact q.2.2))⟩) (Nat.le_of_ble_eq_true rfl) (Nat.le_of_ble_eq_true rfl)) (fun F15 H locs hp17 hI => ?_)
  obtain ⟨rfl, hp17⟩ := hp17
  refine lv_aload hx hb dX2_set_17 (lv_at hl 0 rfl) ?_
  refine z_getN hx hb hts hown zlX1 rfl 0 (by decide) (List.mem_of_getElem? (i := 1) rfl) rfl hI xrhx8 rfl dX2_set_19 ?_
  refine lv_iload_n hx hb dX2_set_22 rfl (lv_at hl 3 rfl) ?_
  refine z_ild (k := j12) (v := st σ i5 j12) hx hb hI xwhx8 (by omega) (by omega) (xfhx8 j12 (by omega)) dX2_set_23 ?_
  refine lv_istore (lv' := [(5, .int (st σ i5 j12)), (4, .ref (B0 + 11 + 2 * i5)), (0, .ref B0), (1, .int (nI i5)), (2, .int (nI j12)), (3, .int zp2)]) hx hb dX2_set_24 hl (by decide) rfl (fun ls hl => ?_)
  refine lv_aload hx hb dX2_set_26 (lv_at hl 1 rfl) ?_
  refine z_getN hx hb hts hown zlX1 rfl 0 (by decide) (List.mem_of_getElem? (i := 1) rfl) rfl hI xrhx8 rfl dX2_set_28 ?_
  refine lv_iload_n hx hb dX2_set_31 rfl (lv_at hl 4 rfl) ?_
  refine lv_iload_n hx hb dX2_set_32 rfl (lv_at hl 5 rfl) ?_
  refine z_ist (k := j12) hx hb hI xwhx8 (by omega) (by omega) dX2_set_33 (fun H locs F18 hw19 ho20 hI => ?_)
  have hc21 : F18 B0 = some (zO 2 [.ref (B0 + 1), .ref (B0 + 2), .ref (B0 + 3), .ref (B0 + 4), .ref (B0 + 6), .ref (B0 + 8), .ref (B0 + 10)]) := (ho20 _ (zne y01 xwhx8 (fun q => by cases q))).trans y01
  have hc22 : F18 (B0 + 1) = some (zA1 G 4 fa1) := (ho20 _ (by omega)).trans y11
  have hc23 : F18 (B0 + 2) = some (zA1 G 2 fb1) := (ho20 _ (by omega)).trans y21
  have hc24 : F18 (B0 + 3) = some (zAI G 100 fc1) := (ho20 _ (by omega)).trans y31
  have hc25 : F18 (B0 + 10) = some (zAI G 61 fd1) := (ho20 _ (by omega)).trans y101
  have hc26 : F18 (B0 + 11 + 2 * i5) = some (zO 1 [.ref (B0 + 12 + 2 * i5), .int (nI (sn σ i5))]) := (ho20 _ (zne xrhx8 xwhx8 (fun q => by cases q))).trans xrhx8
  refine lv_iload hx hb dX2_set_34 (lv_at hl 0 rfl) ?_
  refine vx_ret (z_ri hx hb hr hlocks hI ?_ (Nat.le_of_ble_eq_true rfl) (Nat.le_of_ble_eq_true rfl) dX2_set_36)
  refine ⟨_, rfl, (by simp only [oA_set, oB_set, oC_set, rr_set, ss_set, hix7, hix14] <;> exact ⟨⟨i5, hi6, rfl⟩, ⟨j12, hj13, rfl⟩, hp17⟩), (by simp only [oA_set, oB_set, oC_set, rr_set, ss_set, hix7, hix14] <;> exact trivial), (by simp only [oA_set, oB_set, oC_set, rr_set, ss_set, hix7, hix14] <;> exact trivial), (by simp only [oA_set, oB_set, oC_set, rr_set, ss_set, hix7, hix14] <;> exact rfl), (by simp only [oA_set, oB_set, oC_set, rr_set, ss_set, hix7, hix14] <;> exact CS.setT hC hi6 (zSm.r ho20) ⟨xnhx8, hc26, _, hw19, upd_cg xfhx8⟩), zCf.sm (a := B0 + 11 + 2 * i5) (b := B0 + 12 + 2 * i5) (zSm.r ho20) (by omega) (by omega)⟩

set_option maxHeartbeats 4000000 in
set_option maxRecDepth 100000 in
theorem c_X2_remove (l : Launch) (hl0 : l.stackTraces = false) (G : zK) (B0 : Nat) (F : zM) (σ : Sg) (zp0 zp1 : Int32) (hC : CS G B0 F σ) : vx_Met l yX2_remove (Cond.code yX2_remove cX2_remove 5 (some FieldType.int) :: zW) (zRm 7 111 2 12) (va_Pc [.ref B0, .int zp0, .int zp1] (zPre G B0 F)) (zQi G B0 (fun r' F' => oA_remove σ zp0 zp1 ∧ oB_remove σ zp0 zp1 ∧ oC_remove σ zp0 zp1 ∧ r' = rr_remove σ zp0 zp1 ∧ CS G B0 F' (ss_remove σ zp0 zp1) ∧ zCf B0 F F')) (zXC G B0 F (fun E => zPX zEI "" "" (oA_remove σ zp0 zp1) (oB_remove σ zp0 zp1) (oC_remove σ zp0 zp1) E)) 2 12 (zA B0) := by
  refine z_ofx (own := RX2) (by decide) rfl (Nat.le_of_ble_eq_true rfl) ?_
  intro p e s m below meth c ls hx hb hr hml hown hlocks hout hts hl hI
  have hl : lv_has ls 5 [(0, .ref B0), (1, .int zp0), (2, .int zp1)] := hl
  obtain ⟨y01, ⟨fa1, y11, e11⟩, ⟨fb1, y21, e21⟩, ⟨fc1, y31, e31⟩, ⟨n41, t41, y41⟩, ⟨n61, t61, y61⟩, ⟨n81, t81, y81⟩, ⟨fd1, y101⟩, yT1, yP1⟩ := id hC
  refine lv_aload_n hx hb dX2_remove_0 rfl (lv_at hl 0 rfl) ?_
  refine lv_iload_n hx hb dX2_remove_1 rfl (lv_at hl 1 rfl) ?_
  refine z_xcallr hI (z_xV (As := [.int zp0]) (rest := []) ⟨hx, hb, hml, hown, hts⟩ hI y01 rfl (c_X2_textAt l hl0 G B0 F σ zp0 hC) (z_cwV vX2_textAt hts q71 ⟨Nat.le_of_ble_eq_true rfl, Nat.le_of_ble_eq_true rfl⟩) rfl hl.1 rfl (lv_room (Nat.le_of_ble_eq_true rfl)) dX2_remove_2 ⟨Nat.le_of_ble_eq_true rfl, Nat.le_of_ble_eq_true rfl⟩) (z_out hout hlocks (fun E hE => Or.inl ⟨hE.1, fun q => hE.2 (by first | exact q.1 | (simp only [oA_remove, oB_remove, oC_remove, rr_remove, ss_remove] at q; exact q.1))⟩) (Nat.le_of_ble_eq_true rfl) (Nat.le_of_ble_eq_true rfl)) (fun r3 F2 H locs hp4 hI => ?_)
  obtain ⟨rfl, i5, hi6, rfl, rfl⟩ := hp4
  have hix7 : ix (nI i5) = i5 := ix_nI (by omega)
  have hl : lv_has ls 5 [(0, .ref B0), (1, .int (nI i5)), (2, .int zp1)] := hl
  have hx8 := yT1 i5 hi6
  obtain ⟨xnhx8, xrhx8, fhx8, xwhx8, xfhx8⟩ := id hx8
  refine lv_astore_n (lv' := [(3, .ref (B0 + 11 + 2 * i5)), (0, .ref B0), (1, .int (nI i5)), (2, .int zp1)]) hx hb dX2_remove_5 rfl hl (by decide) rfl (fun ls hl => ?_)
  refine lv_aload_n hx hb dX2_remove_6 rfl (lv_at hl 0 rfl) ?_
  refine lv_iload_n hx hb dX2_remove_7 rfl (lv_at hl 3 rfl) ?_
  refine z_xcallv hI (z_xS (As := [.ref (B0 + 11 + 2 * i5), .int zp1]) (rest := []) ⟨hx, hb, hml, hown, hts⟩ hI (c_X2_requirePlace l hl0 G B0 F (B0 + 11 + 2 * i5) (B0 + 12 + 2 * i5) 60 (sn σ i5) (st σ i5) zp1 ⟨xnhx8, xrhx8, fhx8, xwhx8, xfhx8⟩ (by decide)) (z_cwS vX2_requirePlace hts q236 ⟨Nat.le_of_ble_eq_true rfl, Nat.le_of_ble_eq_true rfl⟩) rfl hl.1 rfl (lv_room (Nat.le_of_ble_eq_true rfl)) dX2_remove_8 ⟨Nat.le_of_ble_eq_true rfl, Nat.le_of_ble_eq_true rfl⟩) (z_out hout hlocks (fun E hE => Or.inl ⟨hE.1, fun q => hE.2 (by first | exact q.2 | (simp only [oA_remove, oB_remove, oC_remove, rr_remove, ss_remove, hix7] at q; exact q.2))⟩) (Nat.le_of_ble_eq_true rfl) (Nat.le_of_ble_eq_true rfl)) (fun F9 H locs hp11 hI => ?_)
  obtain ⟨rfl, j12, hj13, rfl⟩ := hp11
  have hix14 : ix (nI j12) = j12 := ix_nI (by omega)
  have hl : lv_has ls 5 [(3, .ref (B0 + 11 + 2 * i5)), (0, .ref B0), (1, .int (nI i5)), (2, .int (nI j12))] := hl
  refine lv_aload_n hx hb dX2_remove_11 rfl (lv_at hl 0 rfl) ?_
  refine z_getN hx hb hts hown zlX1 rfl 0 (by decide) (List.mem_of_getElem? (i := 1) rfl) rfl hI xrhx8 rfl dX2_remove_12 ?_
  refine lv_iload_n hx hb dX2_remove_15 rfl (lv_at hl 3 rfl) ?_
  refine z_ild (k := j12) (v := st σ i5 j12) hx hb hI xwhx8 (by omega) (by omega) (xfhx8 j12 (by omega)) dX2_remove_16 ?_
  refine lv_istore (lv' := [(4, .int (st σ i5 j12)), (3, .ref (B0 + 11 + 2 * i5)), (0, .ref B0), (1, .int (nI i5)), (2, .int (nI j12))]) hx hb dX2_remove_17 hl (by decide) rfl (fun ls hl => ?_)
  refine lv_aload_n hx hb dX2_remove_19 rfl (lv_at hl 1 rfl) ?_
  refine lv_iload_n hx hb dX2_remove_20 rfl (lv_at hl 4 rfl) ?_
  refine lv_iload_n hx hb dX2_remove_21 rfl (lv_at hl 4 rfl) ?_
  refine lv_iconst (v := nI 1) hx hb dX2_remove_22 (by decide) ?_
  refine lv_iadd hx hb dX2_remove_23 ?_
  refine z_topi (nI_add j12 1) ?_
  refine z_callv hI (z_V (As := [.int (nI j12), .int (nI (j12 + 1))]) (rest := []) ⟨hx, hb, hml, hown, hts⟩ hI xrhx8 rfl (c_X1_closeUp l G B0 F (B0 + 11 + 2 * i5) (B0 + 12 + 2 * i5) 60 (sn σ i5) (st σ i5) j12 (j12 + 1) ⟨xnhx8, xrhx8, fhx8, xwhx8, xfhx8⟩ (by omega) (by omega) (by omega)) (z_cwV vX1_closeUp hts q247 ⟨Nat.le_of_ble_eq_true rfl, Nat.le_of_ble_eq_true rfl⟩) rfl hl.1 rfl (lv_room (Nat.le_of_ble_eq_true rfl)) dX2_remove_24 ⟨Nat.le_of_ble_eq_true rfl, Nat.le_of_ble_eq_true rfl⟩) (fun F15 H locs hp17 hI => ?_)
  rw [show sn σ i5 - (j12 + 1 - j12) = sn σ i5 - 1 by omega] at hp17
  obtain ⟨ha18, hs18⟩ := hp17
  have hc19 : F15 B0 = some (zO 2 [.ref (B0 + 1), .ref (B0 + 2), .ref (B0 + 3), .ref (B0 + 4), .ref (B0 + 6), .ref (B0 + 8), .ref (B0 + 10)]) := (hs18 _ (by omega) (zne y01 xwhx8 (fun q => by cases q))).trans y01
  have hc20 : F15 (B0 + 1) = some (zA1 G 4 fa1) := (hs18 _ (zne y11 xrhx8 (fun q => by cases q)) (by omega)).trans y11
  have hc21 : F15 (B0 + 2) = some (zA1 G 2 fb1) := (hs18 _ (zne y21 xrhx8 (fun q => by cases q)) (by omega)).trans y21
  have hc22 : F15 (B0 + 3) = some (zAI G 100 fc1) := (hs18 _ (zne y31 xrhx8 (fun q => by cases q)) (by omega)).trans y31
  have hc23 : F15 (B0 + 10) = some (zAI G 61 fd1) := (hs18 _ (zne y101 xrhx8 (fun q => by cases q)) (by omega)).trans y101
  obtain ⟨xn_18, xr_18, f_18, xw_18, xf_18⟩ := id ha18
  refine lv_iload hx hb dX2_remove_27 (lv_at hl 0 rfl) ?_
  refine vx_ret (z_ri hx hb hr hlocks hI ?_ (Nat.le_of_ble_eq_true rfl) (Nat.le_of_ble_eq_true rfl) dX2_remove_29)
  refine ⟨_, rfl, (by simp only [oA_remove, oB_remove, oC_remove, rr_remove, ss_remove, hix7, hix14] <;> exact ⟨⟨i5, hi6, rfl⟩, ⟨j12, hj13, rfl⟩⟩), (by simp only [oA_remove, oB_remove, oC_remove, rr_remove, ss_remove, hix7, hix14] <;> exact trivial), (by simp only [oA_remove, oB_remove, oC_remove, rr_remove, ss_remove, hix7, hix14] <;> exact trivial), (by simp only [oA_remove, oB_remove, oC_remove, rr_remove, ss_remove, hix7, hix14] <;> exact rfl), (by simp only [oA_remove, oB_remove, oC_remove, rr_remove, ss_remove, hix7, hix14] <;> exact CS.setT hC hi6 hs18 ⟨xn_18, xr_18, f_18, xw_18, xf_18⟩), zCf.sm (a := B0 + 11 + 2 * i5) (b := B0 + 12 + 2 * i5) hs18 (by omega) (by omega)⟩

set_option maxHeartbeats 4000000 in
set_option maxRecDepth 100000 in
theorem c_X2_cut (l : Launch) (hl0 : l.stackTraces = false) (G : zK) (B0 : Nat) (F : zM) (σ : Sg) (zp0 zp1 zp2 : Int32) (hC : CS G B0 F σ) : vx_Met l yX2_cut (Cond.code yX2_cut cX2_cut 5 (some FieldType.int) :: zW) (zRm 7 112 2 12) (va_Pc [.ref B0, .int zp0, .int zp1, .int zp2] (zPre G B0 F)) (zQi G B0 (fun r' F' => oA_cut σ zp0 zp1 zp2 ∧ oB_cut σ zp0 zp1 zp2 ∧ oC_cut σ zp0 zp1 zp2 ∧ r' = rr_cut σ zp0 zp1 zp2 ∧ CS G B0 F' (ss_cut σ zp0 zp1 zp2) ∧ zCf B0 F F')) (zXC G B0 F (fun E => zPX zEI "" "" (oA_cut σ zp0 zp1 zp2) (oB_cut σ zp0 zp1 zp2) (oC_cut σ zp0 zp1 zp2) E)) 2 12 (zA B0) := by
  refine z_ofx (own := RX2) (by decide) rfl (Nat.le_of_ble_eq_true rfl) ?_
  intro p e s m below meth c ls hx hb hr hml hown hlocks hout hts hl hI
  have hl : lv_has ls 5 [(0, .ref B0), (1, .int zp0), (2, .int zp1), (3, .int zp2)] := hl
  obtain ⟨y01, ⟨fa1, y11, e11⟩, ⟨fb1, y21, e21⟩, ⟨fc1, y31, e31⟩, ⟨n41, t41, y41⟩, ⟨n61, t61, y61⟩, ⟨n81, t81, y81⟩, ⟨fd1, y101⟩, yT1, yP1⟩ := id hC
  refine lv_aload_n hx hb dX2_cut_0 rfl (lv_at hl 0 rfl) ?_
  refine lv_iload_n hx hb dX2_cut_1 rfl (lv_at hl 1 rfl) ?_
  refine z_xcallr hI (z_xV (As := [.int zp0]) (rest := []) ⟨hx, hb, hml, hown, hts⟩ hI y01 rfl (c_X2_textAt l hl0 G B0 F σ zp0 hC) (z_cwV vX2_textAt hts q71 ⟨Nat.le_of_ble_eq_true rfl, Nat.le_of_ble_eq_true rfl⟩) rfl hl.1 rfl (lv_room (Nat.le_of_ble_eq_true rfl)) dX2_cut_2 ⟨Nat.le_of_ble_eq_true rfl, Nat.le_of_ble_eq_true rfl⟩) (z_out hout hlocks (fun E hE => Or.inl ⟨hE.1, fun q => hE.2 (by first | exact q.1 | (simp only [oA_cut, oB_cut, oC_cut, rr_cut, ss_cut] at q; exact q.1))⟩) (Nat.le_of_ble_eq_true rfl) (Nat.le_of_ble_eq_true rfl)) (fun r3 F2 H locs hp4 hI => ?_)
  obtain ⟨rfl, i5, hi6, rfl, rfl⟩ := hp4
  have hix7 : ix (nI i5) = i5 := ix_nI (by omega)
  have hl : lv_has ls 5 [(0, .ref B0), (1, .int (nI i5)), (2, .int zp1), (3, .int zp2)] := hl
  have hx8 := yT1 i5 hi6
  obtain ⟨xnhx8, xrhx8, fhx8, xwhx8, xfhx8⟩ := id hx8
  refine lv_astore (lv' := [(4, .ref (B0 + 11 + 2 * i5)), (0, .ref B0), (1, .int (nI i5)), (2, .int zp1), (3, .int zp2)]) hx hb dX2_cut_5 hl (by decide) rfl (fun ls hl => ?_)
  refine lv_aload hx hb dX2_cut_7 (lv_at hl 0 rfl) ?_
  refine lv_iload_n hx hb dX2_cut_9 rfl (lv_at hl 3 rfl) ?_
  refine lv_iload_n hx hb dX2_cut_10 rfl (lv_at hl 4 rfl) ?_
  refine z_xcallv hI (z_xS (As := [.ref (B0 + 11 + 2 * i5), .int zp1, .int zp2]) (rest := []) ⟨hx, hb, hml, hown, hts⟩ hI (c_X2_requirePart l hl0 G B0 F (B0 + 11 + 2 * i5) (B0 + 12 + 2 * i5) 60 (sn σ i5) (st σ i5) zp1 zp2 ⟨xnhx8, xrhx8, fhx8, xwhx8, xfhx8⟩ (by decide)) (z_cwS vX2_requirePart hts q221 ⟨Nat.le_of_ble_eq_true rfl, Nat.le_of_ble_eq_true rfl⟩) rfl hl.1 rfl (lv_room (Nat.le_of_ble_eq_true rfl)) dX2_cut_11 ⟨Nat.le_of_ble_eq_true rfl, Nat.le_of_ble_eq_true rfl⟩) (z_out hout hlocks (fun E hE => Or.inl ⟨hE.1, fun q => hE.2 (by first | exact q.2 | (simp only [oA_cut, oB_cut, oC_cut, rr_cut, ss_cut, hix7] at q; exact q.2))⟩) (Nat.le_of_ble_eq_true rfl) (Nat.le_of_ble_eq_true rfl)) (fun F9 H locs hp11 hI => ?_)
  obtain ⟨rfl, a12, b13, hab14, hbn15, rfl, rfl⟩ := hp11
  have hix16 : ix (nI a12) = a12 := ix_nI (by omega)
  have hix17 : ix (nI b13) = b13 := ix_nI (by omega)
  have hl : lv_has ls 5 [(4, .ref (B0 + 11 + 2 * i5)), (0, .ref B0), (1, .int (nI i5)), (2, .int (nI a12)), (3, .int (nI b13))] := hl
  refine lv_aload hx hb dX2_cut_14 (lv_at hl 0 rfl) ?_
  refine lv_iload_n hx hb dX2_cut_16 rfl (lv_at hl 3 rfl) ?_
  refine lv_iload_n hx hb dX2_cut_17 rfl (lv_at hl 4 rfl) ?_
  refine z_callv hI (z_V (As := [.int (nI a12), .int (nI b13)]) (rest := []) ⟨hx, hb, hml, hown, hts⟩ hI xrhx8 rfl (c_X1_closeUp l G B0 F (B0 + 11 + 2 * i5) (B0 + 12 + 2 * i5) 60 (sn σ i5) (st σ i5) a12 b13 ⟨xnhx8, xrhx8, fhx8, xwhx8, xfhx8⟩ (by omega) (by omega) (by omega)) (z_cwV vX1_closeUp hts q247 ⟨Nat.le_of_ble_eq_true rfl, Nat.le_of_ble_eq_true rfl⟩) rfl hl.1 rfl (lv_room (Nat.le_of_ble_eq_true rfl)) dX2_cut_18 ⟨Nat.le_of_ble_eq_true rfl, Nat.le_of_ble_eq_true rfl⟩) (fun F18 H locs hp20 hI => ?_)
  obtain ⟨ha21, hs21⟩ := hp20
  have hc22 : F18 B0 = some (zO 2 [.ref (B0 + 1), .ref (B0 + 2), .ref (B0 + 3), .ref (B0 + 4), .ref (B0 + 6), .ref (B0 + 8), .ref (B0 + 10)]) := (hs21 _ (by omega) (zne y01 xwhx8 (fun q => by cases q))).trans y01
  have hc23 : F18 (B0 + 1) = some (zA1 G 4 fa1) := (hs21 _ (zne y11 xrhx8 (fun q => by cases q)) (by omega)).trans y11
  have hc24 : F18 (B0 + 2) = some (zA1 G 2 fb1) := (hs21 _ (zne y21 xrhx8 (fun q => by cases q)) (by omega)).trans y21
  have hc25 : F18 (B0 + 3) = some (zAI G 100 fc1) := (hs21 _ (zne y31 xrhx8 (fun q => by cases q)) (by omega)).trans y31
  have hc26 : F18 (B0 + 10) = some (zAI G 61 fd1) := (hs21 _ (zne y101 xrhx8 (fun q => by cases q)) (by omega)).trans y101
  obtain ⟨xn_21, xr_21, f_21, xw_21, xf_21⟩ := id ha21
  refine lv_aload hx hb dX2_cut_21 (lv_at hl 0 rfl) ?_
  refine z_getN hx hb hts hown zlX1 rfl 1 (by decide) (List.mem_of_getElem? (i := 0) rfl) rfl hI xr_21 rfl dX2_cut_23 ?_
  refine vx_ret (z_ri hx hb hr hlocks hI ?_ (Nat.le_of_ble_eq_true rfl) (Nat.le_of_ble_eq_true rfl) dX2_cut_26)
  refine ⟨_, rfl, (by simp only [oA_cut, oB_cut, oC_cut, rr_cut, ss_cut, hix7, hix16, hix17] <;> exact ⟨⟨i5, hi6, rfl⟩, ⟨a12, b13, hab14, hbn15, rfl, rfl⟩⟩), (by simp only [oA_cut, oB_cut, oC_cut, rr_cut, ss_cut, hix7, hix16, hix17] <;> exact trivial), (by simp only [oA_cut, oB_cut, oC_cut, rr_cut, ss_cut, hix7, hix16, hix17] <;> exact trivial), (by simp only [oA_cut, oB_cut, oC_cut, rr_cut, ss_cut, hix7, hix16, hix17] <;> exact rfl), (by simp only [oA_cut, oB_cut, oC_cut, rr_cut, ss_cut, hix7, hix16, hix17] <;> exact CS.setT hC hi6 hs21 ⟨xn_21, xr_21, f_21, xw_21, xf_21⟩), zCf.sm (a := B0 + 11 + 2 * i5) (b := B0 + 12 + 2 * i5) hs21 (by omega) (by omega)⟩

set_option maxHeartbeats 4000000 in
set_option maxRecDepth 100000 in
theorem c_X2_wordOf (l : Launch) (hl0 : l.stackTraces = false) (G : zK) (B0 : Nat) (F : zM) (σ : Sg) (zp0 zp1 : Int32) (hC : CS G B0 F σ) : vx_Met l yX2_wordOf (Cond.code yX2_wordOf cX2_wordOf 4 (some FieldType.int) :: zW) (zRm 7 111 2 12) (va_Pc [.ref B0, .int zp0, .int zp1] (zPre G B0 F)) (zQi G B0 (fun r' F' => oA_wordOf σ zp0 zp1 ∧ oB_wordOf σ zp0 zp1 ∧ oC_wordOf σ zp0 zp1 ∧ r' = rr_wordOf σ zp0 zp1 ∧ CS G B0 F' (ss_wordOf σ zp0 zp1) ∧ zCf B0 F F')) (zXC G B0 F (fun E => zPX zEI "" "" (oA_wordOf σ zp0 zp1) (oB_wordOf σ zp0 zp1) (oC_wordOf σ zp0 zp1) E)) 2 12 (zA B0) := by
  refine z_ofx (own := RX2) (by decide) rfl (Nat.le_of_ble_eq_true rfl) ?_
  intro p e s m below meth c ls hx hb hr hml hown hlocks hout hts hl hI
  have hl : lv_has ls 4 [(0, .ref B0), (1, .int zp0), (2, .int zp1)] := hl
  obtain ⟨y01, ⟨fa1, y11, e11⟩, ⟨fb1, y21, e21⟩, ⟨fc1, y31, e31⟩, ⟨n41, t41, y41⟩, ⟨n61, t61, y61⟩, ⟨n81, t81, y81⟩, ⟨fd1, y101⟩, yT1, yP1⟩ := id hC
  refine lv_aload_n hx hb dX2_wordOf_0 rfl (lv_at hl 0 rfl) ?_
  refine lv_iload_n hx hb dX2_wordOf_1 rfl (lv_at hl 1 rfl) ?_
  refine z_xcallr hI (z_xV (As := [.int zp0]) (rest := []) ⟨hx, hb, hml, hown, hts⟩ hI y01 rfl (c_X2_phraseAt l hl0 G B0 F σ zp0 hC) (z_cwV vX2_phraseAt hts q293 ⟨Nat.le_of_ble_eq_true rfl, Nat.le_of_ble_eq_true rfl⟩) rfl hl.1 rfl (lv_room (Nat.le_of_ble_eq_true rfl)) dX2_wordOf_2 ⟨Nat.le_of_ble_eq_true rfl, Nat.le_of_ble_eq_true rfl⟩) (z_out hout hlocks (fun E hE => Or.inl ⟨hE.1, fun q => hE.2 (by first | exact q.1 | (simp only [oA_wordOf, oB_wordOf, oC_wordOf, rr_wordOf, ss_wordOf] at q; exact q.1))⟩) (Nat.le_of_ble_eq_true rfl) (Nat.le_of_ble_eq_true rfl)) (fun r3 F2 H locs hp4 hI => ?_)
  obtain ⟨rfl, i5, hi6, rfl, rfl⟩ := hp4
  have hix7 : ix (nI i5) = i5 := ix_nI (by omega)
  have hl : lv_has ls 4 [(0, .ref B0), (1, .int (nI i5)), (2, .int zp1)] := hl
  have hx8 := yP1 i5 hi6
  obtain ⟨xnhx8, xrhx8, fhx8, xwhx8, xfhx8⟩ := id hx8
  refine lv_astore_n (lv' := [(3, .ref (B0 + 19 + 2 * i5)), (0, .ref B0), (1, .int (nI i5)), (2, .int zp1)]) hx hb dX2_wordOf_5 rfl hl (by decide) rfl (fun ls hl => ?_)
  refine lv_aload_n hx hb dX2_wordOf_6 rfl (lv_at hl 0 rfl) ?_
  refine lv_iload_n hx hb dX2_wordOf_7 rfl (lv_at hl 3 rfl) ?_
  refine z_xcallv hI (z_xS (As := [.ref (B0 + 19 + 2 * i5), .int zp1]) (rest := []) ⟨hx, hb, hml, hown, hts⟩ hI (c_X2_requirePlace l hl0 G B0 F (B0 + 19 + 2 * i5) (B0 + 20 + 2 * i5) 12 (pn σ i5) (pt σ i5) zp1 ⟨xnhx8, xrhx8, fhx8, xwhx8, xfhx8⟩ (by decide)) (z_cwS vX2_requirePlace hts q236 ⟨Nat.le_of_ble_eq_true rfl, Nat.le_of_ble_eq_true rfl⟩) rfl hl.1 rfl (lv_room (Nat.le_of_ble_eq_true rfl)) dX2_wordOf_8 ⟨Nat.le_of_ble_eq_true rfl, Nat.le_of_ble_eq_true rfl⟩) (z_out hout hlocks (fun E hE => Or.inl ⟨hE.1, fun q => hE.2 (by first | exact q.2 | (simp only [oA_wordOf, oB_wordOf, oC_wordOf, rr_wordOf, ss_wordOf, hix7] at q; exact q.2))⟩) (Nat.le_of_ble_eq_true rfl) (Nat.le_of_ble_eq_true rfl)) (fun F9 H locs hp11 hI => ?_)
  obtain ⟨rfl, j12, hj13, rfl⟩ := hp11
  have hix14 : ix (nI j12) = j12 := ix_nI (by omega)
  have hl : lv_has ls 4 [(3, .ref (B0 + 19 + 2 * i5)), (0, .ref B0), (1, .int (nI i5)), (2, .int (nI j12))] := hl
  refine lv_aload_n hx hb dX2_wordOf_11 rfl (lv_at hl 0 rfl) ?_
  refine z_getN hx hb hts hown zlX1 rfl 0 (by decide) (List.mem_of_getElem? (i := 1) rfl) rfl hI xrhx8 rfl dX2_wordOf_12 ?_
  refine lv_iload_n hx hb dX2_wordOf_15 rfl (lv_at hl 3 rfl) ?_
  refine z_ild (k := j12) (v := pt σ i5 j12) hx hb hI xwhx8 (by omega) (by omega) (xfhx8 j12 (by omega)) dX2_wordOf_16 ?_
  refine vx_ret (z_ri hx hb hr hlocks hI ?_ (Nat.le_of_ble_eq_true rfl) (Nat.le_of_ble_eq_true rfl) dX2_wordOf_17)
  refine ⟨_, rfl, (by simp only [oA_wordOf, oB_wordOf, oC_wordOf, rr_wordOf, ss_wordOf, hix7, hix14] <;> exact ⟨⟨i5, hi6, rfl⟩, ⟨j12, hj13, rfl⟩⟩), (by simp only [oA_wordOf, oB_wordOf, oC_wordOf, rr_wordOf, ss_wordOf, hix7, hix14] <;> exact trivial), (by simp only [oA_wordOf, oB_wordOf, oC_wordOf, rr_wordOf, ss_wordOf, hix7, hix14] <;> exact trivial), (by simp only [oA_wordOf, oB_wordOf, oC_wordOf, rr_wordOf, ss_wordOf, hix7, hix14] <;> exact rfl), (by simp only [oA_wordOf, oB_wordOf, oC_wordOf, rr_wordOf, ss_wordOf, hix7, hix14] <;> exact hC), zCf.rf⟩

set_option maxHeartbeats 4000000 in
set_option maxRecDepth 100000 in
theorem c_X2_say (l : Launch) (hl0 : l.stackTraces = false) (G : zK) (B0 : Nat) (F : zM) (σ : Sg) (zp0 zp1 : Int32) (hC : CS G B0 F σ) : vx_Met l yX2_say (Cond.code yX2_say cX2_say 4 (some FieldType.int) :: zW) (zRm 7 111 3 18) (va_Pc [.ref B0, .int zp0, .int zp1] (zPre G B0 F)) (zQi G B0 (fun r' F' => oA_say σ zp0 zp1 ∧ oB_say σ zp0 zp1 ∧ oC_say σ zp0 zp1 ∧ r' = rr_say σ zp0 zp1 ∧ CS G B0 F' (ss_say σ zp0 zp1) ∧ zCf B0 F F')) (zXC G B0 F (fun E => zPX zEI zES "" (oA_say σ zp0 zp1) (oB_say σ zp0 zp1) (oC_say σ zp0 zp1) E)) 3 18 (zA B0) := by
  refine z_ofx (own := RX2) (by decide) rfl (Nat.le_of_ble_eq_true rfl) ?_
  intro p e s m below meth c ls hx hb hr hml hown hlocks hout hts hl hI
  have hl : lv_has ls 4 [(0, .ref B0), (1, .int zp0), (2, .int zp1)] := hl
  obtain ⟨y01, ⟨fa1, y11, e11⟩, ⟨fb1, y21, e21⟩, ⟨fc1, y31, e31⟩, ⟨n41, t41, y41⟩, ⟨n61, t61, y61⟩, ⟨n81, t81, y81⟩, ⟨fd1, y101⟩, yT1, yP1⟩ := id hC
  refine lv_aload_n hx hb dX2_say_0 rfl (lv_at hl 0 rfl) ?_
  refine lv_iload_n hx hb dX2_say_1 rfl (lv_at hl 1 rfl) ?_
  refine z_xcallr hI (z_xV (As := [.int zp0]) (rest := []) ⟨hx, hb, hml, hown, hts⟩ hI y01 rfl (c_X2_phraseAt l hl0 G B0 F σ zp0 hC) (z_cwV vX2_phraseAt hts q293 ⟨Nat.le_of_ble_eq_true rfl, Nat.le_of_ble_eq_true rfl⟩) rfl hl.1 rfl (lv_room (Nat.le_of_ble_eq_true rfl)) dX2_say_2 ⟨Nat.le_of_ble_eq_true rfl, Nat.le_of_ble_eq_true rfl⟩) (z_out hout hlocks (fun E hE => Or.inl ⟨hE.1, fun q => hE.2 (by first | exact q.1 | (simp only [oA_say, oB_say, oC_say, rr_say, ss_say] at q; exact q.1))⟩) (Nat.le_of_ble_eq_true rfl) (Nat.le_of_ble_eq_true rfl)) (fun r3 F2 H locs hp4 hI => ?_)
  obtain ⟨rfl, i5, hi6, rfl, rfl⟩ := hp4
  have hix7 : ix (nI i5) = i5 := ix_nI (by omega)
  have hl : lv_has ls 4 [(0, .ref B0), (1, .int (nI i5)), (2, .int zp1)] := hl
  have hx8 := yP1 i5 hi6
  obtain ⟨xnhx8, xrhx8, fhx8, xwhx8, xfhx8⟩ := id hx8
  refine lv_astore_n (lv' := [(3, .ref (B0 + 19 + 2 * i5)), (0, .ref B0), (1, .int (nI i5)), (2, .int zp1)]) hx hb dX2_say_5 rfl hl (by decide) rfl (fun ls hl => ?_)
  refine lv_iload_n hx hb dX2_say_6 rfl (lv_at hl 3 rfl) ?_
  refine z_xcallv hI (z_xS (As := [.int zp1]) (rest := []) ⟨hx, hb, hml, hown, hts⟩ hI (c_X2_requireWord l hl0 G B0 F zp1) (z_cwS vX2_requireWord hts q145 ⟨Nat.le_of_ble_eq_true rfl, Nat.le_of_ble_eq_true rfl⟩) rfl hl.1 rfl (lv_room (Nat.le_of_ble_eq_true rfl)) dX2_say_7 ⟨Nat.le_of_ble_eq_true rfl, Nat.le_of_ble_eq_true rfl⟩) (z_out hout hlocks (fun E hE => Or.inl ⟨hE.1, fun q => hE.2 (by first | exact q.2 | (simp only [oA_say, oB_say, oC_say, rr_say, ss_say, hix7] at q; exact q.2))⟩) (Nat.le_of_ble_eq_true rfl) (Nat.le_of_ble_eq_true rfl)) (fun F9 H locs hp11 hI => ?_)
  obtain ⟨rfl, hp11⟩ := hp11
  refine lv_aload_n hx hb dX2_say_10 rfl (lv_at hl 0 rfl) ?_
  refine lv_iconst (v := nI 1) hx hb dX2_say_11 (by decide) ?_
  refine z_xcallv hI (z_xS (As := [.ref (B0 + 19 + 2 * i5), .int (nI 1)]) (rest := []) ⟨hx, hb, hml, hown, hts⟩ hI (c_X2_requireRoom l hl0 G B0 F (B0 + 19 + 2 * i5) (B0 + 20 + 2 * i5) 12 (pn σ i5) (pt σ i5) (nI 1) ⟨xnhx8, xrhx8, fhx8, xwhx8, xfhx8⟩ (by decide)) (z_cwS vX2_requireRoom hts q149 ⟨Nat.le_of_ble_eq_true rfl, Nat.le_of_ble_eq_true rfl⟩) rfl hl.1 rfl (lv_room (Nat.le_of_ble_eq_true rfl)) dX2_say_12 ⟨Nat.le_of_ble_eq_true rfl, Nat.le_of_ble_eq_true rfl⟩) (z_out hout hlocks (fun E hE => Or.inr (Or.inl ⟨hE.1, (by simp only [oA_say, oB_say, oC_say, rr_say, ss_say, hix7] <;> exact ⟨⟨i5, hi6, rfl⟩, hp11⟩), fun q => hE.2 (by simp only [oA_say, oB_say, oC_say, rr_say, ss_say, hix7] at q; exact (nI_leI (by omega) (by omega)).mpr (by omega))⟩)) (Nat.le_of_ble_eq_true rfl) (Nat.le_of_ble_eq_true rfl)) (fun F12 H locs hp14 hI => ?_)
  obtain ⟨rfl, hp14⟩ := hp14
  have hp14 := (nI_leI (by omega) (by omega)).mp hp14
  refine lv_aload_n hx hb dX2_say_15 rfl (lv_at hl 0 rfl) ?_
  refine lv_iload_n hx hb dX2_say_16 rfl (lv_at hl 3 rfl) ?_
  refine z_callv hI (z_V (As := [.int zp1]) (rest := []) ⟨hx, hb, hml, hown, hts⟩ hI xrhx8 rfl (c_X1_append l G B0 F (B0 + 19 + 2 * i5) (B0 + 20 + 2 * i5) 12 (pn σ i5) (pt σ i5) zp1 ⟨xnhx8, xrhx8, fhx8, xwhx8, xfhx8⟩ (by omega) (by omega)) (z_cwV vX1_append hts q168 ⟨Nat.le_of_ble_eq_true rfl, Nat.le_of_ble_eq_true rfl⟩) rfl hl.1 rfl (lv_room (Nat.le_of_ble_eq_true rfl)) dX2_say_17 ⟨Nat.le_of_ble_eq_true rfl, Nat.le_of_ble_eq_true rfl⟩) (fun F15 H locs hp17 hI => ?_)
  obtain ⟨ha18, hs18⟩ := hp17
  have hc19 : F15 B0 = some (zO 2 [.ref (B0 + 1), .ref (B0 + 2), .ref (B0 + 3), .ref (B0 + 4), .ref (B0 + 6), .ref (B0 + 8), .ref (B0 + 10)]) := (hs18 _ (by omega) (zne y01 xwhx8 (fun q => by cases q))).trans y01
  have hc20 : F15 (B0 + 1) = some (zA1 G 4 fa1) := (hs18 _ (zne y11 xrhx8 (fun q => by cases q)) (by omega)).trans y11
  have hc21 : F15 (B0 + 2) = some (zA1 G 2 fb1) := (hs18 _ (zne y21 xrhx8 (fun q => by cases q)) (by omega)).trans y21
  have hc22 : F15 (B0 + 3) = some (zAI G 100 fc1) := (hs18 _ (zne y31 xrhx8 (fun q => by cases q)) (by omega)).trans y31
  have hc23 : F15 (B0 + 10) = some (zAI G 61 fd1) := (hs18 _ (zne y101 xrhx8 (fun q => by cases q)) (by omega)).trans y101
  obtain ⟨xn_18, xr_18, f_18, xw_18, xf_18⟩ := id ha18
  refine lv_aload_n hx hb dX2_say_20 rfl (lv_at hl 0 rfl) ?_
  refine z_getN hx hb hts hown zlX1 rfl 1 (by decide) (List.mem_of_getElem? (i := 0) rfl) rfl hI xr_18 rfl dX2_say_21 ?_
  refine vx_ret (z_ri hx hb hr hlocks hI ?_ (Nat.le_of_ble_eq_true rfl) (Nat.le_of_ble_eq_true rfl) dX2_say_24)
  refine ⟨_, rfl, (by simp only [oA_say, oB_say, oC_say, rr_say, ss_say, hix7] <;> exact ⟨⟨i5, hi6, rfl⟩, hp11⟩), (by simp only [oA_say, oB_say, oC_say, rr_say, ss_say, hix7] <;> exact (by omega)), (by simp only [oA_say, oB_say, oC_say, rr_say, ss_say, hix7] <;> exact trivial), (by simp only [oA_say, oB_say, oC_say, rr_say, ss_say, hix7] <;> exact rfl), (by simp only [oA_say, oB_say, oC_say, rr_say, ss_say, hix7] <;> exact CS.setP hC hi6 hs18 ⟨xn_18, xr_18, f_18, xw_18, xf_18⟩), zCf.sm (a := B0 + 19 + 2 * i5) (b := B0 + 20 + 2 * i5) hs18 (by omega) (by omega)⟩

set_option maxHeartbeats 4000000 in
set_option maxRecDepth 100000 in
theorem c_X2_turn (l : Launch) (hl0 : l.stackTraces = false) (G : zK) (B0 : Nat) (F : zM) (σ : Sg) (zp0 zp1 zp2 : Int32) (hC : CS G B0 F σ) : vx_Met l yX2_turn (Cond.code yX2_turn cX2_turn 5 (some FieldType.int) :: zW) (zRm 7 112 2 12) (va_Pc [.ref B0, .int zp0, .int zp1, .int zp2] (zPre G B0 F)) (zQi G B0 (fun r' F' => oA_turn σ zp0 zp1 zp2 ∧ oB_turn σ zp0 zp1 zp2 ∧ oC_turn σ zp0 zp1 zp2 ∧ r' = rr_turn σ zp0 zp1 zp2 ∧ CS G B0 F' (ss_turn σ zp0 zp1 zp2) ∧ zCf B0 F F')) (zXC G B0 F (fun E => zPX zEI "" "" (oA_turn σ zp0 zp1 zp2) (oB_turn σ zp0 zp1 zp2) (oC_turn σ zp0 zp1 zp2) E)) 2 12 (zA B0) := by
  refine z_ofx (own := RX2) (by decide) rfl (Nat.le_of_ble_eq_true rfl) ?_
  intro p e s m below meth c ls hx hb hr hml hown hlocks hout hts hl hI
  have hl : lv_has ls 5 [(0, .ref B0), (1, .int zp0), (2, .int zp1), (3, .int zp2)] := hl
  obtain ⟨y01, ⟨fa1, y11, e11⟩, ⟨fb1, y21, e21⟩, ⟨fc1, y31, e31⟩, ⟨n41, t41, y41⟩, ⟨n61, t61, y61⟩, ⟨n81, t81, y81⟩, ⟨fd1, y101⟩, yT1, yP1⟩ := id hC
  refine lv_aload_n hx hb dX2_turn_0 rfl (lv_at hl 0 rfl) ?_
  refine lv_iload_n hx hb dX2_turn_1 rfl (lv_at hl 1 rfl) ?_
  refine z_xcallr hI (z_xV (As := [.int zp0]) (rest := []) ⟨hx, hb, hml, hown, hts⟩ hI y01 rfl (c_X2_textAt l hl0 G B0 F σ zp0 hC) (z_cwV vX2_textAt hts q71 ⟨Nat.le_of_ble_eq_true rfl, Nat.le_of_ble_eq_true rfl⟩) rfl hl.1 rfl (lv_room (Nat.le_of_ble_eq_true rfl)) dX2_turn_2 ⟨Nat.le_of_ble_eq_true rfl, Nat.le_of_ble_eq_true rfl⟩) (z_out hout hlocks (fun E hE => Or.inl ⟨hE.1, fun q => hE.2 (by first | exact q.1 | (simp only [oA_turn, oB_turn, oC_turn, rr_turn, ss_turn] at q; exact q.1))⟩) (Nat.le_of_ble_eq_true rfl) (Nat.le_of_ble_eq_true rfl)) (fun r3 F2 H locs hp4 hI => ?_)
  obtain ⟨rfl, i5, hi6, rfl, rfl⟩ := hp4
  have hix7 : ix (nI i5) = i5 := ix_nI (by omega)
  have hl : lv_has ls 5 [(0, .ref B0), (1, .int (nI i5)), (2, .int zp1), (3, .int zp2)] := hl
  have hx8 := yT1 i5 hi6
  obtain ⟨xnhx8, xrhx8, fhx8, xwhx8, xfhx8⟩ := id hx8
  refine lv_astore (lv' := [(4, .ref (B0 + 11 + 2 * i5)), (0, .ref B0), (1, .int (nI i5)), (2, .int zp1), (3, .int zp2)]) hx hb dX2_turn_5 hl (by decide) rfl (fun ls hl => ?_)
  refine lv_aload hx hb dX2_turn_7 (lv_at hl 0 rfl) ?_
  refine lv_iload_n hx hb dX2_turn_9 rfl (lv_at hl 3 rfl) ?_
  refine lv_iload_n hx hb dX2_turn_10 rfl (lv_at hl 4 rfl) ?_
  refine z_xcallv hI (z_xS (As := [.ref (B0 + 11 + 2 * i5), .int zp1, .int zp2]) (rest := []) ⟨hx, hb, hml, hown, hts⟩ hI (c_X2_requirePart l hl0 G B0 F (B0 + 11 + 2 * i5) (B0 + 12 + 2 * i5) 60 (sn σ i5) (st σ i5) zp1 zp2 ⟨xnhx8, xrhx8, fhx8, xwhx8, xfhx8⟩ (by decide)) (z_cwS vX2_requirePart hts q221 ⟨Nat.le_of_ble_eq_true rfl, Nat.le_of_ble_eq_true rfl⟩) rfl hl.1 rfl (lv_room (Nat.le_of_ble_eq_true rfl)) dX2_turn_11 ⟨Nat.le_of_ble_eq_true rfl, Nat.le_of_ble_eq_true rfl⟩) (z_out hout hlocks (fun E hE => Or.inl ⟨hE.1, fun q => hE.2 (by first | exact q.2 | (simp only [oA_turn, oB_turn, oC_turn, rr_turn, ss_turn, hix7] at q; exact q.2))⟩) (Nat.le_of_ble_eq_true rfl) (Nat.le_of_ble_eq_true rfl)) (fun F9 H locs hp11 hI => ?_)
  obtain ⟨rfl, a12, b13, hab14, hbn15, rfl, rfl⟩ := hp11
  have hix16 : ix (nI a12) = a12 := ix_nI (by omega)
  have hix17 : ix (nI b13) = b13 := ix_nI (by omega)
  have hl : lv_has ls 5 [(4, .ref (B0 + 11 + 2 * i5)), (0, .ref B0), (1, .int (nI i5)), (2, .int (nI a12)), (3, .int (nI b13))] := hl
  refine lv_aload hx hb dX2_turn_14 (lv_at hl 0 rfl) ?_
  refine lv_iload_n hx hb dX2_turn_16 rfl (lv_at hl 3 rfl) ?_
  refine lv_iload_n hx hb dX2_turn_17 rfl (lv_at hl 4 rfl) ?_
  refine z_callv hI (z_V (As := [.int (nI a12), .int (nI b13)]) (rest := []) ⟨hx, hb, hml, hown, hts⟩ hI xrhx8 rfl (c_X1_turnRound l G B0 F (B0 + 11 + 2 * i5) (B0 + 12 + 2 * i5) 60 (sn σ i5) (st σ i5) a12 b13 ⟨xnhx8, xrhx8, fhx8, xwhx8, xfhx8⟩ (by omega) (by omega) (by omega)) (z_cwV vX1_turnRound hts q539 ⟨Nat.le_of_ble_eq_true rfl, Nat.le_of_ble_eq_true rfl⟩) rfl hl.1 rfl (lv_room (Nat.le_of_ble_eq_true rfl)) dX2_turn_18 ⟨Nat.le_of_ble_eq_true rfl, Nat.le_of_ble_eq_true rfl⟩) (fun F18 H locs hp20 hI => ?_)
  obtain ⟨ha21, hs21⟩ := hp20
  have hc22 : F18 B0 = some (zO 2 [.ref (B0 + 1), .ref (B0 + 2), .ref (B0 + 3), .ref (B0 + 4), .ref (B0 + 6), .ref (B0 + 8), .ref (B0 + 10)]) := (hs21 _ (by omega) (zne y01 xwhx8 (fun q => by cases q))).trans y01
  have hc23 : F18 (B0 + 1) = some (zA1 G 4 fa1) := (hs21 _ (zne y11 xrhx8 (fun q => by cases q)) (by omega)).trans y11
  have hc24 : F18 (B0 + 2) = some (zA1 G 2 fb1) := (hs21 _ (zne y21 xrhx8 (fun q => by cases q)) (by omega)).trans y21
  have hc25 : F18 (B0 + 3) = some (zAI G 100 fc1) := (hs21 _ (zne y31 xrhx8 (fun q => by cases q)) (by omega)).trans y31
  have hc26 : F18 (B0 + 10) = some (zAI G 61 fd1) := (hs21 _ (zne y101 xrhx8 (fun q => by cases q)) (by omega)).trans y101
  obtain ⟨xn_21, xr_21, f_21, xw_21, xf_21⟩ := id ha21
  refine lv_iload_n hx hb dX2_turn_21 rfl (lv_at hl 4 rfl) ?_
  refine lv_iload_n hx hb dX2_turn_22 rfl (lv_at hl 3 rfl) ?_
  refine lv_isub hx hb dX2_turn_23 ?_
  refine z_topi (pk_sub (a := b13) (b := a12) (by omega)) ?_
  refine vx_ret (z_ri hx hb hr hlocks hI ?_ (Nat.le_of_ble_eq_true rfl) (Nat.le_of_ble_eq_true rfl) dX2_turn_24)
  refine ⟨_, rfl, (by simp only [oA_turn, oB_turn, oC_turn, rr_turn, ss_turn, hix7, hix16, hix17] <;> exact ⟨⟨i5, hi6, rfl⟩, ⟨a12, b13, hab14, hbn15, rfl, rfl⟩⟩), (by simp only [oA_turn, oB_turn, oC_turn, rr_turn, ss_turn, hix7, hix16, hix17] <;> exact trivial), (by simp only [oA_turn, oB_turn, oC_turn, rr_turn, ss_turn, hix7, hix16, hix17] <;> exact trivial), (by simp only [oA_turn, oB_turn, oC_turn, rr_turn, ss_turn, hix7, hix16, hix17] <;> exact rfl), (by simp only [oA_turn, oB_turn, oC_turn, rr_turn, ss_turn, hix7, hix16, hix17] <;> exact CS.setT hC hi6 hs21 ⟨xn_21, xr_21, f_21, xw_21, xf_21⟩), zCf.sm (a := B0 + 11 + 2 * i5) (b := B0 + 12 + 2 * i5) hs21 (by omega) (by omega)⟩

set_option maxHeartbeats 4000000 in
set_option maxRecDepth 100000 in
theorem c_X2_frequency (l : Launch) (hl0 : l.stackTraces = false) (G : zK) (B0 : Nat) (F : zM) (σ : Sg) (zp0 zp1 : Int32) (hC : CS G B0 F σ) : vx_Met l yX2_frequency (Cond.code yX2_frequency cX2_frequency 4 (some FieldType.int) :: zW) (zRm 7 111 2 12) (va_Pc [.ref B0, .int zp0, .int zp1] (zPre G B0 F)) (zQi G B0 (fun r' F' => oA_frequency σ zp0 zp1 ∧ oB_frequency σ zp0 zp1 ∧ oC_frequency σ zp0 zp1 ∧ r' = rr_frequency σ zp0 zp1 ∧ CS G B0 F' (ss_frequency σ zp0 zp1) ∧ zCf B0 F F')) (zXC G B0 F (fun E => zPX zEI "" "" (oA_frequency σ zp0 zp1) (oB_frequency σ zp0 zp1) (oC_frequency σ zp0 zp1) E)) 2 12 (zA B0) := by
  refine z_ofx (own := RX2) (by decide) rfl (Nat.le_of_ble_eq_true rfl) ?_
  intro p e s m below meth c ls hx hb hr hml hown hlocks hout hts hl hI
  have hl : lv_has ls 4 [(0, .ref B0), (1, .int zp0), (2, .int zp1)] := hl
  obtain ⟨y01, ⟨fa1, y11, e11⟩, ⟨fb1, y21, e21⟩, ⟨fc1, y31, e31⟩, ⟨n41, t41, y41⟩, ⟨n61, t61, y61⟩, ⟨n81, t81, y81⟩, ⟨fd1, y101⟩, yT1, yP1⟩ := id hC
  refine lv_aload_n hx hb dX2_frequency_0 rfl (lv_at hl 0 rfl) ?_
  refine lv_iload_n hx hb dX2_frequency_1 rfl (lv_at hl 1 rfl) ?_
  refine z_xcallr hI (z_xV (As := [.int zp0]) (rest := []) ⟨hx, hb, hml, hown, hts⟩ hI y01 rfl (c_X2_textAt l hl0 G B0 F σ zp0 hC) (z_cwV vX2_textAt hts q71 ⟨Nat.le_of_ble_eq_true rfl, Nat.le_of_ble_eq_true rfl⟩) rfl hl.1 rfl (lv_room (Nat.le_of_ble_eq_true rfl)) dX2_frequency_2 ⟨Nat.le_of_ble_eq_true rfl, Nat.le_of_ble_eq_true rfl⟩) (z_out hout hlocks (fun E hE => Or.inl ⟨hE.1, fun q => hE.2 (by first | exact q.1 | (simp only [oA_frequency, oB_frequency, oC_frequency, rr_frequency, ss_frequency] at q; exact q.1))⟩) (Nat.le_of_ble_eq_true rfl) (Nat.le_of_ble_eq_true rfl)) (fun r3 F2 H locs hp4 hI => ?_)
  obtain ⟨rfl, i5, hi6, rfl, rfl⟩ := hp4
  have hix7 : ix (nI i5) = i5 := ix_nI (by omega)
  have hl : lv_has ls 4 [(0, .ref B0), (1, .int (nI i5)), (2, .int zp1)] := hl
  have hx8 := yT1 i5 hi6
  obtain ⟨xnhx8, xrhx8, fhx8, xwhx8, xfhx8⟩ := id hx8
  refine lv_astore_n (lv' := [(3, .ref (B0 + 11 + 2 * i5)), (0, .ref B0), (1, .int (nI i5)), (2, .int zp1)]) hx hb dX2_frequency_5 rfl hl (by decide) rfl (fun ls hl => ?_)
  refine lv_iload_n hx hb dX2_frequency_6 rfl (lv_at hl 3 rfl) ?_
  refine z_xcallv hI (z_xS (As := [.int zp1]) (rest := []) ⟨hx, hb, hml, hown, hts⟩ hI (c_X2_requireWord l hl0 G B0 F zp1) (z_cwS vX2_requireWord hts q145 ⟨Nat.le_of_ble_eq_true rfl, Nat.le_of_ble_eq_true rfl⟩) rfl hl.1 rfl (lv_room (Nat.le_of_ble_eq_true rfl)) dX2_frequency_7 ⟨Nat.le_of_ble_eq_true rfl, Nat.le_of_ble_eq_true rfl⟩) (z_out hout hlocks (fun E hE => Or.inl ⟨hE.1, fun q => hE.2 (by first | exact q.2 | (simp only [oA_frequency, oB_frequency, oC_frequency, rr_frequency, ss_frequency, hix7] at q; exact q.2))⟩) (Nat.le_of_ble_eq_true rfl) (Nat.le_of_ble_eq_true rfl)) (fun F9 H locs hp11 hI => ?_)
  obtain ⟨rfl, hp11⟩ := hp11
  refine lv_aload_n hx hb dX2_frequency_10 rfl (lv_at hl 0 rfl) ?_
  refine lv_iload_n hx hb dX2_frequency_11 rfl (lv_at hl 3 rfl) ?_
  refine z_calli hI (z_V (As := [.int zp1]) (rest := []) ⟨hx, hb, hml, hown, hts⟩ hI xrhx8 rfl (c_X1_timesOf l G B0 F (B0 + 11 + 2 * i5) (B0 + 12 + 2 * i5) 60 (sn σ i5) (st σ i5) zp1 ⟨xnhx8, xrhx8, fhx8, xwhx8, xfhx8⟩ (by omega)) (z_cwV vX1_timesOf hts q405 ⟨Nat.le_of_ble_eq_true rfl, Nat.le_of_ble_eq_true rfl⟩) rfl hl.1 rfl (lv_room (Nat.le_of_ble_eq_true rfl)) dX2_frequency_12 ⟨Nat.le_of_ble_eq_true rfl, Nat.le_of_ble_eq_true rfl⟩) (fun r13 F12 H locs hp14 hI => ?_)
  obtain ⟨rfl, rfl⟩ := hp14
  refine vx_ret (z_ri hx hb hr hlocks hI ?_ (Nat.le_of_ble_eq_true rfl) (Nat.le_of_ble_eq_true rfl) dX2_frequency_15)
  refine ⟨_, rfl, (by simp only [oA_frequency, oB_frequency, oC_frequency, rr_frequency, ss_frequency, hix7] <;> exact ⟨⟨i5, hi6, rfl⟩, hp11⟩), (by simp only [oA_frequency, oB_frequency, oC_frequency, rr_frequency, ss_frequency, hix7] <;> exact trivial), (by simp only [oA_frequency, oB_frequency, oC_frequency, rr_frequency, ss_frequency, hix7] <;> exact trivial), (by simp only [oA_frequency, oB_frequency, oC_frequency, rr_frequency, ss_frequency, hix7] <;> exact rfl), (by simp only [oA_frequency, oB_frequency, oC_frequency, rr_frequency, ss_frequency, hix7] <;> exact hC), zCf.rf⟩

set_option maxHeartbeats 4000000 in
set_option maxRecDepth 100000 in
theorem c_X2_swap (l : Launch) (hl0 : l.stackTraces = false) (G : zK) (B0 : Nat) (F : zM) (σ : Sg) (zp0 zp1 zp2 : Int32) (hC : CS G B0 F σ) : vx_Met l yX2_swap (Cond.code yX2_swap cX2_swap 5 (some FieldType.int) :: zW) (zRm 7 111 3 18) (va_Pc [.ref B0, .int zp0, .int zp1, .int zp2] (zPre G B0 F)) (zQi G B0 (fun r' F' => oA_swap σ zp0 zp1 zp2 ∧ oB_swap σ zp0 zp1 zp2 ∧ oC_swap σ zp0 zp1 zp2 ∧ r' = rr_swap σ zp0 zp1 zp2 ∧ CS G B0 F' (ss_swap σ zp0 zp1 zp2) ∧ zCf B0 F F')) (zXC G B0 F (fun E => zPX zEI "" "" (oA_swap σ zp0 zp1 zp2) (oB_swap σ zp0 zp1 zp2) (oC_swap σ zp0 zp1 zp2) E)) 3 18 (zA B0) := by
  refine z_ofx (own := RX2) (by decide) rfl (Nat.le_of_ble_eq_true rfl) ?_
  intro p e s m below meth c ls hx hb hr hml hown hlocks hout hts hl hI
  have hl : lv_has ls 5 [(0, .ref B0), (1, .int zp0), (2, .int zp1), (3, .int zp2)] := hl
  obtain ⟨y01, ⟨fa1, y11, e11⟩, ⟨fb1, y21, e21⟩, ⟨fc1, y31, e31⟩, ⟨n41, t41, y41⟩, ⟨n61, t61, y61⟩, ⟨n81, t81, y81⟩, ⟨fd1, y101⟩, yT1, yP1⟩ := id hC
  refine lv_aload_n hx hb dX2_swap_0 rfl (lv_at hl 0 rfl) ?_
  refine lv_iload_n hx hb dX2_swap_1 rfl (lv_at hl 1 rfl) ?_
  refine z_xcallr hI (z_xV (As := [.int zp0]) (rest := []) ⟨hx, hb, hml, hown, hts⟩ hI y01 rfl (c_X2_textAt l hl0 G B0 F σ zp0 hC) (z_cwV vX2_textAt hts q71 ⟨Nat.le_of_ble_eq_true rfl, Nat.le_of_ble_eq_true rfl⟩) rfl hl.1 rfl (lv_room (Nat.le_of_ble_eq_true rfl)) dX2_swap_2 ⟨Nat.le_of_ble_eq_true rfl, Nat.le_of_ble_eq_true rfl⟩) (z_out hout hlocks (fun E hE => Or.inl ⟨hE.1, fun q => hE.2 (by first | exact q.1 | (simp only [oA_swap, oB_swap, oC_swap, rr_swap, ss_swap] at q; exact q.1))⟩) (Nat.le_of_ble_eq_true rfl) (Nat.le_of_ble_eq_true rfl)) (fun r3 F2 H locs hp4 hI => ?_)
  obtain ⟨rfl, i5, hi6, rfl, rfl⟩ := hp4
  have hix7 : ix (nI i5) = i5 := ix_nI (by omega)
  have hl : lv_has ls 5 [(0, .ref B0), (1, .int (nI i5)), (2, .int zp1), (3, .int zp2)] := hl
  have hx8 := yT1 i5 hi6
  obtain ⟨xnhx8, xrhx8, fhx8, xwhx8, xfhx8⟩ := id hx8
  refine lv_astore (lv' := [(4, .ref (B0 + 11 + 2 * i5)), (0, .ref B0), (1, .int (nI i5)), (2, .int zp1), (3, .int zp2)]) hx hb dX2_swap_5 hl (by decide) rfl (fun ls hl => ?_)
  refine lv_aload hx hb dX2_swap_7 (lv_at hl 0 rfl) ?_
  refine lv_iload_n hx hb dX2_swap_9 rfl (lv_at hl 3 rfl) ?_
  refine z_xcallv hI (z_xS (As := [.ref (B0 + 11 + 2 * i5), .int zp1]) (rest := []) ⟨hx, hb, hml, hown, hts⟩ hI (c_X2_requirePlace l hl0 G B0 F (B0 + 11 + 2 * i5) (B0 + 12 + 2 * i5) 60 (sn σ i5) (st σ i5) zp1 ⟨xnhx8, xrhx8, fhx8, xwhx8, xfhx8⟩ (by decide)) (z_cwS vX2_requirePlace hts q236 ⟨Nat.le_of_ble_eq_true rfl, Nat.le_of_ble_eq_true rfl⟩) rfl hl.1 rfl (lv_room (Nat.le_of_ble_eq_true rfl)) dX2_swap_10 ⟨Nat.le_of_ble_eq_true rfl, Nat.le_of_ble_eq_true rfl⟩) (z_out hout hlocks (fun E hE => Or.inl ⟨hE.1, fun q => hE.2 (by first | exact q.2.1 | (simp only [oA_swap, oB_swap, oC_swap, rr_swap, ss_swap, hix7] at q; exact q.2.1))⟩) (Nat.le_of_ble_eq_true rfl) (Nat.le_of_ble_eq_true rfl)) (fun F9 H locs hp11 hI => ?_)
  obtain ⟨rfl, j12, hj13, rfl⟩ := hp11
  have hix14 : ix (nI j12) = j12 := ix_nI (by omega)
  have hl : lv_has ls 5 [(4, .ref (B0 + 11 + 2 * i5)), (0, .ref B0), (1, .int (nI i5)), (2, .int (nI j12)), (3, .int zp2)] := hl
  refine lv_aload hx hb dX2_swap_13 (lv_at hl 0 rfl) ?_
  refine lv_iload_n hx hb dX2_swap_15 rfl (lv_at hl 4 rfl) ?_
  refine z_xcallv hI (z_xS (As := [.ref (B0 + 11 + 2 * i5), .int zp2]) (rest := []) ⟨hx, hb, hml, hown, hts⟩ hI (c_X2_requirePlace l hl0 G B0 F (B0 + 11 + 2 * i5) (B0 + 12 + 2 * i5) 60 (sn σ i5) (st σ i5) zp2 ⟨xnhx8, xrhx8, fhx8, xwhx8, xfhx8⟩ (by decide)) (z_cwS vX2_requirePlace hts q236 ⟨Nat.le_of_ble_eq_true rfl, Nat.le_of_ble_eq_true rfl⟩) rfl hl.1 rfl (lv_room (Nat.le_of_ble_eq_true rfl)) dX2_swap_16 ⟨Nat.le_of_ble_eq_true rfl, Nat.le_of_ble_eq_true rfl⟩) (z_out hout hlocks (fun E hE => Or.inl ⟨hE.1, fun q => hE.2 (by first | exact q.2.2 | (simp only [oA_swap, oB_swap, oC_swap, rr_swap, ss_swap, hix7, hix14] at q; exact q.2.2))⟩) (Nat.le_of_ble_eq_true rfl) (Nat.le_of_ble_eq_true rfl)) (fun F15 H locs hp17 hI => ?_)
  obtain ⟨rfl, j18, hj19, rfl⟩ := hp17
  have hix20 : ix (nI j18) = j18 := ix_nI (by omega)
  have hl : lv_has ls 5 [(4, .ref (B0 + 11 + 2 * i5)), (0, .ref B0), (1, .int (nI i5)), (2, .int (nI j12)), (3, .int (nI j18))] := hl
  refine lv_aload hx hb dX2_swap_19 (lv_at hl 0 rfl) ?_
  refine lv_iload_n hx hb dX2_swap_21 rfl (lv_at hl 3 rfl) ?_
  refine lv_iload_n hx hb dX2_swap_22 rfl (lv_at hl 4 rfl) ?_
  refine z_callv hI (z_V (As := [.int (nI j12), .int (nI j18)]) (rest := []) ⟨hx, hb, hml, hown, hts⟩ hI xrhx8 rfl (c_X1_exchange l G B0 F (B0 + 11 + 2 * i5) (B0 + 12 + 2 * i5) 60 (sn σ i5) (st σ i5) j12 j18 ⟨xnhx8, xrhx8, fhx8, xwhx8, xfhx8⟩ (by omega) (by omega) (by omega)) (z_cwV vX1_exchange hts q568 ⟨Nat.le_of_ble_eq_true rfl, Nat.le_of_ble_eq_true rfl⟩) rfl hl.1 rfl (lv_room (Nat.le_of_ble_eq_true rfl)) dX2_swap_23 ⟨Nat.le_of_ble_eq_true rfl, Nat.le_of_ble_eq_true rfl⟩) (fun F21 H locs hp23 hI => ?_)
  obtain ⟨ha24, hs24⟩ := hp23
  have hc25 : F21 B0 = some (zO 2 [.ref (B0 + 1), .ref (B0 + 2), .ref (B0 + 3), .ref (B0 + 4), .ref (B0 + 6), .ref (B0 + 8), .ref (B0 + 10)]) := (hs24 _ (by omega) (zne y01 xwhx8 (fun q => by cases q))).trans y01
  have hc26 : F21 (B0 + 1) = some (zA1 G 4 fa1) := (hs24 _ (zne y11 xrhx8 (fun q => by cases q)) (by omega)).trans y11
  have hc27 : F21 (B0 + 2) = some (zA1 G 2 fb1) := (hs24 _ (zne y21 xrhx8 (fun q => by cases q)) (by omega)).trans y21
  have hc28 : F21 (B0 + 3) = some (zAI G 100 fc1) := (hs24 _ (zne y31 xrhx8 (fun q => by cases q)) (by omega)).trans y31
  have hc29 : F21 (B0 + 10) = some (zAI G 61 fd1) := (hs24 _ (zne y101 xrhx8 (fun q => by cases q)) (by omega)).trans y101
  obtain ⟨xn_24, xr_24, f_24, xw_24, xf_24⟩ := id ha24
  refine lv_aload hx hb dX2_swap_26 (lv_at hl 0 rfl) ?_
  refine z_getN hx hb hts hown zlX1 rfl 0 (by decide) (List.mem_of_getElem? (i := 1) rfl) rfl hI xr_24 rfl dX2_swap_28 ?_
  refine lv_iload_n hx hb dX2_swap_31 rfl (lv_at hl 3 rfl) ?_
  refine z_ild (k := j12) (v := swpt (st σ i5) j12 j18 j12) hx hb hI xw_24 (by omega) (by omega) (xf_24 j12 (by omega)) dX2_swap_32 ?_
  refine vx_ret (z_ri hx hb hr hlocks hI ?_ (Nat.le_of_ble_eq_true rfl) (Nat.le_of_ble_eq_true rfl) dX2_swap_33)
  refine ⟨_, rfl, (by simp only [oA_swap, oB_swap, oC_swap, rr_swap, ss_swap, hix7, hix14, hix20] <;> exact ⟨⟨i5, hi6, rfl⟩, ⟨j12, hj13, rfl⟩, ⟨j18, hj19, rfl⟩⟩), (by simp only [oA_swap, oB_swap, oC_swap, rr_swap, ss_swap, hix7, hix14, hix20] <;> exact trivial), (by simp only [oA_swap, oB_swap, oC_swap, rr_swap, ss_swap, hix7, hix14, hix20] <;> exact trivial), (by simp only [oA_swap, oB_swap, oC_swap, rr_swap, ss_swap, hix7, hix14, hix20] <;> exact swpt_l), (by simp only [oA_swap, oB_swap, oC_swap, rr_swap, ss_swap, hix7, hix14, hix20] <;> exact CS.setT hC hi6 hs24 ⟨xn_24, xr_24, f_24, xw_24, xf_24⟩), zCf.sm (a := B0 + 11 + 2 * i5) (b := B0 + 12 + 2 * i5) hs24 (by omega) (by omega)⟩

