set_option maxHeartbeats 4000000 in
set_option maxRecDepth 100000 in
theorem c_X2_sort (l : Launch) (hl0 : l.stackTraces = false) (G : zK) (B0 : Nat) (F : zM) (σ : Sg) (zp0 zp1 zp2 : Int32) (hC : CS G B0 F σ) (hK : SgOk σ) : vx_Met l yX2_sort (Cond.code yX2_sort cX2_sort 5 (some FieldType.int) :: zW) (zRm 7 111 2 12) (va_Pc [.ref B0, .int zp0, .int zp1, .int zp2] (zPre G B0 F)) (zQi G B0 (fun r' F' => oA_sort σ zp0 zp1 zp2 ∧ oB_sort σ zp0 zp1 zp2 ∧ oC_sort σ zp0 zp1 zp2 ∧ r' = rr_sort σ zp0 zp1 zp2 ∧ CS G B0 F' (ss_sort σ zp0 zp1 zp2) ∧ zCf B0 F F')) (zXC G B0 F (fun E => zPX zEI zEA "" (oA_sort σ zp0 zp1 zp2) (oB_sort σ zp0 zp1 zp2) (oC_sort σ zp0 zp1 zp2) E)) 2 12 (zA B0) := by
  refine z_ofx (own := RX2) (by decide) rfl (Nat.le_of_ble_eq_true rfl) ?_
  intro p e s m below meth c ls hx hb hr hml hown hlocks hout hts hl hI
  have hl : lv_has ls 5 [(0, .ref B0), (1, .int zp0), (2, .int zp1), (3, .int zp2)] := hl
  obtain ⟨y01, ⟨fa1, y11, e11⟩, ⟨fb1, y21, e21⟩, ⟨fc1, y31, e31⟩, ⟨n41, t41, y41⟩, ⟨n61, t61, y61⟩, ⟨n81, t81, y81⟩, ⟨fd1, y101⟩, yT1, yP1⟩ := id hC
  refine lv_aload_n hx hb dX2_sort_0 rfl (lv_at hl 0 rfl) ?_
  refine lv_iload_n hx hb dX2_sort_1 rfl (lv_at hl 1 rfl) ?_
  refine z_xcallr hI (z_xV (As := [.int zp0]) (rest := []) ⟨hx, hb, hml, hown, hts⟩ hI y01 rfl (c_X2_textAt l hl0 G B0 F σ zp0 hC) (z_cwV vX2_textAt hts q71 ⟨Nat.le_of_ble_eq_true rfl, Nat.le_of_ble_eq_true rfl⟩) rfl hl.1 rfl (lv_room (Nat.le_of_ble_eq_true rfl)) dX2_sort_2 ⟨Nat.le_of_ble_eq_true rfl, Nat.le_of_ble_eq_true rfl⟩) (z_out hout hlocks (fun E hE => Or.inl ⟨hE.1, fun q => hE.2 (by first | exact q | (simp only [oA_sort, oB_sort, oC_sort, rr_sort, ss_sort] at q; exact q))⟩) (Nat.le_of_ble_eq_true rfl) (Nat.le_of_ble_eq_true rfl)) (fun r3 F2 H locs hp4 hI => ?_)
  obtain ⟨rfl, i5, hi6, rfl, rfl⟩ := hp4
  have hix7 : ix (nI i5) = i5 := ix_nI (by omega)
  have hl : lv_has ls 5 [(0, .ref B0), (1, .int (nI i5)), (2, .int zp1), (3, .int zp2)] := hl
  have hx8 := yT1 i5 hi6
  obtain ⟨xnhx8, xrhx8, fhx8, xwhx8, xfhx8⟩ := id hx8
  refine lv_astore (lv' := [(4, .ref (B0 + 11 + 2 * i5)), (0, .ref B0), (1, .int (nI i5)), (2, .int zp1), (3, .int zp2)]) hx hb dX2_sort_5 hl (by decide) rfl (fun ls hl => ?_)
  refine lv_iload_n hx hb dX2_sort_7 rfl (lv_at hl 3 rfl) ?_
  refine z_xcallv hI (z_xS (As := [.int zp1]) (rest := []) ⟨hx, hb, hml, hown, hts⟩ hI (c_X2_requireOrder l hl0 G B0 F zp1) (z_cwS vX2_requireOrder hts q473 ⟨Nat.le_of_ble_eq_true rfl, Nat.le_of_ble_eq_true rfl⟩) rfl hl.1 rfl (lv_room (Nat.le_of_ble_eq_true rfl)) dX2_sort_8 ⟨Nat.le_of_ble_eq_true rfl, Nat.le_of_ble_eq_true rfl⟩) (z_out hout hlocks (fun E hE => Or.inr (Or.inl ⟨hE.1, (by simp only [oA_sort, oB_sort, oC_sort, rr_sort, ss_sort, hix7] <;> exact ⟨i5, hi6, rfl⟩), fun q => hE.2 (by simp only [oA_sort, oB_sort, oC_sort, rr_sort, ss_sort, hix7] at q; exact q)⟩)) (Nat.le_of_ble_eq_true rfl) (Nat.le_of_ble_eq_true rfl)) (fun F9 H locs hp11 hI => ?_)
  obtain ⟨rfl, hp11⟩ := hp11
  refine lv_aload_n hx hb dX2_sort_11 rfl (lv_at hl 1 rfl) ?_
  refine z_get hx hb hts hown zlX2 rfl 3 (by decide) (hts _ q43) rfl hI y01 rfl dX2_sort_12 ?_
  obtain ⟨xnd, xrd, fd, xwd, xfd⟩ := id y41
  refine lv_aload hx hb dX2_sort_15 (lv_at hl 0 rfl) ?_
  refine z_callv hI (z_V (As := [.ref (B0 + 11 + 2 * i5)]) (rest := []) ⟨hx, hb, hml, hown, hts⟩ hI xrd rfl (c_X1_become l G B0 F (B0 + 4) (B0 + 5) 60 n41 t41 (B0 + 11 + 2 * i5) (B0 + 12 + 2 * i5) 60 (sn σ i5) (st σ i5) ⟨xnd, xrd, fd, xwd, xfd⟩ (by omega) ⟨xnhx8, xrhx8, fhx8, xwhx8, xfhx8⟩ (by omega) (by omega) (by omega) (by omega)) (z_cwV vX1_become hts q386 ⟨Nat.le_of_ble_eq_true rfl, Nat.le_of_ble_eq_true rfl⟩) rfl hl.1 rfl (lv_room (Nat.le_of_ble_eq_true rfl)) dX2_sort_17 ⟨Nat.le_of_ble_eq_true rfl, Nat.le_of_ble_eq_true rfl⟩) (fun F12 H locs hp14 hI => ?_)
  obtain ⟨ha15, hs15⟩ := hp14
  have hc16 : F12 B0 = some (zO 2 [.ref (B0 + 1), .ref (B0 + 2), .ref (B0 + 3), .ref (B0 + 4), .ref (B0 + 6), .ref (B0 + 8), .ref (B0 + 10)]) := (hs15 _ (zne y01 xrd (fun q => by cases q)) (zne y01 xwd (fun q => by cases q))).trans y01
  have hc17 : F12 (B0 + 1) = some (zA1 G 4 fa1) := (hs15 _ (zne y11 xrd (fun q => by cases q)) (by omega)).trans y11
  have hc18 : F12 (B0 + 2) = some (zA1 G 2 fb1) := (hs15 _ (zne y21 xrd (fun q => by cases q)) (by omega)).trans y21
  have hc19 : F12 (B0 + 3) = some (zAI G 100 fc1) := (hs15 _ (zne y31 xrd (fun q => by cases q)) (by omega)).trans y31
  have hc20 : F12 (B0 + 10) = some (zAI G 61 fd1) := (hs15 _ (zne y101 xrd (fun q => by cases q)) (by omega)).trans y101
  have hc21 : F12 (B0 + 11 + 2 * i5) = some (zO 1 [.ref (B0 + 12 + 2 * i5), .int (nI (sn σ i5))]) := (hs15 _ (by omega) (zne xrhx8 xwd (fun q => by cases q))).trans xrhx8
  have hc22 : F12 (B0 + 12 + 2 * i5) = some (zAI G 60 fhx8) := (hs15 _ (zne xwhx8 xrd (fun q => by cases q)) (by omega)).trans xwhx8
  obtain ⟨xn_15, xr_15, f_15, xw_15, xf_15⟩ := id ha15
  have hC23 := CS.setW hC (Or.inl ⟨rfl, rfl, rfl⟩) hs15 ha15
  have hcf23 : zCf B0 F F12 := zCf.sm hs15 (by omega) (by omega)
  obtain ⟨y024, ⟨fa24, y124, e124⟩, ⟨fb24, y224, e224⟩, ⟨fc24, y324, e324⟩, ⟨n424, t424, y424⟩, ⟨n624, t624, y624⟩, ⟨n824, t824, y824⟩, ⟨fd24, y1024⟩, yT24, yP24⟩ := id hC23
  have hx25 := yT24 i5 hi6
  obtain ⟨xnhx25, xrhx25, fhx25, xwhx25, xfhx25⟩ := id hx25
  obtain ⟨xnd, xrd, fd, xwd, xfd⟩ := id ha15
  refine lv_aload_n hx hb dX2_sort_20 rfl (lv_at hl 1 rfl) ?_
  refine lv_aload hx hb dX2_sort_21 (lv_at hl 0 rfl) ?_
  refine lv_iload_n hx hb dX2_sort_23 rfl (lv_at hl 3 rfl) ?_
  refine lv_iload_n hx hb dX2_sort_24 rfl (lv_at hl 4 rfl) ?_
  refine z_callv hI (z_V (As := [.ref (B0 + 11 + 2 * i5), .int zp1, .int zp2]) (rest := []) ⟨hx, hb, hml, hown, hts⟩ hI y024 rfl (c_X2_putInOrder l G B0 F12 (B0 + 11 + 2 * i5) (B0 + 12 + 2 * i5) 60 (sn σ i5) (st σ i5) zp1 zp2 (rk σ) hC23.K ⟨xnhx25, xrhx25, fhx25, xwhx25, xfhx25⟩ (by decide) (hK.w hi6) (by omega) (by omega)) (z_cwV vX2_putInOrder hts q501 ⟨Nat.le_of_ble_eq_true rfl, Nat.le_of_ble_eq_true rfl⟩) rfl hl.1 rfl (lv_room (Nat.le_of_ble_eq_true rfl)) dX2_sort_25 ⟨Nat.le_of_ble_eq_true rfl, Nat.le_of_ble_eq_true rfl⟩) (fun F26 H locs hp28 hI => ?_)
  obtain ⟨ha29, hs29⟩ := hp28
  have hc30 : F26 B0 = some (zO 2 [.ref (B0 + 1), .ref (B0 + 2), .ref (B0 + 3), .ref (B0 + 4), .ref (B0 + 6), .ref (B0 + 8), .ref (B0 + 10)]) := (hs29 _ (zne y024 xrhx25 (fun q => by cases q)) (zne y024 xwhx25 (fun q => by cases q))).trans y024
  have hc31 : F26 (B0 + 1) = some (zA1 G 4 fa24) := (hs29 _ (zne y124 xrhx25 (fun q => by cases q)) (by omega)).trans y124
  have hc32 : F26 (B0 + 2) = some (zA1 G 2 fb24) := (hs29 _ (zne y224 xrhx25 (fun q => by cases q)) (by omega)).trans y224
  have hc33 : F26 (B0 + 3) = some (zAI G 100 fc24) := (hs29 _ (zne y324 xrhx25 (fun q => by cases q)) (by omega)).trans y324
  have hc34 : F26 (B0 + 10) = some (zAI G 61 fd24) := (hs29 _ (zne y1024 xrhx25 (fun q => by cases q)) (by omega)).trans y1024
  have hc35 : F26 (B0 + 4) = some (zO 1 [.ref (B0 + 5), .int (nI (sn σ i5))]) := (hs29 _ (by omega) (zne xrd xwhx25 (fun q => by cases q))).trans xrd
  have hc36 : F26 (B0 + 5) = some (zAI G 60 fd) := (hs29 _ (zne xwd xrhx25 (fun q => by cases q)) (by omega)).trans xwd
  obtain ⟨xn_29, xr_29, f_29, xw_29, xf_29⟩ := id ha29
  refine lv_aload hx hb dX2_sort_28 (lv_at hl 0 rfl) ?_
  refine lv_aload_n hx hb dX2_sort_30 rfl (lv_at hl 1 rfl) ?_
  refine z_get hx hb hts hown zlX2 rfl 3 (by decide) (hts _ q43) rfl hI hc30 rfl dX2_sort_31 ?_
  refine z_calli hI (z_V (As := [.ref (B0 + 4)]) (rest := []) ⟨hx, hb, hml, hown, hts⟩ hI xr_29 rfl (c_X1_differencesFrom l G B0 F26 (B0 + 11 + 2 * i5) (B0 + 12 + 2 * i5) 60 (sn σ i5) (srt (psd (rk σ) zp1 zp2) (st σ i5) (sn σ i5 - 1)) (B0 + 4) (B0 + 5) 60 (st σ i5) ⟨xn_29, xr_29, f_29, xw_29, xf_29⟩ (by omega) ⟨xnd, hc35, fd, hc36, xfd⟩ (by omega)) (z_cwV vX1_differencesFrom hts q509 ⟨Nat.le_of_ble_eq_true rfl, Nat.le_of_ble_eq_true rfl⟩) rfl hl.1 rfl (lv_room (Nat.le_of_ble_eq_true rfl)) dX2_sort_34 ⟨Nat.le_of_ble_eq_true rfl, Nat.le_of_ble_eq_true rfl⟩) (fun r38 F37 H locs hp39 hI => ?_)
  obtain ⟨rfl, rfl⟩ := hp39
  refine vx_ret (z_ri hx hb hr hlocks hI ?_ (Nat.le_of_ble_eq_true rfl) (Nat.le_of_ble_eq_true rfl) dX2_sort_37)
  refine ⟨_, rfl, (by simp only [oA_sort, oB_sort, oC_sort, rr_sort, ss_sort, hix7] <;> exact ⟨i5, hi6, rfl⟩), (by simp only [oA_sort, oB_sort, oC_sort, rr_sort, ss_sort, hix7] <;> exact hp11), (by simp only [oA_sort, oB_sort, oC_sort, rr_sort, ss_sort, hix7] <;> exact trivial), (by simp only [oA_sort, oB_sort, oC_sort, rr_sort, ss_sort, hix7] <;> exact rfl), (by simp only [oA_sort, oB_sort, oC_sort, rr_sort, ss_sort, hix7] <;> exact CS.setT hC23 hi6 hs29 ⟨xn_29, xr_29, f_29, xw_29, xf_29⟩), zCf.tr hcf23 (zCf.sm (a := B0 + 11 + 2 * i5) (b := B0 + 12 + 2 * i5) hs29 (by omega) (by omega))⟩

theorem CS.setTW {G : zK} {B0 : Nat} {F F' : zM} {σ : Sg} {i n n4 : Nat} {t t4 : Nat → Int32} (h : CS G B0 F σ) (hi : i < 4) (hs : ∀ q, q ≠ B0 + 11 + 2 * i → q ≠ B0 + 12 + 2 * i → q ≠ B0 + 4 → q ≠ B0 + 5 → F' q = F q) (hr : RA G 1 F' (B0 + 11 + 2 * i) (B0 + 12 + 2 * i) 60 n t) (hd : RA G 1 F' (B0 + 4) (B0 + 5) 60 n4 t4) : CS G B0 F' (sT σ i n t) ∧ zCf B0 F F' := by
  have h1 : zSm F (fun q => if q = B0 + 4 ∨ q = B0 + 5 then F' q else F q) (B0 + 4) (B0 + 5) := fun q a b => if_neg (by omega)
  have h2 : RA G 1 (fun q => if q = B0 + 4 ∨ q = B0 + 5 then F' q else F q) (B0 + 4) (B0 + 5) 60 n4 t4 := hd.go (if_pos (Or.inl rfl)) (if_pos (Or.inr rfl))
  refine ⟨CS.setT (CS.setW h (Or.inl ⟨rfl, rfl, rfl⟩) h1 h2) hi (fun q a b => ?_) hr, fun q hq => hs q (by omega) (by omega) (by omega) (by omega)⟩
  show F' q = if q = B0 + 4 ∨ q = B0 + 5 then F' q else F q
  by_cases e : q = B0 + 4 ∨ q = B0 + 5
  · rw [if_pos e]
  · rw [if_neg e]; exact hs q a b (by omega) (by omega)
theorem mby_pos {d : Int32} {m : Nat} (h : 0 < m) : mby d m = fmd d m := if_neg (by omega)
set_option maxHeartbeats 4000000 in
set_option maxRecDepth 100000 in
theorem c_X2_moveRound (l : Launch) (G : zK) (B0 : Nat) (F : zM) (r w cap n : Nat) (t : Nat → Int32) (n4 : Nat) (t4 : Nat → Int32) (a b : Nat) (zp : Int32) (hB : F B0 = some (zO 2 [.ref (B0 + 1), .ref (B0 + 2), .ref (B0 + 3), .ref (B0 + 4), .ref (B0 + 6), .ref (B0 + 8), .ref (B0 + 10)])) (hd : RA G 1 F (B0 + 4) (B0 + 5) 60 n4 t4) (h : RA G 1 F r w cap n t) (hcap : cap ≤ 60) (hr4 : r ≠ B0 + 4) (hw5 : w ≠ B0 + 5) (hrB : r ≠ B0) (hab : a ≤ b) (hbn : b ≤ n) : Met l yX2_moveRound (Cond.code yX2_moveRound cX2_moveRound 8 (some FieldType.int) :: zW) (zRm 3 65 0 0) (va_Pc [.ref B0, .ref r, .int (nI a), .int (nI b), .int zp] (zPre G B0 F)) (zQi G B0 (fun r' F' => r' = nI (mby zp (b - a)) ∧ RA G 1 F' r w cap n (mvt t a b (mby zp (b - a))) ∧ (∃ n5 t5, RA G 1 F' (B0 + 4) (B0 + 5) 60 n5 t5) ∧ ∀ q, q ≠ r → q ≠ w → q ≠ B0 + 4 → q ≠ B0 + 5 → F' q = F q)) 0 0 (zA B0) := by
  refine z_of (own := RX2) (by decide) rfl (Nat.le_of_ble_eq_true rfl) ?_
  intro p e s m below meth c ls hx hb hr hml hown hlocks hnm hts hl hI
  have hl : lv_has ls 8 [(0, .ref B0), (1, .ref r), (2, .int (nI a)), (3, .int (nI b)), (4, .int zp)] := hl
  obtain ⟨xn, xr, f, xw, xf⟩ := id h
  obtain ⟨xnd, xrd, fd, xwd, xfd⟩ := id hd
  refine lv_iload_n hx hb dX2_moveRound_0 rfl (lv_at hl 3 rfl) ?_
  refine lv_iload_n hx hb dX2_moveRound_1 rfl (lv_at hl 2 rfl) ?_
  refine lv_isub hx hb dX2_moveRound_2 ?_
  refine z_topi (pk_sub (a := b) (b := a) (by omega)) ?_
  refine lv_istore (lv' := [(5, .int (nI (b - a))), (0, .ref B0), (1, .ref r), (2, .int (nI a)), (3, .int (nI b)), (4, .int zp)]) hx hb dX2_moveRound_3 hl (by decide) rfl (fun ls hl => ?_)
  refine lv_iload hx hb dX2_moveRound_5 (lv_at hl 0 rfl) ?_
  refine z_if_gt (tgt := 12) (a := b - a) hx hb dX2_moveRound_7 (by decide) (by omega) (fun hq1 => ?_) (fun hq1 => ?_)
  · have hfl := fmd_lt zp hq1
    refine lv_iload hx hb dX2_moveRound_12 (lv_at hl 5 rfl) ?_
    refine lv_iload hx hb dX2_moveRound_14 (lv_at hl 0 rfl) ?_
    refine z_calli hI (z_S (As := [.int zp, .int (nI (b - a))]) (rest := []) ⟨hx, hb, hml, hown, hts⟩ hI (c_J9_floorMod_7cf53 l G B0 F zp (b - a) (by omega) (by omega)) (z_cwS vJ9_floorMod_7cf53 hts q558 ⟨Nat.le_of_ble_eq_true rfl, Nat.le_of_ble_eq_true rfl⟩) rfl hl.1 rfl (lv_room (Nat.le_of_ble_eq_true rfl)) dX2_moveRound_16 ⟨Nat.le_of_ble_eq_true rfl, Nat.le_of_ble_eq_true rfl⟩) (fun r3 F2 H locs hp4 hI => ?_)
    obtain ⟨rfl, rfl⟩ := hp4
    refine lv_istore (lv' := [(6, .int (nI (fmd zp (b - a)))), (5, .int (nI (b - a))), (0, .ref B0), (1, .ref r), (2, .int (nI a)), (3, .int (nI b)), (4, .int zp)]) hx hb dX2_moveRound_19 hl (by decide) rfl (fun ls hl => ?_)
    refine lv_aload_n hx hb dX2_moveRound_21 rfl (lv_at hl 2 rfl) ?_
    refine z_get hx hb hts hown zlX2 rfl 3 (by decide) (hts _ q43) rfl hI hB rfl dX2_moveRound_22 ?_
    refine lv_aload_n hx hb dX2_moveRound_25 rfl (lv_at hl 3 rfl) ?_
    refine z_callv hI (z_V (As := [.ref r]) (rest := []) ⟨hx, hb, hml, hown, hts⟩ hI xrd rfl (c_X1_become l G B0 F (B0 + 4) (B0 + 5) 60 n4 t4 r w cap n t ⟨xnd, xrd, fd, xwd, xfd⟩ (by omega) ⟨xn, xr, f, xw, xf⟩ (by omega) (Ne.symm hr4) (Ne.symm hw5) (by omega)) (z_cwV vX1_become hts q386 ⟨Nat.le_of_ble_eq_true rfl, Nat.le_of_ble_eq_true rfl⟩) rfl hl.1 rfl (lv_room (Nat.le_of_ble_eq_true rfl)) dX2_moveRound_26 ⟨Nat.le_of_ble_eq_true rfl, Nat.le_of_ble_eq_true rfl⟩) (fun F5 H locs hp7 hI => ?_)
    obtain ⟨ha8, hs8⟩ := hp7
    have hc9 : F5 B0 = some (zO 2 [.ref (B0 + 1), .ref (B0 + 2), .ref (B0 + 3), .ref (B0 + 4), .ref (B0 + 6), .ref (B0 + 8), .ref (B0 + 10)]) := (hs8 _ (zne hB xrd (fun q => by cases q)) (zne hB xwd (fun q => by cases q))).trans hB
    have hc10 : F5 r = some (zO 1 [.ref w, .int (nI n)]) := (hs8 _ hr4 (zne xr xwd (fun q => by cases q))).trans xr
    have hc11 : F5 w = some (zAI G cap f) := (hs8 _ (zne xw xrd (fun q => by cases q)) hw5).trans xw
    obtain ⟨xn_8, xr_8, f_8, xw_8, xf_8⟩ := id ha8
    refine lv_iconst (v := nI 0) hx hb dX2_moveRound_29 (by decide) ?_
    refine lv_istore (lv' := [(7, .int (nI 0)), (6, .int (nI (fmd zp (b - a)))), (5, .int (nI (b - a))), (0, .ref B0), (1, .ref r), (2, .int (nI a)), (3, .int (nI b)), (4, .int zp)]) hx hb dX2_moveRound_30 hl (by decide) rfl (fun ls hl => ?_)
    refine z_loop (σ := Nat) (fun k : Nat => [(0, .ref B0), (1, .ref r), (2, .int (nI a)), (3, .int (nI b)), (4, .int zp), (5, .int (nI (b - a))), (6, .int (nI (fmd zp (b - a)))), (7, .int (nI k))]) (fun (k : Nat) (Fx : zM) => RA G 1 Fx r w cap n (mvk t a b (fmd zp (b - a)) k) ∧ RA G 1 Fx (B0 + 4) (B0 + 5) 60 n t ∧ (∀ q, q ≠ r → q ≠ w → q ≠ B0 + 4 → q ≠ B0 + 5 → Fx q = F q) ∧ k ≤ b - a) (fun k : Nat => b - a - k) 0 (nL := 8) (st := []) ?_ (lv_sub hl [3, 4, 5, 6, 7, 2, 1, 0] rfl) hI ?_
    · exact ⟨RA.cg (h.go (hs8 _ hr4 (fun e => RA.ne2 h hd e)) (hs8 _ (fun e => RA.ne2 hd h e.symm) hw5)) (fun j hj => mvk_0 j), ha8, fun q q1 q2 q3 q4 => hs8 q q3 q4, Nat.zero_le _⟩
    · intro k F12 ls H locs hi hl hI ih
      have hl : lv_has ls 8 [(0, .ref B0), (1, .ref r), (2, .int (nI a)), (3, .int (nI b)), (4, .int zp), (5, .int (nI (b - a))), (6, .int (nI (fmd zp (b - a)))), (7, .int (nI k))] := hl
      obtain ⟨hb0, hd0, hs0, hkk⟩ := hi
      have hB0 : F12 B0 = some (zO 2 [.ref (B0 + 1), .ref (B0 + 2), .ref (B0 + 3), .ref (B0 + 4), .ref (B0 + 6), .ref (B0 + 8), .ref (B0 + 10)]) := (hs0 _ (Ne.symm hrB) (fun e => absurd (e ▸ hB) (by rw [h.2.2.choose_spec.1]; exact fun z => by cases Option.some.inj z)) (by omega) (by omega)).trans hB
      obtain ⟨xn, xr, f, xw, xf⟩ := id hb0
      obtain ⟨xnd, xrd, fd, xwd, xfd⟩ := id hd0
      have hmm := Nat.mod_lt (k + fmd zp (b - a)) (show 0 < b - a by omega)
      refine lv_iload hx hb dX2_moveRound_32 (lv_at hl 7 rfl) ?_
      refine lv_iload hx hb dX2_moveRound_34 (lv_at hl 5 rfl) ?_
      refine z_icmp_ge (tgt := 72) (a := k) (b := b - a) hx hb dX2_moveRound_36 (by decide) (by omega) (fun hq13 => ?_) (fun hq13 => ?_)
      · refine lv_iload hx hb dX2_moveRound_72 (lv_at hl 6 rfl) ?_
        refine z_ri hx hb hr hlocks hI ?_ (Nat.le_of_ble_eq_true rfl) (Nat.le_of_ble_eq_true rfl) dX2_moveRound_74
        have h9 : mby zp (b - a) = fmd zp (b - a) := mby_pos hq1
        refine ⟨_, rfl, by rw [h9], RA.cg hb0 (fun j hj => ?_), ⟨_, _, hd0⟩, hs0⟩
        rw [h9, show k = b - a by omega]; exact mvk_e j
      · refine lv_aload_n hx hb dX2_moveRound_39 rfl (lv_at hl 1 rfl) ?_
        refine z_getN hx hb hts hown zlX1 rfl 0 (by decide) (List.mem_of_getElem? (i := 1) rfl) rfl hI xr rfl dX2_moveRound_40 ?_
        refine lv_iload_n hx hb dX2_moveRound_43 rfl (lv_at hl 2 rfl) ?_
        refine lv_iload hx hb dX2_moveRound_44 (lv_at hl 7 rfl) ?_
        refine lv_iload hx hb dX2_moveRound_46 (lv_at hl 6 rfl) ?_
        refine lv_iadd hx hb dX2_moveRound_48 ?_
        refine z_topi (nI_add k (fmd zp (b - a))) ?_
        refine lv_iload hx hb dX2_moveRound_49 (lv_at hl 5 rfl) ?_
        refine lv_irem hx hb dX2_moveRound_51 (nI_ne0 (by omega) (by omega)) ?_
        refine z_topi (pk_rem (a := k + (fmd zp (b - a))) (d := b - a) (by omega) (by omega) (by omega)) ?_
        refine lv_iadd hx hb dX2_moveRound_52 ?_
        refine z_topi (nI_add a ((k + (fmd zp (b - a))) % (b - a))) ?_
        refine lv_aload_n hx hb dX2_moveRound_53 rfl (lv_at hl 0 rfl) ?_
        refine z_get hx hb hts hown zlX2 rfl 3 (by decide) (hts _ q43) rfl hI hB0 rfl dX2_moveRound_54 ?_
        refine z_getN hx hb hts hown zlX1 rfl 0 (by decide) (List.mem_of_getElem? (i := 1) rfl) rfl hI xrd rfl dX2_moveRound_57 ?_
        refine lv_iload_n hx hb dX2_moveRound_60 rfl (lv_at hl 2 rfl) ?_
        refine lv_iload hx hb dX2_moveRound_61 (lv_at hl 7 rfl) ?_
        refine lv_iadd hx hb dX2_moveRound_63 ?_
        refine z_topi (nI_add a k) ?_
        refine z_ild (k := a + k) (v := t (a + k)) hx hb hI xwd (by omega) (by omega) (xfd (a + k) (by omega)) dX2_moveRound_64 ?_
        refine z_ist (k := a + ((k + (fmd zp (b - a))) % (b - a))) hx hb hI xw (by omega) (by omega) dX2_moveRound_65 (fun H locs F14 hw15 ho16 hI => ?_)
        have hc17 : F14 B0 = some (zO 2 [.ref (B0 + 1), .ref (B0 + 2), .ref (B0 + 3), .ref (B0 + 4), .ref (B0 + 6), .ref (B0 + 8), .ref (B0 + 10)]) := (ho16 _ (zne hB0 xw (fun q => by cases q))).trans hB0
        have hc18 : F14 r = some (zO 1 [.ref w, .int (nI n)]) := (ho16 _ (zne xr xw (fun q => by cases q))).trans xr
        have hc19 : F14 (B0 + 4) = some (zO 1 [.ref (B0 + 5), .int (nI n)]) := (ho16 _ (zne xrd xw (fun q => by cases q))).trans xrd
        have hc20 : F14 (B0 + 5) = some (zAI G 60 fd) := (ho16 _ (Ne.symm hw5)).trans xwd
        refine lv_iinc (k := 7) (v := nI (k + 1)) (lv' := [(7, .int (nI (k + 1))), (0, .ref B0), (1, .ref r), (2, .int (nI a)), (3, .int (nI b)), (4, .int zp), (5, .int (nI (b - a))), (6, .int (nI (fmd zp (b - a))))]) hx hb dX2_moveRound_66 hl rfl (nI_add k 1) (by decide) rfl (fun ls hl => ?_)
        refine lv_goto (tgt := 32) hx hb dX2_moveRound_69 (by decide) ?_
        refine ih (k + 1) _ ls H locs (by first | omega | (dsimp only; omega)) ?_ (lv_sub hl [1, 2, 3, 4, 5, 6, 7, 0] rfl) hI
        refine ⟨⟨xn, hc18, _, hw15, fun j hj => ?_⟩, ⟨xnd, hc19, _, hc20, xfd⟩, fun q q1 q2 q3 q4 => ((zSm.r ho16) q q1 q2).trans (hs0 q q1 q2 q3 q4), by omega⟩
        rw [← mvk_s hfl (by omega)]
        exact upd_cg xf j hj
  · refine lv_iconst (v := nI 0) hx hb dX2_moveRound_10 (by decide) ?_
    refine z_ri hx hb hr hlocks hI ?_ (Nat.le_of_ble_eq_true rfl) (Nat.le_of_ble_eq_true rfl) dX2_moveRound_11
    have h9 : mby zp (b - a) = 0 := by rw [hq1]; exact if_pos rfl
    exact ⟨_, rfl, by rw [h9], RA.cg h (fun j hj => mvt_0 (by omega) j), ⟨_, _, hd⟩, fun q _ _ _ _ => rfl⟩

set_option maxHeartbeats 4000000 in
set_option maxRecDepth 100000 in
theorem c_X2_move (l : Launch) (hl0 : l.stackTraces = false) (G : zK) (B0 : Nat) (F : zM) (σ : Sg) (zp0 zp1 zp2 zp3 : Int32) (hC : CS G B0 F σ) : vx_Met l yX2_move (Cond.code yX2_move cX2_move 6 (some FieldType.int) :: zW) (zRm 7 112 2 12) (va_Pc [.ref B0, .int zp0, .int zp1, .int zp2, .int zp3] (zPre G B0 F)) (zQi G B0 (fun r' F' => oA_move σ zp0 zp1 zp2 zp3 ∧ oB_move σ zp0 zp1 zp2 zp3 ∧ oC_move σ zp0 zp1 zp2 zp3 ∧ r' = rr_move σ zp0 zp1 zp2 zp3 ∧ CS G B0 F' (ss_move σ zp0 zp1 zp2 zp3) ∧ zCf B0 F F')) (zXC G B0 F (fun E => zPX zEI "" "" (oA_move σ zp0 zp1 zp2 zp3) (oB_move σ zp0 zp1 zp2 zp3) (oC_move σ zp0 zp1 zp2 zp3) E)) 2 12 (zA B0) := by
  refine z_ofx (own := RX2) (by decide) rfl (Nat.le_of_ble_eq_true rfl) ?_
  intro p e s m below meth c ls hx hb hr hml hown hlocks hout hts hl hI
  have hl : lv_has ls 6 [(0, .ref B0), (1, .int zp0), (2, .int zp1), (3, .int zp2), (4, .int zp3)] := hl
  obtain ⟨y01, ⟨fa1, y11, e11⟩, ⟨fb1, y21, e21⟩, ⟨fc1, y31, e31⟩, ⟨n41, t41, y41⟩, ⟨n61, t61, y61⟩, ⟨n81, t81, y81⟩, ⟨fd1, y101⟩, yT1, yP1⟩ := id hC
  refine lv_aload_n hx hb dX2_move_0 rfl (lv_at hl 0 rfl) ?_
  refine lv_iload_n hx hb dX2_move_1 rfl (lv_at hl 1 rfl) ?_
  refine z_xcallr hI (z_xV (As := [.int zp0]) (rest := []) ⟨hx, hb, hml, hown, hts⟩ hI y01 rfl (c_X2_textAt l hl0 G B0 F σ zp0 hC) (z_cwV vX2_textAt hts q71 ⟨Nat.le_of_ble_eq_true rfl, Nat.le_of_ble_eq_true rfl⟩) rfl hl.1 rfl (lv_room (Nat.le_of_ble_eq_true rfl)) dX2_move_2 ⟨Nat.le_of_ble_eq_true rfl, Nat.le_of_ble_eq_true rfl⟩) (z_out hout hlocks (fun E hE => Or.inl ⟨hE.1, fun q => hE.2 (by first | exact q.1 | (simp only [oA_move, oB_move, oC_move, rr_move, ss_move] at q; exact q.1))⟩) (Nat.le_of_ble_eq_true rfl) (Nat.le_of_ble_eq_true rfl)) (fun r3 F2 H locs hp4 hI => ?_)
  obtain ⟨rfl, i5, hi6, rfl, rfl⟩ := hp4
  have hix7 : ix (nI i5) = i5 := ix_nI (by omega)
  have hl : lv_has ls 6 [(0, .ref B0), (1, .int (nI i5)), (2, .int zp1), (3, .int zp2), (4, .int zp3)] := hl
  have hx8 := yT1 i5 hi6
  obtain ⟨xnhx8, xrhx8, fhx8, xwhx8, xfhx8⟩ := id hx8
  refine lv_astore (lv' := [(5, .ref (B0 + 11 + 2 * i5)), (0, .ref B0), (1, .int (nI i5)), (2, .int zp1), (3, .int zp2), (4, .int zp3)]) hx hb dX2_move_5 hl (by decide) rfl (fun ls hl => ?_)
  refine lv_aload hx hb dX2_move_7 (lv_at hl 0 rfl) ?_
  refine lv_iload_n hx hb dX2_move_9 rfl (lv_at hl 3 rfl) ?_
  refine lv_iload_n hx hb dX2_move_10 rfl (lv_at hl 4 rfl) ?_
  refine z_xcallv hI (z_xS (As := [.ref (B0 + 11 + 2 * i5), .int zp1, .int zp2]) (rest := []) ⟨hx, hb, hml, hown, hts⟩ hI (c_X2_requirePart l hl0 G B0 F (B0 + 11 + 2 * i5) (B0 + 12 + 2 * i5) 60 (sn σ i5) (st σ i5) zp1 zp2 ⟨xnhx8, xrhx8, fhx8, xwhx8, xfhx8⟩ (by decide)) (z_cwS vX2_requirePart hts q221 ⟨Nat.le_of_ble_eq_true rfl, Nat.le_of_ble_eq_true rfl⟩) rfl hl.1 rfl (lv_room (Nat.le_of_ble_eq_true rfl)) dX2_move_11 ⟨Nat.le_of_ble_eq_true rfl, Nat.le_of_ble_eq_true rfl⟩) (z_out hout hlocks (fun E hE => Or.inl ⟨hE.1, fun q => hE.2 (by first | exact q.2 | (simp only [oA_move, oB_move, oC_move, rr_move, ss_move, hix7] at q; exact q.2))⟩) (Nat.le_of_ble_eq_true rfl) (Nat.le_of_ble_eq_true rfl)) (fun F9 H locs hp11 hI => ?_)
  obtain ⟨rfl, a12, b13, hab14, hbn15, rfl, rfl⟩ := hp11
  have hix16 : ix (nI a12) = a12 := ix_nI (by omega)
  have hix17 : ix (nI b13) = b13 := ix_nI (by omega)
  have hl : lv_has ls 6 [(5, .ref (B0 + 11 + 2 * i5)), (0, .ref B0), (1, .int (nI i5)), (2, .int (nI a12)), (3, .int (nI b13)), (4, .int zp3)] := hl
  obtain ⟨xnd, xrd, fd, xwd, xfd⟩ := id y41
  refine lv_aload_n hx hb dX2_move_14 rfl (lv_at hl 1 rfl) ?_
  refine lv_aload hx hb dX2_move_15 (lv_at hl 0 rfl) ?_
  refine lv_iload_n hx hb dX2_move_17 rfl (lv_at hl 3 rfl) ?_
  refine lv_iload_n hx hb dX2_move_18 rfl (lv_at hl 4 rfl) ?_
  refine lv_iload hx hb dX2_move_19 (lv_at hl 5 rfl) ?_
  refine z_calli hI (z_V (As := [.ref (B0 + 11 + 2 * i5), .int (nI a12), .int (nI b13), .int zp3]) (rest := []) ⟨hx, hb, hml, hown, hts⟩ hI y01 rfl (c_X2_moveRound l G B0 F (B0 + 11 + 2 * i5) (B0 + 12 + 2 * i5) 60 (sn σ i5) (st σ i5) _ _ a12 b13 zp3 y01 ⟨xnd, xrd, fd, xwd, xfd⟩ ⟨xnhx8, xrhx8, fhx8, xwhx8, xfhx8⟩ (by decide) (by omega) (by omega) (by omega) (by omega) (by omega)) (z_cwV vX2_moveRound hts q554 ⟨Nat.le_of_ble_eq_true rfl, Nat.le_of_ble_eq_true rfl⟩) rfl hl.1 rfl (lv_room (Nat.le_of_ble_eq_true rfl)) dX2_move_21 ⟨Nat.le_of_ble_eq_true rfl, Nat.le_of_ble_eq_true rfl⟩) (fun r19 F18 H locs hp20 hI => ?_)
  obtain ⟨rfl, hb1, ⟨n5, t5, hd1⟩, hs1⟩ := hp20
  obtain ⟨hC9, hcf9⟩ := CS.setTW hC hi6 hs1 hb1 hd1
  refine vx_ret (z_ri hx hb hr hlocks hI ?_ (Nat.le_of_ble_eq_true rfl) (Nat.le_of_ble_eq_true rfl) dX2_move_24)
  refine ⟨_, rfl, (by simp only [oA_move, oB_move, oC_move, rr_move, ss_move, hix7, hix16, hix17] <;> exact ⟨⟨i5, hi6, rfl⟩, ⟨a12, b13, hab14, hbn15, rfl, rfl⟩⟩), (by simp only [oA_move, oB_move, oC_move, rr_move, ss_move, hix7, hix16, hix17] <;> exact trivial), (by simp only [oA_move, oB_move, oC_move, rr_move, ss_move, hix7, hix16, hix17] <;> exact trivial), (by simp only [oA_move, oB_move, oC_move, rr_move, ss_move, hix7, hix16, hix17] <;> exact rfl), (by simp only [oA_move, oB_move, oC_move, rr_move, ss_move, hix7, hix16, hix17] <;> exact hC9), hcf9⟩

theorem cp_n {σ : Sg} {i j : Nat} {f : Nat → Int32} : sn (sT σ j (sn σ j) f) i = sn σ i := by
  by_cases e : i = j
  · subst e; rw [sT_n]
  · rw [sT_no e]
theorem cp_t {σ : Sg} {i j k m : Nat} : st (sT σ j m (fun q => if q < k then st σ i q else st σ j q)) i k = st σ i k := by
  by_cases e : i = j
  · subst e; rw [sT_t]; exact if_neg (Nat.lt_irrefl _)
  · rw [sT_to e]
theorem sT_sT {σ : Sg} {i n n' : Nat} {t t' : Nat → Int32} : sT (sT σ i n t) i n' t' = sT σ i n' t' := by
  simp only [sT]
  congr 1
  · funext j; by_cases e : j = i <;> simp [e]
  · congr 1; funext j; by_cases e : j = i <;> simp [e]
theorem CS.cgT {G : zK} {B0 : Nat} {F : zM} {σ : Sg} {i : Nat} {t : Nat → Int32} (h : CS G B0 F σ) (e : ∀ q, q < sn σ i → st σ i q = t q) : CS G B0 F (sT σ i (sn σ i) t) := by
  by_cases hi : i < 4
  · exact CS.setT h hi zSm.rf (RA.cg (h.2.2.2.2.2.2.2.2.1 i hi) e)
  · obtain ⟨z0, z1, z2, z3, z4, z6, z8, z10, zT, zP⟩ := h
    exact ⟨z0, z1, z2, z3, z4, z6, z8, z10, fun j hj => by rw [sT_no (by omega), sT_to (by omega)]; exact zT j hj, zP⟩
set_option maxHeartbeats 4000000 in
set_option maxRecDepth 100000 in
theorem c_X2_copy (l : Launch) (hl0 : l.stackTraces = false) (G : zK) (B0 : Nat) (F : zM) (σ : Sg) (zp0 zp1 : Int32) (hC : CS G B0 F σ) : vx_Met l yX2_copy (Cond.code yX2_copy cX2_copy 6 (some FieldType.int) :: zW) (zRm 7 111 3 18) (va_Pc [.ref B0, .int zp0, .int zp1] (zPre G B0 F)) (zQi G B0 (fun r' F' => oA_copy σ zp0 zp1 ∧ oB_copy σ zp0 zp1 ∧ oC_copy σ zp0 zp1 ∧ r' = rr_copy σ zp0 zp1 ∧ CS G B0 F' (ss_copy σ zp0 zp1) ∧ zCf B0 F F')) (zXC G B0 F (fun E => zPX zEI zES "" (oA_copy σ zp0 zp1) (oB_copy σ zp0 zp1) (oC_copy σ zp0 zp1) E)) 3 18 (zA B0) := by
  refine z_ofx (own := RX2) (by decide) rfl (Nat.le_of_ble_eq_true rfl) ?_
  intro p e s m below meth c ls hx hb hr hml hown hlocks hout hts hl hI
  have hl : lv_has ls 6 [(0, .ref B0), (1, .int zp0), (2, .int zp1)] := hl
  obtain ⟨y01, ⟨fa1, y11, e11⟩, ⟨fb1, y21, e21⟩, ⟨fc1, y31, e31⟩, ⟨n41, t41, y41⟩, ⟨n61, t61, y61⟩, ⟨n81, t81, y81⟩, ⟨fd1, y101⟩, yT1, yP1⟩ := id hC
  refine lv_aload_n hx hb dX2_copy_0 rfl (lv_at hl 0 rfl) ?_
  refine lv_iload_n hx hb dX2_copy_1 rfl (lv_at hl 1 rfl) ?_
  refine z_xcallr hI (z_xV (As := [.int zp0]) (rest := []) ⟨hx, hb, hml, hown, hts⟩ hI y01 rfl (c_X2_textAt l hl0 G B0 F σ zp0 hC) (z_cwV vX2_textAt hts q71 ⟨Nat.le_of_ble_eq_true rfl, Nat.le_of_ble_eq_true rfl⟩) rfl hl.1 rfl (lv_room (Nat.le_of_ble_eq_true rfl)) dX2_copy_2 ⟨Nat.le_of_ble_eq_true rfl, Nat.le_of_ble_eq_true rfl⟩) (z_out hout hlocks (fun E hE => Or.inl ⟨hE.1, fun q => hE.2 (by first | exact q.1 | (simp only [oA_copy, oB_copy, oC_copy, rr_copy, ss_copy] at q; exact q.1))⟩) (Nat.le_of_ble_eq_true rfl) (Nat.le_of_ble_eq_true rfl)) (fun r3 F2 H locs hp4 hI => ?_)
  obtain ⟨rfl, i5, hi6, rfl, rfl⟩ := hp4
  have hix7 : ix (nI i5) = i5 := ix_nI (by omega)
  have hl : lv_has ls 6 [(0, .ref B0), (1, .int (nI i5)), (2, .int zp1)] := hl
  have hx8 := yT1 i5 hi6
  obtain ⟨xnhx8, xrhx8, fhx8, xwhx8, xfhx8⟩ := id hx8
  refine lv_astore_n (lv' := [(3, .ref (B0 + 11 + 2 * i5)), (0, .ref B0), (1, .int (nI i5)), (2, .int zp1)]) hx hb dX2_copy_5 rfl hl (by decide) rfl (fun ls hl => ?_)
  refine lv_aload_n hx hb dX2_copy_6 rfl (lv_at hl 1 rfl) ?_
  refine lv_iload_n hx hb dX2_copy_7 rfl (lv_at hl 3 rfl) ?_
  refine z_xcallr hI (z_xV (As := [.int zp1]) (rest := []) ⟨hx, hb, hml, hown, hts⟩ hI y01 rfl (c_X2_textAt l hl0 G B0 F σ zp1 hC) (z_cwV vX2_textAt hts q71 ⟨Nat.le_of_ble_eq_true rfl, Nat.le_of_ble_eq_true rfl⟩) rfl hl.1 rfl (lv_room (Nat.le_of_ble_eq_true rfl)) dX2_copy_8 ⟨Nat.le_of_ble_eq_true rfl, Nat.le_of_ble_eq_true rfl⟩) (z_out hout hlocks (fun E hE => Or.inl ⟨hE.1, fun q => hE.2 (by first | exact q.2 | (simp only [oA_copy, oB_copy, oC_copy, rr_copy, ss_copy, hix7] at q; exact q.2))⟩) (Nat.le_of_ble_eq_true rfl) (Nat.le_of_ble_eq_true rfl)) (fun r10 F9 H locs hp11 hI => ?_)
  obtain ⟨rfl, i12, hi13, rfl, rfl⟩ := hp11
  have hix14 : ix (nI i12) = i12 := ix_nI (by omega)
  have hl : lv_has ls 6 [(3, .ref (B0 + 11 + 2 * i5)), (0, .ref B0), (1, .int (nI i5)), (2, .int (nI i12))] := hl
  have hx15 := yT1 i12 hi13
  obtain ⟨xnhx15, xrhx15, fhx15, xwhx15, xfhx15⟩ := id hx15
  refine lv_astore (lv' := [(4, .ref (B0 + 11 + 2 * i12)), (3, .ref (B0 + 11 + 2 * i5)), (0, .ref B0), (1, .int (nI i5)), (2, .int (nI i12))]) hx hb dX2_copy_11 hl (by decide) rfl (fun ls hl => ?_)
  refine lv_aload hx hb dX2_copy_13 (lv_at hl 0 rfl) ?_
  refine z_getN hx hb hts hown zlX1 rfl 1 (by decide) (List.mem_of_getElem? (i := 0) rfl) rfl hI xrhx15 rfl dX2_copy_15 ?_
  refine lv_aload_n hx hb dX2_copy_18 rfl (lv_at hl 1 rfl) ?_
  refine z_getN hx hb hts hown zlX1 rfl 1 (by decide) (List.mem_of_getElem? (i := 0) rfl) rfl hI xrhx8 rfl dX2_copy_19 ?_
  refine z_icmp_ge (tgt := 35) (a := sn σ i12) (b := sn σ i5) hx hb dX2_copy_22 (by decide) (by omega) (fun hq16 => ?_) (fun hq16 => ?_)
  · refine lv_iconst (v := nI 0) hx hb dX2_copy_35 (by decide) ?_
    refine lv_istore (lv' := [(5, .int (nI 0)), (4, .ref (B0 + 11 + 2 * i12)), (3, .ref (B0 + 11 + 2 * i5)), (0, .ref B0), (1, .int (nI i5)), (2, .int (nI i12))]) hx hb dX2_copy_36 hl (by decide) rfl (fun ls hl => ?_)
    refine z_loop (σ := Nat) (fun k : Nat => [(0, .ref B0), (1, .int (nI i5)), (2, .int (nI i12)), (3, .ref (B0 + 11 + 2 * i5)), (4, .ref (B0 + 11 + 2 * i12)), (5, .int (nI k))]) (fun (k : Nat) (Fx : zM) => CS G B0 Fx (sT σ i12 (sn σ i12) (fun q => if q < k then st σ i5 q else st σ i12 q)) ∧ zCf B0 F Fx ∧ k ≤ sn σ i5) (fun k : Nat => sn σ i5 - k) 0 (nL := 6) (st := []) ?_ (lv_sub hl [3, 4, 5, 2, 1, 0] rfl) hI ?_
    · refine ⟨?_, zCf.rf, Nat.zero_le _⟩
      have hz9 := hC.cgT (i := i12) (t := fun q => if q < 0 then st σ i5 q else st σ i12 q) (fun q _ => (if_neg (Nat.not_lt_zero _)).symm)
      exact hz9
    · intro k F17 ls H locs hi hl hI ih
      have hl : lv_has ls 6 [(0, .ref B0), (1, .int (nI i5)), (2, .int (nI i12)), (3, .ref (B0 + 11 + 2 * i5)), (4, .ref (B0 + 11 + 2 * i12)), (5, .int (nI k))] := hl
      obtain ⟨hc0, hf0, hk⟩ := hi
      obtain ⟨y018, ⟨fa18, y118, e118⟩, ⟨fb18, y218, e218⟩, ⟨fc18, y318, e318⟩, ⟨n418, t418, y418⟩, ⟨n618, t618, y618⟩, ⟨n818, t818, y818⟩, ⟨fd18, y1018⟩, yT18, yP18⟩ := id hc0
      have hx19 := yT18 i5 hi6
      obtain ⟨xnhx19, xrhx19, fhx19, xwhx19, xfhx19⟩ := id hx19
      have hx20 := yT18 i12 hi13
      obtain ⟨xnhx20, xrhx20, fhx20, xwhx20, xfhx20⟩ := id hx20
      rw [sT_n] at xrhx20
      have hn1 : sn (sT σ i12 (sn σ i12) (fun q => if q < k then st σ i5 q else st σ i12 q)) i5 = sn σ i5 := cp_n
      have ht1 : st (sT σ i12 (sn σ i12) (fun q => if q < k then st σ i5 q else st σ i12 q)) i5 k = st σ i5 k := cp_t
      rw [hn1] at xrhx19
      refine lv_iload hx hb dX2_copy_38 (lv_at hl 5 rfl) ?_
      refine lv_aload_n hx hb dX2_copy_40 rfl (lv_at hl 3 rfl) ?_
      refine z_getN hx hb hts hown zlX1 rfl 1 (by decide) (List.mem_of_getElem? (i := 0) rfl) rfl hI xrhx19 rfl dX2_copy_41 ?_
      refine z_icmp_ge (tgt := 68) (a := k) (b := sn σ i5) hx hb dX2_copy_44 (by decide) (by omega) (fun hq21 => ?_) (fun hq21 => ?_)
      · refine lv_aload hx hb dX2_copy_68 (lv_at hl 4 rfl) ?_
        refine z_getN hx hb hts hown zlX1 rfl 1 (by decide) (List.mem_of_getElem? (i := 0) rfl) rfl hI xrhx20 rfl dX2_copy_70 ?_
        refine vx_ret (z_ri hx hb hr hlocks hI ?_ (Nat.le_of_ble_eq_true rfl) (Nat.le_of_ble_eq_true rfl) dX2_copy_73)
        have hkn : k = sn σ i5 := by omega
        refine ⟨_, rfl, (by simp only [oA_copy, oB_copy, oC_copy, rr_copy, ss_copy, hix7, hix14] <;> exact ⟨⟨i5, hi6, rfl⟩, ⟨i12, hi13, rfl⟩⟩), (by simp only [oA_copy, oB_copy, oC_copy, rr_copy, ss_copy, hix7, hix14] <;> exact (by omega)), (by simp only [oA_copy, oB_copy, oC_copy, rr_copy, ss_copy, hix7, hix14] <;> exact trivial), (by simp only [oA_copy, oB_copy, oC_copy, rr_copy, ss_copy, hix7, hix14] <;> exact rfl), (by simp only [oA_copy, oB_copy, oC_copy, rr_copy, ss_copy, hix7, hix14] <;> exact (by rw [hkn] at hc0; exact hc0)), hf0⟩
      · refine lv_aload hx hb dX2_copy_47 (lv_at hl 4 rfl) ?_
        refine z_getN hx hb hts hown zlX1 rfl 0 (by decide) (List.mem_of_getElem? (i := 1) rfl) rfl hI xrhx20 rfl dX2_copy_49 ?_
        refine lv_iload hx hb dX2_copy_52 (lv_at hl 5 rfl) ?_
        refine lv_aload_n hx hb dX2_copy_54 rfl (lv_at hl 3 rfl) ?_
        refine z_getN hx hb hts hown zlX1 rfl 0 (by decide) (List.mem_of_getElem? (i := 1) rfl) rfl hI xrhx19 rfl dX2_copy_55 ?_
        refine lv_iload hx hb dX2_copy_58 (lv_at hl 5 rfl) ?_
        refine z_ild (k := k) (v := st σ i5 k) hx hb hI xwhx19 (by omega) (by omega) ((xfhx19 k (by rw [hn1]; omega)).trans ht1) dX2_copy_60 ?_
        refine z_ist (k := k) hx hb hI xwhx20 (by omega) (by omega) dX2_copy_61 (fun H locs F22 hw23 ho24 hI => ?_)
        have hc25 : F22 B0 = some (zO 2 [.ref (B0 + 1), .ref (B0 + 2), .ref (B0 + 3), .ref (B0 + 4), .ref (B0 + 6), .ref (B0 + 8), .ref (B0 + 10)]) := (ho24 _ (zne y018 xwhx20 (fun q => by cases q))).trans y018
        have hc26 : F22 (B0 + 1) = some (zA1 G 4 fa18) := (ho24 _ (by omega)).trans y118
        have hc27 : F22 (B0 + 2) = some (zA1 G 2 fb18) := (ho24 _ (by omega)).trans y218
        have hc28 : F22 (B0 + 3) = some (zAI G 100 fc18) := (ho24 _ (by omega)).trans y318
        have hc29 : F22 (B0 + 10) = some (zAI G 61 fd18) := (ho24 _ (by omega)).trans y1018
        have hc30 : F22 (B0 + 11 + 2 * i12) = some (zO 1 [.ref (B0 + 12 + 2 * i12), .int (nI (sn σ i12))]) := (ho24 _ (zne xrhx20 xwhx20 (fun q => by cases q))).trans xrhx20
        refine lv_iinc (k := 5) (v := nI (k + 1)) (lv' := [(5, .int (nI (k + 1))), (0, .ref B0), (1, .int (nI i5)), (2, .int (nI i12)), (3, .ref (B0 + 11 + 2 * i5)), (4, .ref (B0 + 11 + 2 * i12))]) hx hb dX2_copy_62 hl rfl (nI_add k 1) (by decide) rfl (fun ls hl => ?_)
        refine lv_goto (tgt := 38) hx hb dX2_copy_65 (by decide) ?_
        refine ih (k + 1) _ ls H locs (by first | omega | (dsimp only; omega)) ?_ (lv_sub hl [1, 2, 3, 4, 5, 0] rfl) hI
        refine ⟨?_, zCf.tr hf0 (zCf.sm (a := B0 + 11 + 2 * i12) (b := B0 + 12 + 2 * i12) (zSm.r ho24) (by omega) (by omega)), by omega⟩
        have hz9 := CS.setT hc0 hi13 (zSm.r ho24) (n := sn σ i12) (t := fun q => if q < k + 1 then st σ i5 q else st σ i12 q) ⟨(by omega), hc30, _, hw23, fun q hq => ?_⟩
        · rw [sT_sT] at hz9; exact hz9
        · by_cases e : q = k
          · subst e; rw [pk_us]; dsimp only; rw [if_pos (Nat.lt_succ_self _)]
          · rw [pk_un e, xfhx20 q (by rw [sT_n]; exact hq), sT_t]; dsimp only; by_cases e2 : q < k
            · rw [if_pos e2, if_pos (by omega)]
            · rw [if_neg e2, if_neg (by omega)]
  · refine z_throw (cls := zES) hx hb hl0 hown hlocks hout hts zaX2_96 zbX2_96 q152 q9 (List.mem_of_getElem? (i := 2) rfl) (by decide +kernel) (List.mem_of_getElem? (i := 1) rfl) hI (hl.1.trans hml.symm) dX2_copy_25 dX2_copy_28 dX2_copy_29 dX2_copy_31 dX2_copy_34 ⟨Nat.le_of_ble_eq_true rfl, Nat.le_of_ble_eq_true rfl, Nat.le_of_ble_eq_true rfl, Nat.le_of_ble_eq_true rfl⟩ ?_ (Nat.le_of_ble_eq_true rfl) (Nat.le_of_ble_eq_true rfl)
    exact Or.inr (Or.inl ⟨rfl, (by simp only [oA_copy, oB_copy, oC_copy, rr_copy, ss_copy, hix7, hix14] <;> exact ⟨⟨i5, hi6, rfl⟩, ⟨i12, hi13, rfl⟩⟩), fun q => by simp only [oA_copy, oB_copy, oC_copy, rr_copy, ss_copy, hix7, hix14] at q; omega⟩)

