set_option maxHeartbeats 4000000 in
set_option maxRecDepth 100000 in
theorem c_X4_isPlace (l : Launch) (G : zK) (B0 : Nat) (F : zM) (σ : Sg) (th zp0 zp1 : Int32) (hM : MS G B0 F σ th) (hK : SgOk σ) : Met l yX4_isPlace (Cond.code yX4_isPlace cX4_isPlace 3 (some FieldType.boolean) :: zW) (zRm 2 45 0 0) (va_Pc [.ref (B0 + 23), .int zp0, .int zp1] (zPre G B0 F)) (zQi G B0 (fun r F' => F = F' ∧ r = pI (okT zp0 ∧ okL (sn σ (ix zp0)) zp1))) 0 0 (zA B0) := by
  refine z_of (own := RX4) (by decide) rfl (Nat.le_of_ble_eq_true rfl) ?_
  intro p e s m below meth c ls hx hb hr hml hown hlocks hnm hts hl hI
  have hl : lv_has ls 3 [(0, .ref (B0 + 23)), (1, .int zp0), (2, .int zp1)] := hl
  obtain ⟨m01, ⟨ma1, m11, me11⟩, ⟨mb1, m21, me21⟩, ⟨mc1, m31, me31⟩, ⟨n91, t91, m41⟩, mT1, mP1⟩ := id hM
  refine lv_iload_n hx hb dX4_isPlace_0 rfl (lv_at hl 1 rfl) ?_
  refine z_calli hI (z_S (As := [.int zp0]) (rest := []) ⟨hx, hb, hml, hown, hts⟩ hI (c_X4_isText l G B0 F zp0) (z_cwS vX4_isText hts q772 ⟨Nat.le_of_ble_eq_true rfl, Nat.le_of_ble_eq_true rfl⟩) rfl hl.1 rfl (lv_room (Nat.le_of_ble_eq_true rfl)) dX4_isPlace_1 ⟨Nat.le_of_ble_eq_true rfl, Nat.le_of_ble_eq_true rfl⟩) (fun r3 F2 H locs hp4 hI => ?_)
  obtain ⟨rfl, rfl⟩ := hp4
  refine z_ifp_eq (tgt := 32) hx hb dX4_isPlace_4 (by decide) (fun hq5 => ?_) (fun hq5 => ?_)
  · refine lv_iconst (v := nI 0) hx hb dX4_isPlace_32 (by decide) ?_
    refine z_rz hx hb hr hlocks (Or.inl rfl) hI ?_ (Nat.le_of_ble_eq_true rfl) (Nat.le_of_ble_eq_true rfl) dX4_isPlace_33
    exact ⟨_, rfl, rfl, pI_f (fun z => hq5 z.1)⟩
  · obtain ⟨i6, hi7, rfl⟩ := id hq5
    have hix8 : ix (nI i6) = i6 := ix_nI (by omega)
    have hl : lv_has ls 3 [(0, .ref (B0 + 23)), (1, .int (nI i6)), (2, .int zp1)] := hl
    obtain ⟨m09, ⟨ma9, m19, me19⟩, ⟨mb9, m29, me29⟩, ⟨mc9, m39, me39⟩, ⟨n99, t99, m49⟩, mT9, mP9⟩ := id hM
    have hx10 := mT9 i6 hi7
    obtain ⟨xnhx10, xrhx10, fhx10, xwhx10, xfhx10⟩ := id hx10
    refine lv_iload_n hx hb dX4_isPlace_7 rfl (lv_at hl 2 rfl) ?_
    refine lv_i2l hx hb dX4_isPlace_8 rfl ?_
    refine lv_lconst (v := 0) hx hb dX4_isPlace_9 (by decide) ?_
    refine lv_aload_n hx hb dX4_isPlace_10 rfl (lv_at hl 0 rfl) ?_
    refine z_get hx hb hts hown zlX4 rfl 1 (by decide) (hts _ q753) rfl hI m09 rfl dX4_isPlace_11 ?_
    refine lv_iload_n hx hb dX4_isPlace_14 rfl (lv_at hl 1 rfl) ?_
    refine z_ald3 (k := i6) (v := B0 + 25 + 2 * i6) hx hb hI m19 (by omega) (by omega) (me19 i6 (by omega)) dX4_isPlace_15 ?_
    refine z_getN hx hb hts hown zlX3 rfl 1 (by decide) (List.mem_of_getElem? (i := 2) rfl) rfl hI xrhx10 rfl dX4_isPlace_16 ?_
    refine lv_iconst (v := nI 1) hx hb dX4_isPlace_19 (by decide) ?_
    refine lv_isub hx hb dX4_isPlace_20 ?_
    refine lv_i2l hx hb dX4_isPlace_21 rfl ?_
    refine z_calli hI (z_S (As := [.long zp1.toInt64, .long 0, .long (((nI (sn σ i6)) - (nI 1)).toInt64)]) (rest := []) ⟨hx, hb, hml, hown, hts⟩ hI (c_X4_in l G B0 F zp1.toInt64 0 (((nI (sn σ i6)) - (nI 1)).toInt64)) (z_cwS vX4_in hts q776 ⟨Nat.le_of_ble_eq_true rfl, Nat.le_of_ble_eq_true rfl⟩) rfl hl.1 rfl (lv_room (Nat.le_of_ble_eq_true rfl)) dX4_isPlace_22 ⟨Nat.le_of_ble_eq_true rfl, Nat.le_of_ble_eq_true rfl⟩) (fun r12 F11 H locs hp13 hI => ?_)
    obtain ⟨rfl, rfl⟩ := hp13
    refine z_ifp_eq (tgt := 32) hx hb dX4_isPlace_25 (by decide) (fun hq14 => ?_) (fun hq14 => ?_)
    · refine lv_iconst (v := nI 0) hx hb dX4_isPlace_32 (by decide) ?_
      refine z_rz hx hb hr hlocks (Or.inl rfl) hI ?_ (Nat.le_of_ble_eq_true rfl) (Nat.le_of_ble_eq_true rfl) dX4_isPlace_33
      exact ⟨_, rfl, rfl, pI_f (fun z => hq14 ((in_pl1 (by omega)).mpr (by have z2 := z.2; rw [hix8] at z2; exact z2)))⟩
    · refine lv_iconst (v := nI 1) hx hb dX4_isPlace_28 (by decide) ?_
      refine lv_goto (tgt := 33) hx hb dX4_isPlace_29 (by decide) ?_
      refine z_rz hx hb hr hlocks (Or.inr rfl) hI ?_ (Nat.le_of_ble_eq_true rfl) (Nat.le_of_ble_eq_true rfl) dX4_isPlace_33
      exact ⟨_, rfl, rfl, pI_t ⟨hq5, by rw [hix8]; exact (in_pl1 (by omega)).mp hq14⟩⟩

set_option maxHeartbeats 4000000 in
set_option maxRecDepth 100000 in
theorem c_X4_isPart (l : Launch) (G : zK) (B0 : Nat) (F : zM) (σ : Sg) (th zp0 zp1 zp2 : Int32) (hM : MS G B0 F σ th) (hK : SgOk σ) : Met l yX4_isPart (Cond.code yX4_isPart cX4_isPart 4 (some FieldType.boolean) :: zW) (zRm 2 45 0 0) (va_Pc [.ref (B0 + 23), .int zp0, .int zp1, .int zp2] (zPre G B0 F)) (zQi G B0 (fun r F' => F = F' ∧ r = pI (okT zp0 ∧ okR (sn σ (ix zp0)) zp1 zp2))) 0 0 (zA B0) := by
  refine z_of (own := RX4) (by decide) rfl (Nat.le_of_ble_eq_true rfl) ?_
  intro p e s m below meth c ls hx hb hr hml hown hlocks hnm hts hl hI
  have hl : lv_has ls 4 [(0, .ref (B0 + 23)), (1, .int zp0), (2, .int zp1), (3, .int zp2)] := hl
  obtain ⟨m01, ⟨ma1, m11, me11⟩, ⟨mb1, m21, me21⟩, ⟨mc1, m31, me31⟩, ⟨n91, t91, m41⟩, mT1, mP1⟩ := id hM
  refine lv_iload_n hx hb dX4_isPart_0 rfl (lv_at hl 1 rfl) ?_
  refine z_calli hI (z_S (As := [.int zp0]) (rest := []) ⟨hx, hb, hml, hown, hts⟩ hI (c_X4_isText l G B0 F zp0) (z_cwS vX4_isText hts q772 ⟨Nat.le_of_ble_eq_true rfl, Nat.le_of_ble_eq_true rfl⟩) rfl hl.1 rfl (lv_room (Nat.le_of_ble_eq_true rfl)) dX4_isPart_1 ⟨Nat.le_of_ble_eq_true rfl, Nat.le_of_ble_eq_true rfl⟩) (fun r3 F2 H locs hp4 hI => ?_)
  obtain ⟨rfl, rfl⟩ := hp4
  refine z_ifp_eq (tgt := 50) hx hb dX4_isPart_4 (by decide) (fun hq5 => ?_) (fun hq5 => ?_)
  · refine lv_iconst (v := nI 0) hx hb dX4_isPart_50 (by decide) ?_
    refine z_rz hx hb hr hlocks (Or.inl rfl) hI ?_ (Nat.le_of_ble_eq_true rfl) (Nat.le_of_ble_eq_true rfl) dX4_isPart_51
    exact ⟨_, rfl, rfl, pI_f (fun z => hq5 z.1)⟩
  · obtain ⟨i6, hi7, rfl⟩ := id hq5
    have hix8 : ix (nI i6) = i6 := ix_nI (by omega)
    have hl : lv_has ls 4 [(0, .ref (B0 + 23)), (1, .int (nI i6)), (2, .int zp1), (3, .int zp2)] := hl
    obtain ⟨m09, ⟨ma9, m19, me19⟩, ⟨mb9, m29, me29⟩, ⟨mc9, m39, me39⟩, ⟨n99, t99, m49⟩, mT9, mP9⟩ := id hM
    have hx10 := mT9 i6 hi7
    obtain ⟨xnhx10, xrhx10, fhx10, xwhx10, xfhx10⟩ := id hx10
    refine lv_iload_n hx hb dX4_isPart_7 rfl (lv_at hl 2 rfl) ?_
    refine lv_i2l hx hb dX4_isPart_8 rfl ?_
    refine lv_lconst (v := 0) hx hb dX4_isPart_9 (by decide) ?_
    refine lv_aload_n hx hb dX4_isPart_10 rfl (lv_at hl 0 rfl) ?_
    refine z_get hx hb hts hown zlX4 rfl 1 (by decide) (hts _ q753) rfl hI m09 rfl dX4_isPart_11 ?_
    refine lv_iload_n hx hb dX4_isPart_14 rfl (lv_at hl 1 rfl) ?_
    refine z_ald3 (k := i6) (v := B0 + 25 + 2 * i6) hx hb hI m19 (by omega) (by omega) (me19 i6 (by omega)) dX4_isPart_15 ?_
    refine z_getN hx hb hts hown zlX3 rfl 1 (by decide) (List.mem_of_getElem? (i := 2) rfl) rfl hI xrhx10 rfl dX4_isPart_16 ?_
    refine lv_i2l hx hb dX4_isPart_19 rfl ?_
    refine z_calli hI (z_S (As := [.long zp1.toInt64, .long 0, .long ((nI (sn σ i6)).toInt64)]) (rest := []) ⟨hx, hb, hml, hown, hts⟩ hI (c_X4_in l G B0 F zp1.toInt64 0 ((nI (sn σ i6)).toInt64)) (z_cwS vX4_in hts q776 ⟨Nat.le_of_ble_eq_true rfl, Nat.le_of_ble_eq_true rfl⟩) rfl hl.1 rfl (lv_room (Nat.le_of_ble_eq_true rfl)) dX4_isPart_20 ⟨Nat.le_of_ble_eq_true rfl, Nat.le_of_ble_eq_true rfl⟩) (fun r12 F11 H locs hp13 hI => ?_)
    obtain ⟨rfl, rfl⟩ := hp13
    refine z_ifp_eq (tgt := 50) hx hb dX4_isPart_23 (by decide) (fun hq14 => ?_) (fun hq14 => ?_)
    · refine lv_iconst (v := nI 0) hx hb dX4_isPart_50 (by decide) ?_
      refine z_rz hx hb hr hlocks (Or.inl rfl) hI ?_ (Nat.le_of_ble_eq_true rfl) (Nat.le_of_ble_eq_true rfl) dX4_isPart_51
      exact ⟨_, rfl, rfl, pI_f (fun z => hq14 ((in_pt (by omega)).mpr (by have z2 := z.2; rw [hix8] at z2; exact z2)).1)⟩
    · refine lv_iload_n hx hb dX4_isPart_26 rfl (lv_at hl 3 rfl) ?_
      refine lv_i2l hx hb dX4_isPart_27 rfl ?_
      refine lv_iload_n hx hb dX4_isPart_28 rfl (lv_at hl 2 rfl) ?_
      refine lv_i2l hx hb dX4_isPart_29 rfl ?_
      refine lv_aload_n hx hb dX4_isPart_30 rfl (lv_at hl 0 rfl) ?_
      refine z_get hx hb hts hown zlX4 rfl 1 (by decide) (hts _ q753) rfl hI m09 rfl dX4_isPart_31 ?_
      refine lv_iload_n hx hb dX4_isPart_34 rfl (lv_at hl 1 rfl) ?_
      refine z_ald3 (k := i6) (v := B0 + 25 + 2 * i6) hx hb hI m19 (by omega) (by omega) (me19 i6 (by omega)) dX4_isPart_35 ?_
      refine z_getN hx hb hts hown zlX3 rfl 1 (by decide) (List.mem_of_getElem? (i := 2) rfl) rfl hI xrhx10 rfl dX4_isPart_36 ?_
      refine lv_i2l hx hb dX4_isPart_39 rfl ?_
      refine z_calli hI (z_S (As := [.long zp2.toInt64, .long zp1.toInt64, .long ((nI (sn σ i6)).toInt64)]) (rest := []) ⟨hx, hb, hml, hown, hts⟩ hI (c_X4_in l G B0 F zp2.toInt64 zp1.toInt64 ((nI (sn σ i6)).toInt64)) (z_cwS vX4_in hts q776 ⟨Nat.le_of_ble_eq_true rfl, Nat.le_of_ble_eq_true rfl⟩) rfl hl.1 rfl (lv_room (Nat.le_of_ble_eq_true rfl)) dX4_isPart_40 ⟨Nat.le_of_ble_eq_true rfl, Nat.le_of_ble_eq_true rfl⟩) (fun r16 F15 H locs hp17 hI => ?_)
      obtain ⟨rfl, rfl⟩ := hp17
      refine z_ifp_eq (tgt := 50) hx hb dX4_isPart_43 (by decide) (fun hq18 => ?_) (fun hq18 => ?_)
      · refine lv_iconst (v := nI 0) hx hb dX4_isPart_50 (by decide) ?_
        refine z_rz hx hb hr hlocks (Or.inl rfl) hI ?_ (Nat.le_of_ble_eq_true rfl) (Nat.le_of_ble_eq_true rfl) dX4_isPart_51
        exact ⟨_, rfl, rfl, pI_f (fun z => hq18 ((in_pt (by omega)).mpr (by have z2 := z.2; rw [hix8] at z2; exact z2)).2)⟩
      · refine lv_iconst (v := nI 1) hx hb dX4_isPart_46 (by decide) ?_
        refine lv_goto (tgt := 51) hx hb dX4_isPart_47 (by decide) ?_
        refine z_rz hx hb hr hlocks (Or.inr rfl) hI ?_ (Nat.le_of_ble_eq_true rfl) (Nat.le_of_ble_eq_true rfl) dX4_isPart_51
        exact ⟨_, rfl, rfl, pI_t ⟨hq5, by rw [hix8]; exact (in_pt (by omega)).mp ⟨hq14, hq18⟩⟩⟩

set_option maxHeartbeats 4000000 in
set_option maxRecDepth 100000 in
theorem c_X4_hasRoom (l : Launch) (G : zK) (B0 : Nat) (F : zM) (σ : Sg) (th zp0 : Int32) (y : Int64) (hM : MS G B0 F σ th) (hK : SgOk σ) : Met l yX4_hasRoom (Cond.code yX4_hasRoom cX4_hasRoom 4 (some FieldType.boolean) :: zW) (zRm 2 45 0 0) (va_Pc [.ref (B0 + 23), .int zp0, .long y] (zPre G B0 F)) (zQi G B0 (fun r F' => F = F' ∧ r = pI (okT zp0 ∧ lN (sn σ (ix zp0)) + y ≤ 60))) 0 0 (zA B0) := by
  refine z_of (own := RX4) (by decide) rfl (Nat.le_of_ble_eq_true rfl) ?_
  intro p e s m below meth c ls hx hb hr hml hown hlocks hnm hts hl hI
  have hl : lv_has ls 4 [(0, .ref (B0 + 23)), (1, .int zp0), (2, .long y)] := hl
  obtain ⟨m01, ⟨ma1, m11, me11⟩, ⟨mb1, m21, me21⟩, ⟨mc1, m31, me31⟩, ⟨n91, t91, m41⟩, mT1, mP1⟩ := id hM
  refine lv_iload_n hx hb dX4_hasRoom_0 rfl (lv_at hl 1 rfl) ?_
  refine z_calli hI (z_S (As := [.int zp0]) (rest := []) ⟨hx, hb, hml, hown, hts⟩ hI (c_X4_isText l G B0 F zp0) (z_cwS vX4_isText hts q772 ⟨Nat.le_of_ble_eq_true rfl, Nat.le_of_ble_eq_true rfl⟩) rfl hl.1 rfl (lv_room (Nat.le_of_ble_eq_true rfl)) dX4_hasRoom_1 ⟨Nat.le_of_ble_eq_true rfl, Nat.le_of_ble_eq_true rfl⟩) (fun r3 F2 H locs hp4 hI => ?_)
  obtain ⟨rfl, rfl⟩ := hp4
  refine z_ifp_eq (tgt := 30) hx hb dX4_hasRoom_4 (by decide) (fun hq5 => ?_) (fun hq5 => ?_)
  · refine lv_iconst (v := nI 0) hx hb dX4_hasRoom_30 (by decide) ?_
    refine z_rz hx hb hr hlocks (Or.inl rfl) hI ?_ (Nat.le_of_ble_eq_true rfl) (Nat.le_of_ble_eq_true rfl) dX4_hasRoom_31
    exact ⟨_, rfl, rfl, pI_f (fun z => hq5 z.1)⟩
  · obtain ⟨i6, hi7, rfl⟩ := id hq5
    have hix8 : ix (nI i6) = i6 := ix_nI (by omega)
    have hl : lv_has ls 4 [(0, .ref (B0 + 23)), (1, .int (nI i6)), (2, .long y)] := hl
    obtain ⟨m09, ⟨ma9, m19, me19⟩, ⟨mb9, m29, me29⟩, ⟨mc9, m39, me39⟩, ⟨n99, t99, m49⟩, mT9, mP9⟩ := id hM
    have hx10 := mT9 i6 hi7
    obtain ⟨xnhx10, xrhx10, fhx10, xwhx10, xfhx10⟩ := id hx10
    refine lv_aload_n hx hb dX4_hasRoom_7 rfl (lv_at hl 0 rfl) ?_
    refine z_get hx hb hts hown zlX4 rfl 1 (by decide) (hts _ q753) rfl hI m09 rfl dX4_hasRoom_8 ?_
    refine lv_iload_n hx hb dX4_hasRoom_11 rfl (lv_at hl 1 rfl) ?_
    refine z_ald3 (k := i6) (v := B0 + 25 + 2 * i6) hx hb hI m19 (by omega) (by omega) (me19 i6 (by omega)) dX4_hasRoom_12 ?_
    refine z_getN hx hb hts hown zlX3 rfl 1 (by decide) (List.mem_of_getElem? (i := 2) rfl) rfl hI xrhx10 rfl dX4_hasRoom_13 ?_
    refine lv_i2l hx hb dX4_hasRoom_16 rfl ?_
    refine z_top (congrArg Value.long (nI_l (n := sn σ i6) (by omega))) ?_
    refine lv_lload_n hx hb dX4_hasRoom_17 rfl (lv_at hl 2 rfl) ?_
    refine lv_ladd hx hb dX4_hasRoom_18 ?_
    refine lv_ldc2 (v := 60) hx hb hown (hts _ q787) dX4_hasRoom_19 ?_
    refine W.lcmp hx hb dX4_hasRoom_22 ?_
    refine lv_if_gt (tgt := 30) hx hb dX4_hasRoom_23 (by decide) (fun hq11 => ?_) (fun hq11 => ?_)
    · refine lv_iconst (v := nI 0) hx hb dX4_hasRoom_30 (by decide) ?_
      refine z_rz hx hb hr hlocks (Or.inl rfl) hI ?_ (Nat.le_of_ble_eq_true rfl) (Nat.le_of_ble_eq_true rfl) dX4_hasRoom_31
      exact ⟨_, rfl, rfl, pI_f (fun z => l_le_n.mp (by have z2 := z.2; rw [hix8] at z2; exact z2) (lg_gt.mp hq11))⟩
    · refine lv_iconst (v := nI 1) hx hb dX4_hasRoom_26 (by decide) ?_
      refine lv_goto (tgt := 31) hx hb dX4_hasRoom_27 (by decide) ?_
      refine z_rz hx hb hr hlocks (Or.inr rfl) hI ?_ (Nat.le_of_ble_eq_true rfl) (Nat.le_of_ble_eq_true rfl) dX4_hasRoom_31
      exact ⟨_, rfl, rfl, pI_t ⟨hq5, by rw [hix8]; exact l_le_n.mpr (fun q => hq11 (lg_gt.mpr q))⟩⟩

theorem vo_1 {i : Nat} (hi : i < 2) (h : ¬ nI i = 0) : nI i = nI 1 := by
  match i, hi with
  | 0, _ => exact absurd rfl h
  | 1, _ => rfl
set_option maxHeartbeats 4000000 in
set_option maxRecDepth 100000 in
theorem c_X4_valueOf (l : Launch) (G : zK) (B0 : Nat) (F : zM) (σ : Sg) (th o x : Int32) (hM : MS G B0 F σ th) (ho9 : okB o) (hw : ∃ k, k < 100 ∧ x = nI k) : Met l yX4_valueOf (Cond.code yX4_valueOf cX4_valueOf 3 (some FieldType.int) :: zW) (zRm 0 0 0 0) (va_Pc [.ref (B0 + 23), .int x, .int o] (zPre G B0 F)) (zQi G B0 (fun r F' => F = F' ∧ r = kv (rk σ) o x)) 0 0 (zA B0) := by
  refine z_of (own := RX4) (by decide) rfl (Nat.le_of_ble_eq_true rfl) ?_
  intro p e s m below meth c ls hx hb hr hml hown hlocks hnm hts hl hI
  have hl : lv_has ls 3 [(0, .ref (B0 + 23)), (1, .int x), (2, .int o)] := hl
  obtain ⟨m01, ⟨ma1, m11, me11⟩, ⟨mb1, m21, me21⟩, ⟨mc1, m31, me31⟩, ⟨n91, t91, m41⟩, mT1, mP1⟩ := id hM
  obtain ⟨kw, hkw, rfl⟩ := hw
  have hl : lv_has ls 3 [(0, .ref (B0 + 23)), (1, .int (nI kw)), (2, .int o)] := hl
  refine lv_iload_n hx hb dX4_valueOf_0 rfl (lv_at hl 2 rfl) ?_
  refine lv_if_ne (tgt := 8) hx hb dX4_valueOf_1 (by decide) (fun hq2 => ?_) (fun hq2 => ?_)
  · refine lv_aload_n hx hb dX4_valueOf_8 rfl (lv_at hl 0 rfl) ?_
    refine z_get hx hb hts hown zlX4 rfl 4 (by decide) (hts _ q756) rfl hI m01 rfl dX4_valueOf_9 ?_
    refine lv_iload_n hx hb dX4_valueOf_12 rfl (lv_at hl 1 rfl) ?_
    refine z_ild (k := kw) (v := rk σ kw) hx hb hI m31 (by omega) (by omega) (me31 kw (by omega)) dX4_valueOf_13 ?_
    refine z_ri hx hb hr hlocks hI ?_ (Nat.le_of_ble_eq_true rfl) (Nat.le_of_ble_eq_true rfl) dX4_valueOf_14
    obtain ⟨io, hio, rfl⟩ := ho9
    exact ⟨_, rfl, rfl, by unfold kv; rw [if_pos (vo_1 hio hq2), ix_nI (by omega)]⟩
  · refine lv_iload_n hx hb dX4_valueOf_4 rfl (lv_at hl 1 rfl) ?_
    refine lv_goto (tgt := 14) hx hb dX4_valueOf_5 (by decide) ?_
    refine z_ri hx hb hr hlocks hI ?_ (Nat.le_of_ble_eq_true rfl) (Nat.le_of_ble_eq_true rfl) dX4_valueOf_14
    exact ⟨_, rfl, rfl, by unfold kv; rw [if_neg (by rw [hq2]; decide)]⟩

set_option maxHeartbeats 4000000 in
set_option maxRecDepth 100000 in
theorem c_X4_areInOrder (l : Launch) (G : zK) (B0 : Nat) (F : zM) (σ : Sg) (th : Int32) (r w cap n : Nat) (t : Nat → Int32) (o : Int32) (hM : MS G B0 F σ th) (ho9 : okB o) (h : RA G 3 F r w cap n t) (hcap : cap ≤ 100) (hw : wok t n) : Met l yX4_areInOrder (Cond.code yX4_areInOrder cX4_areInOrder 4 (some FieldType.boolean) :: zW) (zRm 1 22 0 0) (va_Pc [.ref (B0 + 23), .ref r, .int o] (zPre G B0 F)) (zQi G B0 (fun r F' => F = F' ∧ r = pI (isr (rk σ) o t n))) 0 0 (zA B0) := by
  refine z_of (own := RX4) (by decide) rfl (Nat.le_of_ble_eq_true rfl) ?_
  intro p e s m below meth c ls hx hb hr hml hown hlocks hnm hts hl hI
  have hl : lv_has ls 4 [(0, .ref (B0 + 23)), (1, .ref r), (2, .int o)] := hl
  obtain ⟨m01, ⟨ma1, m11, me11⟩, ⟨mb1, m21, me21⟩, ⟨mc1, m31, me31⟩, ⟨n91, t91, m41⟩, mT1, mP1⟩ := id hM
  obtain ⟨xn, xr, f, xw, xf⟩ := id h
  refine lv_iconst (v := nI 1) hx hb dX4_areInOrder_0 (by decide) ?_
  refine lv_istore_n (lv' := [(3, .int (nI 1)), (0, .ref (B0 + 23)), (1, .ref r), (2, .int o)]) hx hb dX4_areInOrder_1 rfl hl (by decide) rfl (fun ls hl => ?_)
  refine z_loop (σ := Nat) (fun k : Nat => [(0, .ref (B0 + 23)), (1, .ref r), (2, .int o), (3, .int (nI k))]) (fun (k : Nat) (Fx : zM) => F = Fx ∧ 1 ≤ k ∧ k ≤ n + 1 ∧ ∀ j, 1 ≤ j → j < k → ¬ kv (rk σ) o (t j) < kv (rk σ) o (t (j - 1))) (fun k : Nat => n - k) 1 (nL := 4) (st := []) ?_ (lv_sub hl [1, 2, 3, 0] rfl) hI ?_
  · exact ⟨rfl, Nat.le_refl _, by omega, fun j h1 h2 => absurd h1 (by omega)⟩
  · intro k F2 ls H locs hi hl hI ih
    have hl : lv_has ls 4 [(0, .ref (B0 + 23)), (1, .ref r), (2, .int o), (3, .int (nI k))] := hl
    obtain ⟨hF, hk1, hk2, hk3⟩ := hi
    subst hF
    refine lv_iload_n hx hb dX4_areInOrder_2 rfl (lv_at hl 3 rfl) ?_
    refine lv_aload_n hx hb dX4_areInOrder_3 rfl (lv_at hl 1 rfl) ?_
    refine z_getN hx hb hts hown zlX3 rfl 1 (by decide) (List.mem_of_getElem? (i := 2) rfl) rfl hI xr rfl dX4_areInOrder_4 ?_
    refine z_icmp_ge (tgt := 43) (a := k) (b := n) hx hb dX4_areInOrder_7 (by decide) (by omega) (fun hq3 => ?_) (fun hq3 => ?_)
    · refine lv_iconst (v := nI 1) hx hb dX4_areInOrder_43 (by decide) ?_
      refine z_rz hx hb hr hlocks (Or.inr rfl) hI ?_ (Nat.le_of_ble_eq_true rfl) (Nat.le_of_ble_eq_true rfl) dX4_areInOrder_44
      exact ⟨_, rfl, rfl, pI_t (fun j h1 h2 => hk3 j h1 (by omega))⟩
    · refine lv_aload_n hx hb dX4_areInOrder_10 rfl (lv_at hl 0 rfl) ?_
      refine lv_aload_n hx hb dX4_areInOrder_11 rfl (lv_at hl 1 rfl) ?_
      refine lv_iload_n hx hb dX4_areInOrder_12 rfl (lv_at hl 3 rfl) ?_
      refine z_calli hI (z_V (As := [.int (nI k)]) (rest := [.ref (B0 + 23)]) ⟨hx, hb, hml, hown, hts⟩ hI xr rfl (c_X3_at l G B0 F r w cap n t k ⟨xn, xr, f, xw, xf⟩ (by omega) (by omega)) (z_cwV vX3_at hts q829 ⟨Nat.le_of_ble_eq_true rfl, Nat.le_of_ble_eq_true rfl⟩) rfl hl.1 rfl (lv_room (Nat.le_of_ble_eq_true rfl)) dX4_areInOrder_13 ⟨Nat.le_of_ble_eq_true rfl, Nat.le_of_ble_eq_true rfl⟩) (fun r5 F4 H locs hp6 hI => ?_)
      obtain ⟨rfl, rfl⟩ := hp6
      refine lv_iload_n hx hb dX4_areInOrder_16 rfl (lv_at hl 2 rfl) ?_
      refine z_calli hI (z_V (As := [.int (t k), .int o]) (rest := []) ⟨hx, hb, hml, hown, hts⟩ hI m01 rfl (c_X4_valueOf l G B0 F σ th o (t k) hM ho9 (hw k (by omega))) (z_cwV vX4_valueOf hts q966 ⟨Nat.le_of_ble_eq_true rfl, Nat.le_of_ble_eq_true rfl⟩) rfl hl.1 rfl (lv_room (Nat.le_of_ble_eq_true rfl)) dX4_areInOrder_17 ⟨Nat.le_of_ble_eq_true rfl, Nat.le_of_ble_eq_true rfl⟩) (fun r8 F7 H locs hp9 hI => ?_)
      obtain ⟨rfl, rfl⟩ := hp9
      refine lv_aload_n hx hb dX4_areInOrder_20 rfl (lv_at hl 0 rfl) ?_
      refine lv_aload_n hx hb dX4_areInOrder_21 rfl (lv_at hl 1 rfl) ?_
      refine lv_iload_n hx hb dX4_areInOrder_22 rfl (lv_at hl 3 rfl) ?_
      refine lv_iconst (v := nI 1) hx hb dX4_areInOrder_23 (by decide) ?_
      refine lv_isub hx hb dX4_areInOrder_24 ?_
      refine z_topi (pk_sub (a := k) (b := 1) (by omega)) ?_
      refine z_calli hI (z_V (As := [.int (nI (k - 1))]) (rest := [.ref (B0 + 23), .int (kv (rk σ) o (t k))]) ⟨hx, hb, hml, hown, hts⟩ hI xr rfl (c_X3_at l G B0 F r w cap n t (k - 1) ⟨xn, xr, f, xw, xf⟩ (by omega) (by omega)) (z_cwV vX3_at hts q829 ⟨Nat.le_of_ble_eq_true rfl, Nat.le_of_ble_eq_true rfl⟩) rfl hl.1 rfl (lv_room (Nat.le_of_ble_eq_true rfl)) dX4_areInOrder_25 ⟨Nat.le_of_ble_eq_true rfl, Nat.le_of_ble_eq_true rfl⟩) (fun r11 F10 H locs hp12 hI => ?_)
      obtain ⟨rfl, rfl⟩ := hp12
      refine lv_iload_n hx hb dX4_areInOrder_28 rfl (lv_at hl 2 rfl) ?_
      refine z_calli hI (z_V (As := [.int (t (k - 1)), .int o]) (rest := [.int (kv (rk σ) o (t k))]) ⟨hx, hb, hml, hown, hts⟩ hI m01 rfl (c_X4_valueOf l G B0 F σ th o (t (k - 1)) hM ho9 (hw (k - 1) (by omega))) (z_cwV vX4_valueOf hts q966 ⟨Nat.le_of_ble_eq_true rfl, Nat.le_of_ble_eq_true rfl⟩) rfl hl.1 rfl (lv_room (Nat.le_of_ble_eq_true rfl)) dX4_areInOrder_29 ⟨Nat.le_of_ble_eq_true rfl, Nat.le_of_ble_eq_true rfl⟩) (fun r14 F13 H locs hp15 hI => ?_)
      obtain ⟨rfl, rfl⟩ := hp15
      refine lv_icmp_ge (tgt := 37) hx hb dX4_areInOrder_32 (by decide) (fun hq16 => ?_) (fun hq16 => ?_)
      · refine lv_iinc (k := 3) (v := nI (k + 1)) (lv' := [(3, .int (nI (k + 1))), (0, .ref (B0 + 23)), (1, .ref r), (2, .int o)]) hx hb dX4_areInOrder_37 hl rfl (nI_add k 1) (by decide) rfl (fun ls hl => ?_)
        refine lv_goto (tgt := 2) hx hb dX4_areInOrder_40 (by decide) ?_
        refine ih (k + 1) _ ls H locs (by first | omega | (dsimp only; omega)) ?_ (lv_sub hl [1, 2, 3, 0] rfl) hI
        refine ⟨rfl, by omega, by omega, fun j h1 h2 => ?_⟩
        by_cases q : j = k
        · subst q; rw [← i_le_n]; exact hq16
        · exact hk3 j h1 (by omega)
      · refine lv_iconst (v := nI 0) hx hb dX4_areInOrder_35 (by decide) ?_
        refine z_rz hx hb hr hlocks (Or.inl rfl) hI ?_ (Nat.le_of_ble_eq_true rfl) (Nat.le_of_ble_eq_true rfl) dX4_areInOrder_36
        exact ⟨_, rfl, rfl, pI_f (fun z => z k (by omega) (by omega) (i_n_le.mp hq16))⟩

set_option maxHeartbeats 4000000 in
set_option maxRecDepth 100000 in
theorem c_X4_outermost (l : Launch) (G : zK) (B0 : Nat) (F : zM) (σ : Sg) (th : Int32) (i : Nat) (o gd : Int32) (hM : MS G B0 F σ th) (hK : SgOk σ) (hi : i < 4) (h0 : 0 < sn σ i) (ho9 : okB o) : Met l yX4_outermost (Cond.code yX4_outermost cX4_outermost 7 (some FieldType.int) :: zW) (zRm 1 22 0 0) (va_Pc [.ref (B0 + 23), .int (nI i), .int o, .int gd] (zPre G B0 F)) (zQi G B0 (fun r F' => F = F' ∧ r = (fmx (fun x y => if gd = 0 then zmin x y else zmax x y) (kv (rk σ) o) (st σ i) (sn σ i - 1)))) 0 0 (zA B0) := by
  refine z_of (own := RX4) (by decide) rfl (Nat.le_of_ble_eq_true rfl) ?_
  intro p e s m below meth c ls hx hb hr hml hown hlocks hnm hts hl hI
  have hl : lv_has ls 7 [(0, .ref (B0 + 23)), (1, .int (nI i)), (2, .int o), (3, .int gd)] := hl
  obtain ⟨m01, ⟨ma1, m11, me11⟩, ⟨mb1, m21, me21⟩, ⟨mc1, m31, me31⟩, ⟨n91, t91, m41⟩, mT1, mP1⟩ := id hM
  have hx2 := mT1 i hi
  obtain ⟨xnhx2, xrhx2, fhx2, xwhx2, xfhx2⟩ := id hx2
  refine lv_aload_n hx hb dX4_outermost_0 rfl (lv_at hl 0 rfl) ?_
  refine lv_aload_n hx hb dX4_outermost_1 rfl (lv_at hl 0 rfl) ?_
  refine z_get hx hb hts hown zlX4 rfl 1 (by decide) (hts _ q753) rfl hI m01 rfl dX4_outermost_2 ?_
  refine lv_iload_n hx hb dX4_outermost_5 rfl (lv_at hl 1 rfl) ?_
  refine z_ald3 (k := i) (v := B0 + 25 + 2 * i) hx hb hI m11 (by omega) (by omega) (me11 i (by omega)) dX4_outermost_6 ?_
  refine lv_iconst (v := nI 0) hx hb dX4_outermost_7 (by decide) ?_
  refine z_calli hI (z_V (As := [.int (nI 0)]) (rest := [.ref (B0 + 23)]) ⟨hx, hb, hml, hown, hts⟩ hI xrhx2 rfl (c_X3_at l G B0 F (B0 + 25 + 2 * i) (B0 + 26 + 2 * i) 60 (sn σ i) (st σ i) 0 ⟨xnhx2, xrhx2, fhx2, xwhx2, xfhx2⟩ (by omega) (by omega)) (z_cwV vX3_at hts q829 ⟨Nat.le_of_ble_eq_true rfl, Nat.le_of_ble_eq_true rfl⟩) rfl hl.1 rfl (lv_room (Nat.le_of_ble_eq_true rfl)) dX4_outermost_8 ⟨Nat.le_of_ble_eq_true rfl, Nat.le_of_ble_eq_true rfl⟩) (fun r4 F3 H locs hp5 hI => ?_)
  obtain ⟨rfl, rfl⟩ := hp5
  refine lv_iload_n hx hb dX4_outermost_11 rfl (lv_at hl 2 rfl) ?_
  refine z_calli hI (z_V (As := [.int ((st σ i) 0), .int o]) (rest := []) ⟨hx, hb, hml, hown, hts⟩ hI m01 rfl (c_X4_valueOf l G B0 F σ th o ((st σ i) 0) hM ho9 ((hK.w hi) 0 (by omega))) (z_cwV vX4_valueOf hts q966 ⟨Nat.le_of_ble_eq_true rfl, Nat.le_of_ble_eq_true rfl⟩) rfl hl.1 rfl (lv_room (Nat.le_of_ble_eq_true rfl)) dX4_outermost_12 ⟨Nat.le_of_ble_eq_true rfl, Nat.le_of_ble_eq_true rfl⟩) (fun r7 F6 H locs hp8 hI => ?_)
  obtain ⟨rfl, rfl⟩ := hp8
  refine lv_istore (lv' := [(4, .int (kv (rk σ) o ((st σ i) 0))), (0, .ref (B0 + 23)), (1, .int (nI i)), (2, .int o), (3, .int gd)]) hx hb dX4_outermost_15 hl (by decide) rfl (fun ls hl => ?_)
  refine lv_iconst (v := nI 1) hx hb dX4_outermost_17 (by decide) ?_
  refine lv_istore (lv' := [(5, .int (nI 1)), (4, .int (kv (rk σ) o ((st σ i) 0))), (0, .ref (B0 + 23)), (1, .int (nI i)), (2, .int o), (3, .int gd)]) hx hb dX4_outermost_18 hl (by decide) rfl (fun ls hl => ?_)
  refine z_loop (σ := Nat × Int32) (fun xx : Nat × Int32 => match xx with | (k, a) => [(0, .ref (B0 + 23)), (1, .int (nI i)), (2, .int o), (3, .int gd), (5, .int (nI k)), (4, .int a)]) (fun (xx : Nat × Int32) (Fx : zM) => match xx with | (k, a) => F = Fx ∧ 1 ≤ k ∧ k ≤ sn σ i ∧ a = (fmx (fun x y => if gd = 0 then zmin x y else zmax x y) (kv (rk σ) o) (st σ i) (k - 1))) (fun xx : Nat × Int32 => match xx with | (k, a) => sn σ i - k) (1, kv (rk σ) o ((st σ i) 0)) (nL := 7) (st := []) ?_ (lv_sub hl [2, 3, 4, 5, 0, 1] rfl) hI ?_
  · exact ⟨rfl, Nat.le_refl _, by omega, rfl⟩
  · intro xx F9 ls H locs hi hl hI ih
    obtain ⟨k, a⟩ := xx
    have hl : lv_has ls 7 [(0, .ref (B0 + 23)), (1, .int (nI i)), (2, .int o), (3, .int gd), (5, .int (nI k)), (4, .int a)] := hl
    obtain ⟨hF, hk1, hk2, ha⟩ := hi
    subst hF
    refine lv_iload hx hb dX4_outermost_20 (lv_at hl 4 rfl) ?_
    refine lv_aload_n hx hb dX4_outermost_22 rfl (lv_at hl 0 rfl) ?_
    refine z_get hx hb hts hown zlX4 rfl 1 (by decide) (hts _ q753) rfl hI m01 rfl dX4_outermost_23 ?_
    refine lv_iload_n hx hb dX4_outermost_26 rfl (lv_at hl 1 rfl) ?_
    refine z_ald3 (k := i) (v := B0 + 25 + 2 * i) hx hb hI m11 (by omega) (by omega) (me11 i (by omega)) dX4_outermost_27 ?_
    refine z_getN hx hb hts hown zlX3 rfl 1 (by decide) (List.mem_of_getElem? (i := 2) rfl) rfl hI xrhx2 rfl dX4_outermost_28 ?_
    refine z_icmp_ge (tgt := 81) (a := k) (b := sn σ i) hx hb dX4_outermost_31 (by decide) (by omega) (fun hq10 => ?_) (fun hq10 => ?_)
    · refine lv_iload hx hb dX4_outermost_81 (lv_at hl 5 rfl) ?_
      refine z_ri hx hb hr hlocks hI ?_ (Nat.le_of_ble_eq_true rfl) (Nat.le_of_ble_eq_true rfl) dX4_outermost_83
      have hkn : k = sn σ i := by omega
      exact ⟨_, rfl, rfl, by rw [ha, hkn]⟩
    · refine lv_aload_n hx hb dX4_outermost_34 rfl (lv_at hl 0 rfl) ?_
      refine lv_aload_n hx hb dX4_outermost_35 rfl (lv_at hl 0 rfl) ?_
      refine z_get hx hb hts hown zlX4 rfl 1 (by decide) (hts _ q753) rfl hI m01 rfl dX4_outermost_36 ?_
      refine lv_iload_n hx hb dX4_outermost_39 rfl (lv_at hl 1 rfl) ?_
      refine z_ald3 (k := i) (v := B0 + 25 + 2 * i) hx hb hI m11 (by omega) (by omega) (me11 i (by omega)) dX4_outermost_40 ?_
      refine lv_iload hx hb dX4_outermost_41 (lv_at hl 4 rfl) ?_
      refine z_calli hI (z_V (As := [.int (nI k)]) (rest := [.ref (B0 + 23)]) ⟨hx, hb, hml, hown, hts⟩ hI xrhx2 rfl (c_X3_at l G B0 F (B0 + 25 + 2 * i) (B0 + 26 + 2 * i) 60 (sn σ i) (st σ i) k ⟨xnhx2, xrhx2, fhx2, xwhx2, xfhx2⟩ (by omega) (by omega)) (z_cwV vX3_at hts q829 ⟨Nat.le_of_ble_eq_true rfl, Nat.le_of_ble_eq_true rfl⟩) rfl hl.1 rfl (lv_room (Nat.le_of_ble_eq_true rfl)) dX4_outermost_43 ⟨Nat.le_of_ble_eq_true rfl, Nat.le_of_ble_eq_true rfl⟩) (fun r12 F11 H locs hp13 hI => ?_)
      obtain ⟨rfl, rfl⟩ := hp13
      refine lv_iload_n hx hb dX4_outermost_46 rfl (lv_at hl 2 rfl) ?_
      refine z_calli hI (z_V (As := [.int ((st σ i) k), .int o]) (rest := []) ⟨hx, hb, hml, hown, hts⟩ hI m01 rfl (c_X4_valueOf l G B0 F σ th o ((st σ i) k) hM ho9 ((hK.w hi) k (by omega))) (z_cwV vX4_valueOf hts q966 ⟨Nat.le_of_ble_eq_true rfl, Nat.le_of_ble_eq_true rfl⟩) rfl hl.1 rfl (lv_room (Nat.le_of_ble_eq_true rfl)) dX4_outermost_47 ⟨Nat.le_of_ble_eq_true rfl, Nat.le_of_ble_eq_true rfl⟩) (fun r15 F14 H locs hp16 hI => ?_)
      obtain ⟨rfl, rfl⟩ := hp16
      refine lv_istore (lv' := [(6, .int (kv (rk σ) o ((st σ i) k))), (0, .ref (B0 + 23)), (1, .int (nI i)), (2, .int o), (3, .int gd), (5, .int (nI k)), (4, .int a)]) hx hb dX4_outermost_50 hl (by decide) rfl (fun ls hl => ?_)
      refine lv_iload_n hx hb dX4_outermost_52 rfl (lv_at hl 4 rfl) ?_
      refine lv_if_eq (tgt := 66) hx hb dX4_outermost_53 (by decide) (fun hq17 => ?_) (fun hq17 => ?_)
      · refine lv_iload hx hb dX4_outermost_66 (lv_at hl 6 rfl) ?_
        refine lv_iload hx hb dX4_outermost_68 (lv_at hl 0 rfl) ?_
        refine z_calli hI (z_S (As := [.int a, .int (kv (rk σ) o ((st σ i) k))]) (rest := []) ⟨hx, hb, hml, hown, hts⟩ hI (c_J9_min_7cf53 l G B0 F a (kv (rk σ) o ((st σ i) k))) (z_cwS vJ9_min_7cf53 hts q971 ⟨Nat.le_of_ble_eq_true rfl, Nat.le_of_ble_eq_true rfl⟩) rfl hl.1 rfl (lv_room (Nat.le_of_ble_eq_true rfl)) dX4_outermost_70 ⟨Nat.le_of_ble_eq_true rfl, Nat.le_of_ble_eq_true rfl⟩) (fun r19 F18 H locs hp20 hI => ?_)
        obtain ⟨rfl, rfl⟩ := hp20
        refine lv_istore (lv' := [(4, .int (zmin a (kv (rk σ) o ((st σ i) k)))), (6, .int (kv (rk σ) o ((st σ i) k))), (0, .ref (B0 + 23)), (1, .int (nI i)), (2, .int o), (3, .int gd), (5, .int (nI k))]) hx hb dX4_outermost_73 hl (by decide) rfl (fun ls hl => ?_)
        refine lv_iinc (k := 6) (v := nI (k + 1)) (lv' := [(5, .int (nI (k + 1))), (4, .int (zmin a (kv (rk σ) o ((st σ i) k)))), (6, .int (kv (rk σ) o ((st σ i) k))), (0, .ref (B0 + 23)), (1, .int (nI i)), (2, .int o), (3, .int gd)]) hx hb dX4_outermost_75 hl rfl (nI_add k 1) (by decide) rfl (fun ls hl => ?_)
        refine lv_goto (tgt := 20) hx hb dX4_outermost_78 (by decide) ?_
        refine ih (k + 1, zmin a (kv (rk σ) o ((st σ i) k))) _ ls H locs (by first | omega | (dsimp only; omega)) ?_ (lv_sub hl [3, 4, 5, 6, 0, 1] rfl) hI
        refine ⟨rfl, by omega, by omega, ?_⟩
        rw [ha]
        obtain ⟨k9, rfl⟩ : ∃ k9, k = k9 + 1 := ⟨k - 1, by omega⟩
        exact (if_pos hq17).symm
      · refine lv_iload hx hb dX4_outermost_56 (lv_at hl 6 rfl) ?_
        refine lv_iload hx hb dX4_outermost_58 (lv_at hl 0 rfl) ?_
        refine z_calli hI (z_S (As := [.int a, .int (kv (rk σ) o ((st σ i) k))]) (rest := []) ⟨hx, hb, hml, hown, hts⟩ hI (c_J9_max_7cf53 l G B0 F a (kv (rk σ) o ((st σ i) k))) (z_cwS vJ9_max_7cf53 hts q970 ⟨Nat.le_of_ble_eq_true rfl, Nat.le_of_ble_eq_true rfl⟩) rfl hl.1 rfl (lv_room (Nat.le_of_ble_eq_true rfl)) dX4_outermost_60 ⟨Nat.le_of_ble_eq_true rfl, Nat.le_of_ble_eq_true rfl⟩) (fun r22 F21 H locs hp23 hI => ?_)
        obtain ⟨rfl, rfl⟩ := hp23
        refine lv_goto (tgt := 73) hx hb dX4_outermost_63 (by decide) ?_
        refine lv_istore (lv' := [(4, .int (zmax a (kv (rk σ) o ((st σ i) k)))), (6, .int (kv (rk σ) o ((st σ i) k))), (0, .ref (B0 + 23)), (1, .int (nI i)), (2, .int o), (3, .int gd), (5, .int (nI k))]) hx hb dX4_outermost_73 hl (by decide) rfl (fun ls hl => ?_)
        refine lv_iinc (k := 6) (v := nI (k + 1)) (lv' := [(5, .int (nI (k + 1))), (4, .int (zmax a (kv (rk σ) o ((st σ i) k)))), (6, .int (kv (rk σ) o ((st σ i) k))), (0, .ref (B0 + 23)), (1, .int (nI i)), (2, .int o), (3, .int gd)]) hx hb dX4_outermost_75 hl rfl (nI_add k 1) (by decide) rfl (fun ls hl => ?_)
        refine lv_goto (tgt := 20) hx hb dX4_outermost_78 (by decide) ?_
        refine ih (k + 1, zmax a (kv (rk σ) o ((st σ i) k))) _ ls H locs (by first | omega | (dsimp only; omega)) ?_ (lv_sub hl [3, 4, 5, 6, 0, 1] rfl) hI
        refine ⟨rfl, by omega, by omega, ?_⟩
        rw [ha]
        obtain ⟨k9, rfl⟩ : ∃ k9, k = k9 + 1 := ⟨k - 1, by omega⟩
        exact (if_neg hq17).symm

