set_option maxHeartbeats 4000000 in
set_option maxRecDepth 100000 in
theorem c_X4_size (l : Launch) (G : zK) (B0 : Nat) (F : zM) (σ : Sg) (th zp0 : Int32) (hM : MS G B0 F σ th) (hK : SgOk σ) : Met l yX4_size (Cond.code yX4_size cX4_size 2 (some FieldType.int) :: zW) (zRm 2 45 0 0) (va_Pc [.ref (B0 + 23), .int zp0] (zPre G B0 F)) (zQi G B0 (zRP G B0 F σ (oA_size σ zp0) (oB_size σ zp0) (oC_size σ zp0) (ss_size σ zp0) (rr_size σ zp0))) 0 0 (zA B0) := by
  refine z_of (own := RX4) (by decide) rfl (Nat.le_of_ble_eq_true rfl) ?_
  intro p e s m below meth c ls hx hb hr hml hown hlocks hnm hts hl hI
  have hl : lv_has ls 2 [(0, .ref (B0 + 23)), (1, .int zp0)] := hl
  obtain ⟨m01, ⟨ma1, m11, me11⟩, ⟨mb1, m21, me21⟩, ⟨mc1, m31, me31⟩, ⟨n91, t91, m41⟩, mT1, mP1⟩ := id hM
  refine lv_aload_n hx hb dX4_size_0 rfl (lv_at hl 0 rfl) ?_
  refine lv_iload_n hx hb dX4_size_1 rfl (lv_at hl 1 rfl) ?_
  refine z_calli hI (z_S (As := [.int zp0]) (rest := [.ref (B0 + 23)]) ⟨hx, hb, hml, hown, hts⟩ hI (c_X4_isText l G B0 F zp0) (z_cwS vX4_isText hts q772 ⟨Nat.le_of_ble_eq_true rfl, Nat.le_of_ble_eq_true rfl⟩) rfl hl.1 rfl (lv_room (Nat.le_of_ble_eq_true rfl)) dX4_size_2 ⟨Nat.le_of_ble_eq_true rfl, Nat.le_of_ble_eq_true rfl⟩) (fun r3 F2 H locs hp4 hI => ?_)
  obtain ⟨rfl, rfl⟩ := hp4
  refine lv_iconst (v := nI 1) hx hb dX4_size_5 (by decide) ?_
  refine z_topi (pI_1 (P := True) trivial) ?_
  refine lv_iconst (v := nI 1) hx hb dX4_size_6 (by decide) ?_
  refine z_topi (pI_1 (P := True) trivial) ?_
  refine z_calli hI (z_V (As := [.int (pI (okT zp0)), .int (pI (True)), .int (pI (True))]) (rest := []) ⟨hx, hb, hml, hown, hts⟩ hI m01 rfl (c_X4_passes l G B0 F σ th (okT zp0) (True) (True) hM) (z_cwV vX4_passes hts q788 ⟨Nat.le_of_ble_eq_true rfl, Nat.le_of_ble_eq_true rfl⟩) rfl hl.1 rfl (lv_room (Nat.le_of_ble_eq_true rfl)) dX4_size_7 ⟨Nat.le_of_ble_eq_true rfl, Nat.le_of_ble_eq_true rfl⟩) (fun r6 F5 H locs hp7 hI => ?_)
  obtain ⟨⟨th1, hM1, hz1⟩, rfl, ho1⟩ := hp7
  have hp1 : (okT zp0) ↔ oA_size σ zp0 := Iff.rfl
  have hp2 : oA_size σ zp0 → ((True) ↔ oB_size σ zp0) := fun _ => Iff.rfl
  have hp3 : oA_size σ zp0 → oB_size σ zp0 → ((True) ↔ oC_size σ zp0) := fun _ _ => Iff.rfl
  have hz2 := zTh_cg hp1 hp2 hp3 hz1
  refine z_topi (pI_cg (zC_cg hp1 hp2 hp3)) ?_
  have hmf1 : zMf B0 F F5 := fun q hq => ho1 q (by omega)
  obtain ⟨m08, ⟨ma8, m18, me18⟩, ⟨mb8, m28, me28⟩, ⟨mc8, m38, me38⟩, ⟨n98, t98, m48⟩, mT8, mP8⟩ := id hM1
  refine z_ifp_eq (tgt := 25) hx hb dX4_size_10 (by decide) (fun hq9 => ?_) (fun hq9 => ?_)
  · refine lv_iconst (v := nI 0) hx hb dX4_size_25 (by decide) ?_
    refine z_ri hx hb hr hlocks hI ?_ (Nat.le_of_ble_eq_true rfl) (Nat.le_of_ble_eq_true rfl) dX4_size_26
    exact ⟨_, rfl, th1, σ, hM1, hz2, fun q => absurd q hq9, fun _ => rfl, hmf1⟩
  · obtain ⟨hA, hB, hC0⟩ := id hq9
    have hc0 := hA
    obtain ⟨i10, hi11, rfl⟩ := id hc0
    have hix12 : ix (nI i10) = i10 := ix_nI (by omega)
    have hl : lv_has ls 2 [(0, .ref (B0 + 23)), (1, .int (nI i10))] := hl
    have hsbi10 := (hK.1 i10 hi11).1
    have hx13 := mT8 i10 hi11
    obtain ⟨xnhx13, xrhx13, fhx13, xwhx13, xfhx13⟩ := id hx13
    refine lv_aload_n hx hb dX4_size_13 rfl (lv_at hl 0 rfl) ?_
    refine z_get hx hb hts hown zlX4 rfl 1 (by decide) (hts _ q753) rfl hI m08 rfl dX4_size_14 ?_
    refine lv_iload_n hx hb dX4_size_17 rfl (lv_at hl 1 rfl) ?_
    refine z_ald3 (k := i10) (v := B0 + 25 + 2 * i10) hx hb hI m18 (by omega) (by omega) (me18 i10 (by omega)) dX4_size_18 ?_
    refine z_getN hx hb hts hown zlX3 rfl 1 (by decide) (List.mem_of_getElem? (i := 2) rfl) rfl hI xrhx13 rfl dX4_size_19 ?_
    refine lv_goto (tgt := 26) hx hb dX4_size_22 (by decide) ?_
    refine z_ri hx hb hr hlocks hI ?_ (Nat.le_of_ble_eq_true rfl) (Nat.le_of_ble_eq_true rfl) dX4_size_26
    refine ⟨_, rfl, th1, _, hM1, hz2, fun _ => ⟨(by simp only [oA_size, oB_size, oC_size, rr_size, ss_size, hix12] <;> exact rfl), (by simp only [oA_size, oB_size, oC_size, rr_size, ss_size, hix12] <;> exact rfl)⟩, fun q => absurd ⟨hA, hB, hC0⟩ q, hmf1⟩

set_option maxHeartbeats 4000000 in
set_option maxRecDepth 100000 in
theorem c_X4_at (l : Launch) (G : zK) (B0 : Nat) (F : zM) (σ : Sg) (th zp0 zp1 : Int32) (hM : MS G B0 F σ th) (hK : SgOk σ) : Met l yX4_at (Cond.code yX4_at cX4_at 3 (some FieldType.int) :: zW) (zRm 3 67 0 0) (va_Pc [.ref (B0 + 23), .int zp0, .int zp1] (zPre G B0 F)) (zQi G B0 (zRP G B0 F σ (oA_at σ zp0 zp1) (oB_at σ zp0 zp1) (oC_at σ zp0 zp1) (ss_at σ zp0 zp1) (rr_at σ zp0 zp1))) 0 0 (zA B0) := by
  refine z_of (own := RX4) (by decide) rfl (Nat.le_of_ble_eq_true rfl) ?_
  intro p e s m below meth c ls hx hb hr hml hown hlocks hnm hts hl hI
  have hl : lv_has ls 3 [(0, .ref (B0 + 23)), (1, .int zp0), (2, .int zp1)] := hl
  obtain ⟨m01, ⟨ma1, m11, me11⟩, ⟨mb1, m21, me21⟩, ⟨mc1, m31, me31⟩, ⟨n91, t91, m41⟩, mT1, mP1⟩ := id hM
  refine lv_aload_n hx hb dX4_at_0 rfl (lv_at hl 0 rfl) ?_
  refine lv_aload_n hx hb dX4_at_1 rfl (lv_at hl 0 rfl) ?_
  refine lv_iload_n hx hb dX4_at_2 rfl (lv_at hl 1 rfl) ?_
  refine lv_iload_n hx hb dX4_at_3 rfl (lv_at hl 2 rfl) ?_
  refine z_calli hI (z_V (As := [.int zp0, .int zp1]) (rest := [.ref (B0 + 23)]) ⟨hx, hb, hml, hown, hts⟩ hI m01 rfl (c_X4_isPlace l G B0 F σ th zp0 zp1 hM hK) (z_cwV vX4_isPlace hts q825 ⟨Nat.le_of_ble_eq_true rfl, Nat.le_of_ble_eq_true rfl⟩) rfl hl.1 rfl (lv_room (Nat.le_of_ble_eq_true rfl)) dX4_at_4 ⟨Nat.le_of_ble_eq_true rfl, Nat.le_of_ble_eq_true rfl⟩) (fun r3 F2 H locs hp4 hI => ?_)
  obtain ⟨rfl, rfl⟩ := hp4
  refine lv_iconst (v := nI 1) hx hb dX4_at_7 (by decide) ?_
  refine z_topi (pI_1 (P := True) trivial) ?_
  refine lv_iconst (v := nI 1) hx hb dX4_at_8 (by decide) ?_
  refine z_topi (pI_1 (P := True) trivial) ?_
  refine z_calli hI (z_V (As := [.int (pI (okT zp0 ∧ okL (sn σ (ix zp0)) zp1)), .int (pI (True)), .int (pI (True))]) (rest := []) ⟨hx, hb, hml, hown, hts⟩ hI m01 rfl (c_X4_passes l G B0 F σ th (okT zp0 ∧ okL (sn σ (ix zp0)) zp1) (True) (True) hM) (z_cwV vX4_passes hts q788 ⟨Nat.le_of_ble_eq_true rfl, Nat.le_of_ble_eq_true rfl⟩) rfl hl.1 rfl (lv_room (Nat.le_of_ble_eq_true rfl)) dX4_at_9 ⟨Nat.le_of_ble_eq_true rfl, Nat.le_of_ble_eq_true rfl⟩) (fun r6 F5 H locs hp7 hI => ?_)
  obtain ⟨⟨th1, hM1, hz1⟩, rfl, ho1⟩ := hp7
  have hp1 : (okT zp0 ∧ okL (sn σ (ix zp0)) zp1) ↔ oA_at σ zp0 zp1 := Iff.rfl
  have hp2 : oA_at σ zp0 zp1 → ((True) ↔ oB_at σ zp0 zp1) := fun _ => Iff.rfl
  have hp3 : oA_at σ zp0 zp1 → oB_at σ zp0 zp1 → ((True) ↔ oC_at σ zp0 zp1) := fun _ _ => Iff.rfl
  have hz2 := zTh_cg hp1 hp2 hp3 hz1
  refine z_topi (pI_cg (zC_cg hp1 hp2 hp3)) ?_
  have hmf1 : zMf B0 F F5 := fun q hq => ho1 q (by omega)
  obtain ⟨m08, ⟨ma8, m18, me18⟩, ⟨mb8, m28, me28⟩, ⟨mc8, m38, me38⟩, ⟨n98, t98, m48⟩, mT8, mP8⟩ := id hM1
  refine z_ifp_eq (tgt := 28) hx hb dX4_at_12 (by decide) (fun hq9 => ?_) (fun hq9 => ?_)
  · refine lv_iconst (v := nI 0) hx hb dX4_at_28 (by decide) ?_
    refine z_ri hx hb hr hlocks hI ?_ (Nat.le_of_ble_eq_true rfl) (Nat.le_of_ble_eq_true rfl) dX4_at_29
    exact ⟨_, rfl, th1, σ, hM1, hz2, fun q => absurd q hq9, fun _ => rfl, hmf1⟩
  · obtain ⟨hA, hB, hC0⟩ := id hq9
    obtain ⟨hc0, hc1⟩ := id hA
    obtain ⟨i10, hi11, rfl⟩ := id hc0
    have hix12 : ix (nI i10) = i10 := ix_nI (by omega)
    have hl : lv_has ls 3 [(0, .ref (B0 + 23)), (1, .int (nI i10)), (2, .int zp1)] := hl
    have hsbi10 := (hK.1 i10 hi11).1
    obtain ⟨j13, hj14, rfl⟩ := id hc1
    simp only [hix12] at hj14
    have hix15 : ix (nI j13) = j13 := ix_nI (by omega)
    have hl : lv_has ls 3 [(0, .ref (B0 + 23)), (1, .int (nI i10)), (2, .int (nI j13))] := hl
    have hx16 := mT8 i10 hi11
    obtain ⟨xnhx16, xrhx16, fhx16, xwhx16, xfhx16⟩ := id hx16
    refine lv_aload_n hx hb dX4_at_15 rfl (lv_at hl 0 rfl) ?_
    refine z_get hx hb hts hown zlX4 rfl 1 (by decide) (hts _ q753) rfl hI m08 rfl dX4_at_16 ?_
    refine lv_iload_n hx hb dX4_at_19 rfl (lv_at hl 1 rfl) ?_
    refine z_ald3 (k := i10) (v := B0 + 25 + 2 * i10) hx hb hI m18 (by omega) (by omega) (me18 i10 (by omega)) dX4_at_20 ?_
    refine lv_iload_n hx hb dX4_at_21 rfl (lv_at hl 2 rfl) ?_
    refine z_calli hI (z_V (As := [.int (nI j13)]) (rest := []) ⟨hx, hb, hml, hown, hts⟩ hI xrhx16 rfl (c_X3_at l G B0 F5 (B0 + 25 + 2 * i10) (B0 + 26 + 2 * i10) 60 (sn σ i10) (st σ i10) j13 ⟨xnhx16, xrhx16, fhx16, xwhx16, xfhx16⟩ (by omega) (by omega)) (z_cwV vX3_at hts q829 ⟨Nat.le_of_ble_eq_true rfl, Nat.le_of_ble_eq_true rfl⟩) rfl hl.1 rfl (lv_room (Nat.le_of_ble_eq_true rfl)) dX4_at_22 ⟨Nat.le_of_ble_eq_true rfl, Nat.le_of_ble_eq_true rfl⟩) (fun r18 F17 H locs hp19 hI => ?_)
    obtain ⟨rfl, rfl⟩ := hp19
    refine lv_goto (tgt := 29) hx hb dX4_at_25 (by decide) ?_
    refine z_ri hx hb hr hlocks hI ?_ (Nat.le_of_ble_eq_true rfl) (Nat.le_of_ble_eq_true rfl) dX4_at_29
    refine ⟨_, rfl, th1, _, hM1, hz2, fun _ => ⟨(by simp only [oA_at, oB_at, oC_at, rr_at, ss_at, hix12, hix15] <;> exact rfl), (by simp only [oA_at, oB_at, oC_at, rr_at, ss_at, hix12, hix15] <;> exact rfl)⟩, fun q => absurd ⟨hA, hB, hC0⟩ q, hmf1⟩

set_option maxHeartbeats 4000000 in
set_option maxRecDepth 100000 in
theorem c_X4_add (l : Launch) (G : zK) (B0 : Nat) (F : zM) (σ : Sg) (th zp0 zp1 : Int32) (hM : MS G B0 F σ th) (hK : SgOk σ) : Met l yX4_add (Cond.code yX4_add cX4_add 3 (some FieldType.int) :: zW) (zRm 3 68 0 0) (va_Pc [.ref (B0 + 23), .int zp0, .int zp1] (zPre G B0 F)) (zQi G B0 (zRP G B0 F σ (oA_add σ zp0 zp1) (oB_add σ zp0 zp1) (oC_add σ zp0 zp1) (ss_add σ zp0 zp1) (rr_add σ zp0 zp1))) 0 0 (zA B0) := by
  refine z_of (own := RX4) (by decide) rfl (Nat.le_of_ble_eq_true rfl) ?_
  intro p e s m below meth c ls hx hb hr hml hown hlocks hnm hts hl hI
  have hl : lv_has ls 3 [(0, .ref (B0 + 23)), (1, .int zp0), (2, .int zp1)] := hl
  obtain ⟨m01, ⟨ma1, m11, me11⟩, ⟨mb1, m21, me21⟩, ⟨mc1, m31, me31⟩, ⟨n91, t91, m41⟩, mT1, mP1⟩ := id hM
  refine lv_aload_n hx hb dX4_add_0 rfl (lv_at hl 0 rfl) ?_
  refine z_join (σ := Int32) (fun x : Int32 => [(0, .ref (B0 + 23)), (1, .int zp0), (2, .int zp1)]) (fun x : Int32 => [.int x, .ref (B0 + 23)]) (fun (x : Int32) (Fx : zM) => F = Fx ∧ x = pI (okT zp0 ∧ okW zp1)) 20 3 G B0 ?_ (fun jn20 => ?_)
  · intro x F2 ls H locs hi hl hI
    have hl : lv_has ls 3 [(0, .ref (B0 + 23)), (1, .int zp0), (2, .int zp1)] := hl
    obtain ⟨hF, hx9⟩ := hi
    subst hF
    subst hx9
    refine lv_aload_n hx hb dX4_add_20 rfl (lv_at hl 0 rfl) ?_
    refine lv_iload_n hx hb dX4_add_21 rfl (lv_at hl 1 rfl) ?_
    refine lv_lconst (v := 1) hx hb dX4_add_22 (by decide) ?_
    refine z_calli hI (z_V (As := [.int zp0, .long 1]) (rest := [.int (pI (okT zp0 ∧ okW zp1)), .ref (B0 + 23)]) ⟨hx, hb, hml, hown, hts⟩ hI m01 rfl (c_X4_hasRoom l G B0 F σ th zp0 1 hM hK) (z_cwV vX4_hasRoom hts q783 ⟨Nat.le_of_ble_eq_true rfl, Nat.le_of_ble_eq_true rfl⟩) rfl hl.1 rfl (lv_room (Nat.le_of_ble_eq_true rfl)) dX4_add_23 ⟨Nat.le_of_ble_eq_true rfl, Nat.le_of_ble_eq_true rfl⟩) (fun r4 F3 H locs hp5 hI => ?_)
    obtain ⟨rfl, rfl⟩ := hp5
    refine lv_iconst (v := nI 1) hx hb dX4_add_26 (by decide) ?_
    refine z_topi (pI_1 (P := True) trivial) ?_
    refine z_calli hI (z_V (As := [.int (pI (okT zp0 ∧ okW zp1)), .int (pI (okT zp0 ∧ lN (sn σ (ix zp0)) + 1 ≤ 60)), .int (pI (True))]) (rest := []) ⟨hx, hb, hml, hown, hts⟩ hI m01 rfl (c_X4_passes l G B0 F σ th (okT zp0 ∧ okW zp1) (okT zp0 ∧ lN (sn σ (ix zp0)) + 1 ≤ 60) (True) hM) (z_cwV vX4_passes hts q788 ⟨Nat.le_of_ble_eq_true rfl, Nat.le_of_ble_eq_true rfl⟩) rfl hl.1 rfl (lv_room (Nat.le_of_ble_eq_true rfl)) dX4_add_27 ⟨Nat.le_of_ble_eq_true rfl, Nat.le_of_ble_eq_true rfl⟩) (fun r7 F6 H locs hp8 hI => ?_)
    obtain ⟨⟨th1, hM1, hz1⟩, rfl, ho1⟩ := hp8
    have hp1 : (okT zp0 ∧ okW zp1) ↔ oA_add σ zp0 zp1 := Iff.rfl
    have hp2 : oA_add σ zp0 zp1 → ((okT zp0 ∧ lN (sn σ (ix zp0)) + 1 ≤ 60) ↔ oB_add σ zp0 zp1) := fun h => ⟨fun z => (rm_1 (by obtain ⟨i9, hi9, rfl⟩ := h.1; have := (hK.1 i9 hi9).1; rw [ix_nI (by omega)]; omega)).mp z.2, fun z => ⟨h.1, (rm_1 (by obtain ⟨i9, hi9, rfl⟩ := h.1; have := (hK.1 i9 hi9).1; rw [ix_nI (by omega)]; omega)).mpr z⟩⟩
    have hp3 : oA_add σ zp0 zp1 → oB_add σ zp0 zp1 → ((True) ↔ oC_add σ zp0 zp1) := fun _ _ => Iff.rfl
    have hz2 := zTh_cg hp1 hp2 hp3 hz1
    refine z_topi (pI_cg (zC_cg hp1 hp2 hp3)) ?_
    have hmf1 : zMf B0 F F6 := fun q hq => ho1 q (by omega)
    obtain ⟨m09, ⟨ma9, m19, me19⟩, ⟨mb9, m29, me29⟩, ⟨mc9, m39, me39⟩, ⟨n99, t99, m49⟩, mT9, mP9⟩ := id hM1
    refine z_ifp_ne (tgt := 35) hx hb dX4_add_30 (by decide) (fun hq10 => ?_) (fun hq10 => ?_)
    · obtain ⟨hA, hB, hC0⟩ := id hq10
      obtain ⟨hc0, hc1⟩ := id hA
      obtain ⟨i11, hi12, rfl⟩ := id hc0
      have hix13 : ix (nI i11) = i11 := ix_nI (by omega)
      have hl : lv_has ls 3 [(0, .ref (B0 + 23)), (1, .int (nI i11)), (2, .int zp1)] := hl
      have hsbi11 := (hK.1 i11 hi12).1
      have hx14 := mT9 i11 hi12
      obtain ⟨xnhx14, xrhx14, fhx14, xwhx14, xfhx14⟩ := id hx14
      have hB2 := hB
      simp only [oB_add, hix13] at hB2
      refine lv_aload_n hx hb dX4_add_35 rfl (lv_at hl 0 rfl) ?_
      refine z_get hx hb hts hown zlX4 rfl 1 (by decide) (hts _ q753) rfl hI m09 rfl dX4_add_36 ?_
      refine lv_iload_n hx hb dX4_add_39 rfl (lv_at hl 1 rfl) ?_
      refine z_ald3 (k := i11) (v := B0 + 25 + 2 * i11) hx hb hI m19 (by omega) (by omega) (me19 i11 (by omega)) dX4_add_40 ?_
      refine lv_iload_n hx hb dX4_add_41 rfl (lv_at hl 2 rfl) ?_
      refine z_callv hI (z_V (As := [.int zp1]) (rest := []) ⟨hx, hb, hml, hown, hts⟩ hI xrhx14 rfl (c_X3_add l G B0 F6 (B0 + 25 + 2 * i11) (B0 + 26 + 2 * i11) 60 (sn σ i11) (st σ i11) zp1 ⟨xnhx14, xrhx14, fhx14, xwhx14, xfhx14⟩ (by omega) (by omega)) (z_cwV vX3_add hts q792 ⟨Nat.le_of_ble_eq_true rfl, Nat.le_of_ble_eq_true rfl⟩) rfl hl.1 rfl (lv_room (Nat.le_of_ble_eq_true rfl)) dX4_add_42 ⟨Nat.le_of_ble_eq_true rfl, Nat.le_of_ble_eq_true rfl⟩) (fun F15 H locs hp17 hI => ?_)
      obtain ⟨ha18, hs18⟩ := hp17
      have hc19 : F15 (B0 + 23) = some (zO 4 [.int th1, .ref (B0 + 24), .ref (B0 + 33), .ref (B0 + 38), .ref (B0 + 40)]) := (hs18 _ (zne m09 xrhx14 (fun q => by cases q)) (zne m09 xwhx14 (fun q => by cases q))).trans m09
      have hc20 : F15 (B0 + 24) = some (zA3 G 4 ma9) := (hs18 _ (zne m19 xrhx14 (fun q => by cases q)) (by omega)).trans m19
      have hc21 : F15 (B0 + 33) = some (zA3 G 2 mb9) := (hs18 _ (zne m29 xrhx14 (fun q => by cases q)) (by omega)).trans m29
      have hc22 : F15 (B0 + 40) = some (zAI G 100 mc9) := (hs18 _ (zne m39 xrhx14 (fun q => by cases q)) (by omega)).trans m39
      obtain ⟨xn_18, xr_18, f_18, xw_18, xf_18⟩ := id ha18
      refine lv_aload_n hx hb dX4_add_45 rfl (lv_at hl 0 rfl) ?_
      refine z_get hx hb hts hown zlX4 rfl 1 (by decide) (hts _ q753) rfl hI hc19 rfl dX4_add_46 ?_
      refine lv_iload_n hx hb dX4_add_49 rfl (lv_at hl 1 rfl) ?_
      refine z_ald3 (k := i11) (v := B0 + 25 + 2 * i11) hx hb hI hc20 (by omega) (by omega) (me19 i11 (by omega)) dX4_add_50 ?_
      refine z_getN hx hb hts hown zlX3 rfl 1 (by decide) (List.mem_of_getElem? (i := 2) rfl) rfl hI xr_18 rfl dX4_add_51 ?_
      refine z_ri hx hb hr hlocks hI ?_ (Nat.le_of_ble_eq_true rfl) (Nat.le_of_ble_eq_true rfl) dX4_add_54
      refine ⟨_, rfl, th1, _, (MS.setT hM1 hi12 hs18 ⟨xn_18, xr_18, f_18, xw_18, xf_18⟩), hz2, fun _ => ⟨(by simp only [oA_add, oB_add, oC_add, rr_add, ss_add, hix13] <;> exact rfl), (by simp only [oA_add, oB_add, oC_add, rr_add, ss_add, hix13] <;> exact rfl)⟩, fun q => absurd ⟨hA, hB, hC0⟩ q, zMf.tr hmf1 (zMf.sm (a := B0 + 25 + 2 * i11) (b := B0 + 26 + 2 * i11) hs18 (by omega) (by omega))⟩
    · refine lv_iconst (v := nI 0) hx hb dX4_add_33 (by decide) ?_
      refine z_ri hx hb hr hlocks hI ?_ (Nat.le_of_ble_eq_true rfl) (Nat.le_of_ble_eq_true rfl) dX4_add_34
      exact ⟨_, rfl, th1, σ, hM1, hz2, fun q => absurd q hq10, fun _ => rfl, hmf1⟩
  · refine lv_iload_n hx hb dX4_add_1 rfl (lv_at hl 1 rfl) ?_
    refine z_calli hI (z_S (As := [.int zp0]) (rest := [.ref (B0 + 23)]) ⟨hx, hb, hml, hown, hts⟩ hI (c_X4_isText l G B0 F zp0) (z_cwS vX4_isText hts q772 ⟨Nat.le_of_ble_eq_true rfl, Nat.le_of_ble_eq_true rfl⟩) rfl hl.1 rfl (lv_room (Nat.le_of_ble_eq_true rfl)) dX4_add_2 ⟨Nat.le_of_ble_eq_true rfl, Nat.le_of_ble_eq_true rfl⟩) (fun r24 F23 H locs hp25 hI => ?_)
    obtain ⟨rfl, rfl⟩ := hp25
    refine z_ifp_eq (tgt := 19) hx hb dX4_add_5 (by decide) (fun hq26 => ?_) (fun hq26 => ?_)
    · refine lv_iconst (v := nI 0) hx hb dX4_add_19 (by decide) ?_
      refine jn20 (nI 0) _ ls H locs ?_ (lv_sub hl [0, 1, 2] rfl) hI
      exact ⟨rfl, pI_f (fun z => by have z2 := z.1; first | exact hq26 z2 | (first | exact hq26 z2 | exact i_le_n.mp z2 hq26 | exact l_le_n.mp z2 (lg_gt.mp hq26) | exact l_le_n.mp z2 (lg_lt.mp hq26) | exact hq26 ((in_pl1 (by omega)).mpr z2) | omega))⟩
    · refine lv_iload_n hx hb dX4_add_8 rfl (lv_at hl 2 rfl) ?_
      refine z_calli hI (z_S (As := [.int zp1]) (rest := [.ref (B0 + 23)]) ⟨hx, hb, hml, hown, hts⟩ hI (c_X4_isWord l G B0 F zp1) (z_cwS vX4_isWord hts q779 ⟨Nat.le_of_ble_eq_true rfl, Nat.le_of_ble_eq_true rfl⟩) rfl hl.1 rfl (lv_room (Nat.le_of_ble_eq_true rfl)) dX4_add_9 ⟨Nat.le_of_ble_eq_true rfl, Nat.le_of_ble_eq_true rfl⟩) (fun r28 F27 H locs hp29 hI => ?_)
      obtain ⟨rfl, rfl⟩ := hp29
      refine z_ifp_eq (tgt := 19) hx hb dX4_add_12 (by decide) (fun hq30 => ?_) (fun hq30 => ?_)
      · refine lv_iconst (v := nI 0) hx hb dX4_add_19 (by decide) ?_
        refine jn20 (nI 0) _ ls H locs ?_ (lv_sub hl [0, 1, 2] rfl) hI
        exact ⟨rfl, pI_f (fun z => by have z2 := z.2; first | exact hq30 z2 | (first | exact hq30 z2 | exact i_le_n.mp z2 hq30 | exact l_le_n.mp z2 (lg_gt.mp hq30) | exact l_le_n.mp z2 (lg_lt.mp hq30) | exact hq30 ((in_pl1 (by omega)).mpr z2) | omega))⟩
      · refine lv_iconst (v := nI 1) hx hb dX4_add_15 (by decide) ?_
        refine lv_goto (tgt := 20) hx hb dX4_add_16 (by decide) ?_
        refine jn20 (nI 1) _ ls H locs ?_ (lv_sub hl [0, 1, 2] rfl) hI
        exact ⟨rfl, pI_t ⟨(by first | exact hq26 | exact i_le_n.mpr hq26 | exact l_le_n.mpr (fun q => hq26 (lg_gt.mpr q)) | exact l_le_n.mpr (fun q => hq26 (lg_lt.mpr q)) | exact (in_pl1 (by omega)).mp hq26 | omega), (by first | exact hq30 | exact i_le_n.mpr hq30 | exact l_le_n.mpr (fun q => hq30 (lg_gt.mpr q)) | exact l_le_n.mpr (fun q => hq30 (lg_lt.mpr q)) | exact (in_pl1 (by omega)).mp hq30 | omega)⟩⟩

set_option maxHeartbeats 4000000 in
set_option maxRecDepth 100000 in
theorem c_X4_set (l : Launch) (G : zK) (B0 : Nat) (F : zM) (σ : Sg) (th zp0 zp1 zp2 : Int32) (hM : MS G B0 F σ th) (hK : SgOk σ) : Met l yX4_set (Cond.code yX4_set cX4_set 5 (some FieldType.int) :: zW) (zRm 3 67 0 0) (va_Pc [.ref (B0 + 23), .int zp0, .int zp1, .int zp2] (zPre G B0 F)) (zQi G B0 (zRP G B0 F σ (oA_set σ zp0 zp1 zp2) (oB_set σ zp0 zp1 zp2) (oC_set σ zp0 zp1 zp2) (ss_set σ zp0 zp1 zp2) (rr_set σ zp0 zp1 zp2))) 0 0 (zA B0) := by
  refine z_of (own := RX4) (by decide) rfl (Nat.le_of_ble_eq_true rfl) ?_
  intro p e s m below meth c ls hx hb hr hml hown hlocks hnm hts hl hI
  have hl : lv_has ls 5 [(0, .ref (B0 + 23)), (1, .int zp0), (2, .int zp1), (3, .int zp2)] := hl
  obtain ⟨m01, ⟨ma1, m11, me11⟩, ⟨mb1, m21, me21⟩, ⟨mc1, m31, me31⟩, ⟨n91, t91, m41⟩, mT1, mP1⟩ := id hM
  refine lv_aload_n hx hb dX4_set_0 rfl (lv_at hl 0 rfl) ?_
  refine z_join (σ := Int32) (fun x : Int32 => [(0, .ref (B0 + 23)), (1, .int zp0), (2, .int zp1), (3, .int zp2)]) (fun x : Int32 => [.int x, .ref (B0 + 23)]) (fun (x : Int32) (Fx : zM) => F = Fx ∧ x = pI ((okT zp0 ∧ okL (sn σ (ix zp0)) zp1) ∧ okW zp2)) 22 5 G B0 ?_ (fun jn22 => ?_)
  · intro x F2 ls H locs hi hl hI
    have hl : lv_has ls 5 [(0, .ref (B0 + 23)), (1, .int zp0), (2, .int zp1), (3, .int zp2)] := hl
    obtain ⟨hF, hx9⟩ := hi
    subst hF
    subst hx9
    refine lv_iconst (v := nI 1) hx hb dX4_set_22 (by decide) ?_
    refine z_topi (pI_1 (P := True) trivial) ?_
    refine lv_iconst (v := nI 1) hx hb dX4_set_23 (by decide) ?_
    refine z_topi (pI_1 (P := True) trivial) ?_
    refine z_calli hI (z_V (As := [.int (pI ((okT zp0 ∧ okL (sn σ (ix zp0)) zp1) ∧ okW zp2)), .int (pI (True)), .int (pI (True))]) (rest := []) ⟨hx, hb, hml, hown, hts⟩ hI m01 rfl (c_X4_passes l G B0 F σ th ((okT zp0 ∧ okL (sn σ (ix zp0)) zp1) ∧ okW zp2) (True) (True) hM) (z_cwV vX4_passes hts q788 ⟨Nat.le_of_ble_eq_true rfl, Nat.le_of_ble_eq_true rfl⟩) rfl hl.1 rfl (lv_room (Nat.le_of_ble_eq_true rfl)) dX4_set_24 ⟨Nat.le_of_ble_eq_true rfl, Nat.le_of_ble_eq_true rfl⟩) (fun r4 F3 H locs hp5 hI => ?_)
    obtain ⟨⟨th1, hM1, hz1⟩, rfl, ho1⟩ := hp5
    have hp1 : ((okT zp0 ∧ okL (sn σ (ix zp0)) zp1) ∧ okW zp2) ↔ oA_set σ zp0 zp1 zp2 := ⟨fun z => ⟨z.1.1, z.1.2, z.2⟩, fun z => ⟨⟨z.1, z.2.1⟩, z.2.2⟩⟩
    have hp2 : oA_set σ zp0 zp1 zp2 → ((True) ↔ oB_set σ zp0 zp1 zp2) := fun _ => Iff.rfl
    have hp3 : oA_set σ zp0 zp1 zp2 → oB_set σ zp0 zp1 zp2 → ((True) ↔ oC_set σ zp0 zp1 zp2) := fun _ _ => Iff.rfl
    have hz2 := zTh_cg hp1 hp2 hp3 hz1
    refine z_topi (pI_cg (zC_cg hp1 hp2 hp3)) ?_
    have hmf1 : zMf B0 F F3 := fun q hq => ho1 q (by omega)
    obtain ⟨m06, ⟨ma6, m16, me16⟩, ⟨mb6, m26, me26⟩, ⟨mc6, m36, me36⟩, ⟨n96, t96, m46⟩, mT6, mP6⟩ := id hM1
    refine z_ifp_ne (tgt := 32) hx hb dX4_set_27 (by decide) (fun hq7 => ?_) (fun hq7 => ?_)
    · obtain ⟨hA, hB, hC0⟩ := id hq7
      obtain ⟨hc0, hc1, hc2⟩ := id hA
      obtain ⟨i8, hi9, rfl⟩ := id hc0
      have hix10 : ix (nI i8) = i8 := ix_nI (by omega)
      have hl : lv_has ls 5 [(0, .ref (B0 + 23)), (1, .int (nI i8)), (2, .int zp1), (3, .int zp2)] := hl
      have hsbi8 := (hK.1 i8 hi9).1
      obtain ⟨j11, hj12, rfl⟩ := id hc1
      simp only [hix10] at hj12
      have hix13 : ix (nI j11) = j11 := ix_nI (by omega)
      have hl : lv_has ls 5 [(0, .ref (B0 + 23)), (1, .int (nI i8)), (2, .int (nI j11)), (3, .int zp2)] := hl
      have hx14 := mT6 i8 hi9
      obtain ⟨xnhx14, xrhx14, fhx14, xwhx14, xfhx14⟩ := id hx14
      refine lv_aload_n hx hb dX4_set_32 rfl (lv_at hl 0 rfl) ?_
      refine z_get hx hb hts hown zlX4 rfl 1 (by decide) (hts _ q753) rfl hI m06 rfl dX4_set_33 ?_
      refine lv_iload_n hx hb dX4_set_36 rfl (lv_at hl 1 rfl) ?_
      refine z_ald3 (k := i8) (v := B0 + 25 + 2 * i8) hx hb hI m16 (by omega) (by omega) (me16 i8 (by omega)) dX4_set_37 ?_
      refine lv_iload_n hx hb dX4_set_38 rfl (lv_at hl 2 rfl) ?_
      refine z_calli hI (z_V (As := [.int (nI j11)]) (rest := []) ⟨hx, hb, hml, hown, hts⟩ hI xrhx14 rfl (c_X3_at l G B0 F3 (B0 + 25 + 2 * i8) (B0 + 26 + 2 * i8) 60 (sn σ i8) (st σ i8) j11 ⟨xnhx14, xrhx14, fhx14, xwhx14, xfhx14⟩ (by omega) (by omega)) (z_cwV vX3_at hts q829 ⟨Nat.le_of_ble_eq_true rfl, Nat.le_of_ble_eq_true rfl⟩) rfl hl.1 rfl (lv_room (Nat.le_of_ble_eq_true rfl)) dX4_set_39 ⟨Nat.le_of_ble_eq_true rfl, Nat.le_of_ble_eq_true rfl⟩) (fun r16 F15 H locs hp17 hI => ?_)
      obtain ⟨rfl, rfl⟩ := hp17
      refine lv_istore (lv' := [(4, .int ((st σ i8) j11)), (0, .ref (B0 + 23)), (1, .int (nI i8)), (2, .int (nI j11)), (3, .int zp2)]) hx hb dX4_set_42 hl (by decide) rfl (fun ls hl => ?_)
      refine lv_aload_n hx hb dX4_set_44 rfl (lv_at hl 1 rfl) ?_
      refine z_get hx hb hts hown zlX4 rfl 1 (by decide) (hts _ q753) rfl hI m06 rfl dX4_set_45 ?_
      refine lv_iload_n hx hb dX4_set_48 rfl (lv_at hl 2 rfl) ?_
      refine z_ald3 (k := i8) (v := B0 + 25 + 2 * i8) hx hb hI m16 (by omega) (by omega) (me16 i8 (by omega)) dX4_set_49 ?_
      refine z_getN hx hb hts hown zlX3 rfl 0 (by decide) (List.mem_of_getElem? (i := 3) rfl) rfl hI xrhx14 rfl dX4_set_50 ?_
      refine lv_iload_n hx hb dX4_set_53 rfl (lv_at hl 3 rfl) ?_
      refine lv_iload_n hx hb dX4_set_54 rfl (lv_at hl 4 rfl) ?_
      refine z_ist (k := j11) hx hb hI xwhx14 (by omega) (by omega) dX4_set_55 (fun H locs F18 hw19 ho20 hI => ?_)
      have hc21 : F18 (B0 + 23) = some (zO 4 [.int th1, .ref (B0 + 24), .ref (B0 + 33), .ref (B0 + 38), .ref (B0 + 40)]) := (ho20 _ (zne m06 xwhx14 (fun q => by cases q))).trans m06
      have hc22 : F18 (B0 + 24) = some (zA3 G 4 ma6) := (ho20 _ (by omega)).trans m16
      have hc23 : F18 (B0 + 33) = some (zA3 G 2 mb6) := (ho20 _ (by omega)).trans m26
      have hc24 : F18 (B0 + 40) = some (zAI G 100 mc6) := (ho20 _ (by omega)).trans m36
      have hc25 : F18 (B0 + 25 + 2 * i8) = some (zO 3 [.ref (B0 + 26 + 2 * i8), .int (nI (sn σ i8))]) := (ho20 _ (zne xrhx14 xwhx14 (fun q => by cases q))).trans xrhx14
      refine lv_iload hx hb dX4_set_56 (lv_at hl 0 rfl) ?_
      refine z_ri hx hb hr hlocks hI ?_ (Nat.le_of_ble_eq_true rfl) (Nat.le_of_ble_eq_true rfl) dX4_set_58
      refine ⟨_, rfl, th1, _, (MS.setT hM1 hi9 (zSm.r ho20) ⟨xnhx14, hc25, _, hw19, upd_cg xfhx14⟩), hz2, fun _ => ⟨(by simp only [oA_set, oB_set, oC_set, rr_set, ss_set, hix10, hix13] <;> exact rfl), (by simp only [oA_set, oB_set, oC_set, rr_set, ss_set, hix10, hix13] <;> exact rfl)⟩, fun q => absurd ⟨hA, hB, hC0⟩ q, zMf.tr hmf1 (zMf.sm (a := B0 + 25 + 2 * i8) (b := B0 + 26 + 2 * i8) (zSm.r ho20) (by omega) (by omega))⟩
    · refine lv_iconst (v := nI 0) hx hb dX4_set_30 (by decide) ?_
      refine z_ri hx hb hr hlocks hI ?_ (Nat.le_of_ble_eq_true rfl) (Nat.le_of_ble_eq_true rfl) dX4_set_31
      exact ⟨_, rfl, th1, σ, hM1, hz2, fun q => absurd q hq7, fun _ => rfl, hmf1⟩
  · refine lv_aload_n hx hb dX4_set_1 rfl (lv_at hl 0 rfl) ?_
    refine lv_iload_n hx hb dX4_set_2 rfl (lv_at hl 1 rfl) ?_
    refine lv_iload_n hx hb dX4_set_3 rfl (lv_at hl 2 rfl) ?_
    refine z_calli hI (z_V (As := [.int zp0, .int zp1]) (rest := [.ref (B0 + 23)]) ⟨hx, hb, hml, hown, hts⟩ hI m01 rfl (c_X4_isPlace l G B0 F σ th zp0 zp1 hM hK) (z_cwV vX4_isPlace hts q825 ⟨Nat.le_of_ble_eq_true rfl, Nat.le_of_ble_eq_true rfl⟩) rfl hl.1 rfl (lv_room (Nat.le_of_ble_eq_true rfl)) dX4_set_4 ⟨Nat.le_of_ble_eq_true rfl, Nat.le_of_ble_eq_true rfl⟩) (fun r27 F26 H locs hp28 hI => ?_)
    obtain ⟨rfl, rfl⟩ := hp28
    refine z_ifp_eq (tgt := 21) hx hb dX4_set_7 (by decide) (fun hq29 => ?_) (fun hq29 => ?_)
    · refine lv_iconst (v := nI 0) hx hb dX4_set_21 (by decide) ?_
      refine jn22 (nI 0) _ ls H locs ?_ (lv_sub hl [0, 1, 2, 3] rfl) hI
      exact ⟨rfl, pI_f (fun z => by have z2 := z.1; first | exact hq29 z2 | (first | exact hq29 z2 | exact i_le_n.mp z2 hq29 | exact l_le_n.mp z2 (lg_gt.mp hq29) | exact l_le_n.mp z2 (lg_lt.mp hq29) | exact hq29 ((in_pl1 (by omega)).mpr z2) | omega))⟩
    · refine lv_iload_n hx hb dX4_set_10 rfl (lv_at hl 3 rfl) ?_
      refine z_calli hI (z_S (As := [.int zp2]) (rest := [.ref (B0 + 23)]) ⟨hx, hb, hml, hown, hts⟩ hI (c_X4_isWord l G B0 F zp2) (z_cwS vX4_isWord hts q779 ⟨Nat.le_of_ble_eq_true rfl, Nat.le_of_ble_eq_true rfl⟩) rfl hl.1 rfl (lv_room (Nat.le_of_ble_eq_true rfl)) dX4_set_11 ⟨Nat.le_of_ble_eq_true rfl, Nat.le_of_ble_eq_true rfl⟩) (fun r31 F30 H locs hp32 hI => ?_)
      obtain ⟨rfl, rfl⟩ := hp32
      refine z_ifp_eq (tgt := 21) hx hb dX4_set_14 (by decide) (fun hq33 => ?_) (fun hq33 => ?_)
      · refine lv_iconst (v := nI 0) hx hb dX4_set_21 (by decide) ?_
        refine jn22 (nI 0) _ ls H locs ?_ (lv_sub hl [0, 1, 2, 3] rfl) hI
        exact ⟨rfl, pI_f (fun z => by have z2 := z.2; first | exact hq33 z2 | (first | exact hq33 z2 | exact i_le_n.mp z2 hq33 | exact l_le_n.mp z2 (lg_gt.mp hq33) | exact l_le_n.mp z2 (lg_lt.mp hq33) | exact hq33 ((in_pl1 (by omega)).mpr z2) | omega))⟩
      · refine lv_iconst (v := nI 1) hx hb dX4_set_17 (by decide) ?_
        refine lv_goto (tgt := 22) hx hb dX4_set_18 (by decide) ?_
        refine jn22 (nI 1) _ ls H locs ?_ (lv_sub hl [0, 1, 2, 3] rfl) hI
        exact ⟨rfl, pI_t ⟨(by first | exact hq29 | exact i_le_n.mpr hq29 | exact l_le_n.mpr (fun q => hq29 (lg_gt.mpr q)) | exact l_le_n.mpr (fun q => hq29 (lg_lt.mpr q)) | exact (in_pl1 (by omega)).mp hq29 | omega), (by first | exact hq33 | exact i_le_n.mpr hq33 | exact l_le_n.mpr (fun q => hq33 (lg_gt.mpr q)) | exact l_le_n.mpr (fun q => hq33 (lg_lt.mpr q)) | exact (in_pl1 (by omega)).mp hq33 | omega)⟩⟩

set_option maxHeartbeats 4000000 in
set_option maxRecDepth 100000 in
theorem c_X4_remove (l : Launch) (G : zK) (B0 : Nat) (F : zM) (σ : Sg) (th zp0 zp1 : Int32) (hM : MS G B0 F σ th) (hK : SgOk σ) : Met l yX4_remove (Cond.code yX4_remove cX4_remove 3 (some FieldType.int) :: zW) (zRm 3 67 0 0) (va_Pc [.ref (B0 + 23), .int zp0, .int zp1] (zPre G B0 F)) (zQi G B0 (zRP G B0 F σ (oA_remove σ zp0 zp1) (oB_remove σ zp0 zp1) (oC_remove σ zp0 zp1) (ss_remove σ zp0 zp1) (rr_remove σ zp0 zp1))) 0 0 (zA B0) := by
  refine z_of (own := RX4) (by decide) rfl (Nat.le_of_ble_eq_true rfl) ?_
  intro p e s m below meth c ls hx hb hr hml hown hlocks hnm hts hl hI
  have hl : lv_has ls 3 [(0, .ref (B0 + 23)), (1, .int zp0), (2, .int zp1)] := hl
  obtain ⟨m01, ⟨ma1, m11, me11⟩, ⟨mb1, m21, me21⟩, ⟨mc1, m31, me31⟩, ⟨n91, t91, m41⟩, mT1, mP1⟩ := id hM
  refine lv_aload_n hx hb dX4_remove_0 rfl (lv_at hl 0 rfl) ?_
  refine lv_aload_n hx hb dX4_remove_1 rfl (lv_at hl 0 rfl) ?_
  refine lv_iload_n hx hb dX4_remove_2 rfl (lv_at hl 1 rfl) ?_
  refine lv_iload_n hx hb dX4_remove_3 rfl (lv_at hl 2 rfl) ?_
  refine z_calli hI (z_V (As := [.int zp0, .int zp1]) (rest := [.ref (B0 + 23)]) ⟨hx, hb, hml, hown, hts⟩ hI m01 rfl (c_X4_isPlace l G B0 F σ th zp0 zp1 hM hK) (z_cwV vX4_isPlace hts q825 ⟨Nat.le_of_ble_eq_true rfl, Nat.le_of_ble_eq_true rfl⟩) rfl hl.1 rfl (lv_room (Nat.le_of_ble_eq_true rfl)) dX4_remove_4 ⟨Nat.le_of_ble_eq_true rfl, Nat.le_of_ble_eq_true rfl⟩) (fun r3 F2 H locs hp4 hI => ?_)
  obtain ⟨rfl, rfl⟩ := hp4
  refine lv_iconst (v := nI 1) hx hb dX4_remove_7 (by decide) ?_
  refine z_topi (pI_1 (P := True) trivial) ?_
  refine lv_iconst (v := nI 1) hx hb dX4_remove_8 (by decide) ?_
  refine z_topi (pI_1 (P := True) trivial) ?_
  refine z_calli hI (z_V (As := [.int (pI (okT zp0 ∧ okL (sn σ (ix zp0)) zp1)), .int (pI (True)), .int (pI (True))]) (rest := []) ⟨hx, hb, hml, hown, hts⟩ hI m01 rfl (c_X4_passes l G B0 F σ th (okT zp0 ∧ okL (sn σ (ix zp0)) zp1) (True) (True) hM) (z_cwV vX4_passes hts q788 ⟨Nat.le_of_ble_eq_true rfl, Nat.le_of_ble_eq_true rfl⟩) rfl hl.1 rfl (lv_room (Nat.le_of_ble_eq_true rfl)) dX4_remove_9 ⟨Nat.le_of_ble_eq_true rfl, Nat.le_of_ble_eq_true rfl⟩) (fun r6 F5 H locs hp7 hI => ?_)
  obtain ⟨⟨th1, hM1, hz1⟩, rfl, ho1⟩ := hp7
  have hp1 : (okT zp0 ∧ okL (sn σ (ix zp0)) zp1) ↔ oA_remove σ zp0 zp1 := Iff.rfl
  have hp2 : oA_remove σ zp0 zp1 → ((True) ↔ oB_remove σ zp0 zp1) := fun _ => Iff.rfl
  have hp3 : oA_remove σ zp0 zp1 → oB_remove σ zp0 zp1 → ((True) ↔ oC_remove σ zp0 zp1) := fun _ _ => Iff.rfl
  have hz2 := zTh_cg hp1 hp2 hp3 hz1
  refine z_topi (pI_cg (zC_cg hp1 hp2 hp3)) ?_
  have hmf1 : zMf B0 F F5 := fun q hq => ho1 q (by omega)
  obtain ⟨m08, ⟨ma8, m18, me18⟩, ⟨mb8, m28, me28⟩, ⟨mc8, m38, me38⟩, ⟨n98, t98, m48⟩, mT8, mP8⟩ := id hM1
  refine z_ifp_eq (tgt := 28) hx hb dX4_remove_12 (by decide) (fun hq9 => ?_) (fun hq9 => ?_)
  · refine lv_iconst (v := nI 0) hx hb dX4_remove_28 (by decide) ?_
    refine z_ri hx hb hr hlocks hI ?_ (Nat.le_of_ble_eq_true rfl) (Nat.le_of_ble_eq_true rfl) dX4_remove_29
    exact ⟨_, rfl, th1, σ, hM1, hz2, fun q => absurd q hq9, fun _ => rfl, hmf1⟩
  · obtain ⟨hA, hB, hC0⟩ := id hq9
    obtain ⟨hc0, hc1⟩ := id hA
    obtain ⟨i10, hi11, rfl⟩ := id hc0
    have hix12 : ix (nI i10) = i10 := ix_nI (by omega)
    have hl : lv_has ls 3 [(0, .ref (B0 + 23)), (1, .int (nI i10)), (2, .int zp1)] := hl
    have hsbi10 := (hK.1 i10 hi11).1
    obtain ⟨j13, hj14, rfl⟩ := id hc1
    simp only [hix12] at hj14
    have hix15 : ix (nI j13) = j13 := ix_nI (by omega)
    have hl : lv_has ls 3 [(0, .ref (B0 + 23)), (1, .int (nI i10)), (2, .int (nI j13))] := hl
    have hx16 := mT8 i10 hi11
    obtain ⟨xnhx16, xrhx16, fhx16, xwhx16, xfhx16⟩ := id hx16
    refine lv_aload_n hx hb dX4_remove_15 rfl (lv_at hl 0 rfl) ?_
    refine z_get hx hb hts hown zlX4 rfl 1 (by decide) (hts _ q753) rfl hI m08 rfl dX4_remove_16 ?_
    refine lv_iload_n hx hb dX4_remove_19 rfl (lv_at hl 1 rfl) ?_
    refine z_ald3 (k := i10) (v := B0 + 25 + 2 * i10) hx hb hI m18 (by omega) (by omega) (me18 i10 (by omega)) dX4_remove_20 ?_
    refine lv_iload_n hx hb dX4_remove_21 rfl (lv_at hl 2 rfl) ?_
    refine z_calli hI (z_V (As := [.int (nI j13)]) (rest := []) ⟨hx, hb, hml, hown, hts⟩ hI xrhx16 rfl (c_X3_remove l G B0 F5 (B0 + 25 + 2 * i10) (B0 + 26 + 2 * i10) 60 (sn σ i10) (st σ i10) j13 ⟨xnhx16, xrhx16, fhx16, xwhx16, xfhx16⟩ (by omega) (by omega)) (z_cwV vX3_remove hts q837 ⟨Nat.le_of_ble_eq_true rfl, Nat.le_of_ble_eq_true rfl⟩) rfl hl.1 rfl (lv_room (Nat.le_of_ble_eq_true rfl)) dX4_remove_22 ⟨Nat.le_of_ble_eq_true rfl, Nat.le_of_ble_eq_true rfl⟩) (fun r18 F17 H locs hp19 hI => ?_)
    obtain ⟨rfl, hp19⟩ := hp19
    obtain ⟨ha20, hs20⟩ := hp19
    have hc21 : F17 (B0 + 23) = some (zO 4 [.int th1, .ref (B0 + 24), .ref (B0 + 33), .ref (B0 + 38), .ref (B0 + 40)]) := (hs20 _ (zne m08 xrhx16 (fun q => by cases q)) (zne m08 xwhx16 (fun q => by cases q))).trans m08
    have hc22 : F17 (B0 + 24) = some (zA3 G 4 ma8) := (hs20 _ (zne m18 xrhx16 (fun q => by cases q)) (by omega)).trans m18
    have hc23 : F17 (B0 + 33) = some (zA3 G 2 mb8) := (hs20 _ (zne m28 xrhx16 (fun q => by cases q)) (by omega)).trans m28
    have hc24 : F17 (B0 + 40) = some (zAI G 100 mc8) := (hs20 _ (zne m38 xrhx16 (fun q => by cases q)) (by omega)).trans m38
    obtain ⟨xn_20, xr_20, f_20, xw_20, xf_20⟩ := id ha20
    refine lv_goto (tgt := 29) hx hb dX4_remove_25 (by decide) ?_
    refine z_ri hx hb hr hlocks hI ?_ (Nat.le_of_ble_eq_true rfl) (Nat.le_of_ble_eq_true rfl) dX4_remove_29
    refine ⟨_, rfl, th1, _, (MS.setT hM1 hi11 hs20 ⟨xn_20, xr_20, f_20, xw_20, xf_20⟩), hz2, fun _ => ⟨(by simp only [oA_remove, oB_remove, oC_remove, rr_remove, ss_remove, hix12, hix15] <;> exact rfl), (by simp only [oA_remove, oB_remove, oC_remove, rr_remove, ss_remove, hix12, hix15] <;> exact rfl)⟩, fun q => absurd ⟨hA, hB, hC0⟩ q, zMf.tr hmf1 (zMf.sm (a := B0 + 25 + 2 * i10) (b := B0 + 26 + 2 * i10) hs20 (by omega) (by omega))⟩

